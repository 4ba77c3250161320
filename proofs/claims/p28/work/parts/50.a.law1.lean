section LH16
variable {p : Program} {l : Launch} {e : Env} {R : Room} {s : State} {m : MethodId} {args : Array Value} {below : List Frame} {meth : Method} {c : Code} {cells slots : Nat} {Q : State → Prop} {cc : ByteArray} {nL : Nat} {Ts : List Cond} {own : String} {D : va_G} {A : Nat → Prop} {tys : List (ClassId × FieldType)} {ad : Nat → Nat → Nat} {dm : Nat → Nat → Prop} {w : CF} {pc : Nat} {lv : List (Nat × Value)} {rest : List Value}
theorem g_i2l (F : FX p s m args c cc nL Ts own D A tys) {x : Int32} (d : decode cc pc = .ok (.i2l, 1)) (kk : GG p l e R s m args below meth c D A ad dm nL cells slots Q w (pc + 1) lv (.long x.toInt64 :: rest)) : GG p l e R s m args below meth c D A ad dm nL cells slots Q w pc lv (.int x :: rest) := fun H locs ls hw hS hl => lv_i2l F.1.1 F.1.2.1 d rfl (kk H locs ls hw hS hl)
theorem h_start {l : Launch} {D : va_G} {A : Nat → Prop} {tys : List (ClassId × FieldType)} {ad : Nat → Nat → Nat} {dm : Nat → Nat → Prop} {w : CF} {y : MethodName} {ws ws' : List Cond} {rm : Room} {Qc : Array Value → State → Outcome → State → Prop} {mc ms : Nat} {hh : List (Nat × Nat × Nat × Nat)} (av : List Value) {cc : ByteArray} {maxL : Nat} {ret : Option FieldType} {own : String} {lv0 : List (Nat × Value)} (hy : plainName y.cls = true) (hw : ws = Cond.codeWith y cc maxL ret hh :: ws') (how : y.cls = own) (hlen : (lg_sl av).length ≤ maxL) (hlv : lv_args 0 av = lv0)
    (body : ∀ (p : Program) (e : Env) (s : State) (m : MethodId) (below : List Frame) (meth : Method) (c : Code), FX p s m av.toArray c cc maxL ws own D A tys → meth.sig.returnType = ret → meth.locks = false → c.exceptionTable.toList = tableOf hh → GG p l e rm s m av.toArray below meth c D A ad dm maxL 0 0 (MQ below Qc av.toArray s mc ms A) w 0 lv0 []) : Met l y ws rm (va_Pc av (PW D A tys ad dm w)) Qc mc ms A := by
  refine va_MetW (hh := hh) (cc := cc) (maxL := maxL) (ret := ret) hy hw ?_
  intro p e s m args below meth c s₁ B hml hv
  obtain ⟨rfl, hW, hK, hA, hSF⟩ := hv
  have hts := atoms_spec (ws := ws) B.pre
  have hown : s.vm.findClass own = some m.cls := how ▸ findClass_of_methodNamed B.named
  have htab := vx_table (x := y) B (hts _ (by rw [hw]; exact List.mem_cons_self))
  rw [lg_entry_eq]
  subst hlv
  exact body p e s m below meth c ⟨⟨B.exec, B.bytes, hml, hown, hts⟩, hK, hA, hSF⟩ B.returns B.notSynchronized htab s.heap [] _ hW va_S.rf (lv_entry av hlen)
theorem x_callVc (F : FX p s m args c cc nL Ts own D A tys) {y : MethodName} {bytes : ByteArray} {maxL mc ms n index : Nat} {ret : Option FieldType} {ws : List Cond} {rm : Room} {post : Option Value → (Nat → Nat → Nat) → (Nat → Nat → Prop) → CF → Prop} {px : String → Prop} {C : String} {b k i ci : Nat} {T : u_T} {N : Nat} {fs : List Value} (As : List Value) {st : List Value} (hM : vx_Met l y ws rm (va_Pc (.ref b :: As) (PW D A tys ad dm w)) (QW D A tys post) (XW D A tys ad dm w px) mc ms A) (cw : CallW R s args own C index y bytes maxL ret ws rm mc ms n) (hb : b = ad k i) (hd : dm k i) (he : w k i = .inr (ci, fs)) (hc : vwCl[ci]? = some (C, T, N)) (hn : As.length = n) (hst : st = As.reverse ++ .ref b :: rest) (hroom : (rest.map fun v => v.category).sum ≤ 8) (d : decode cc pc = .ok (.invokevirtual index, 3)) (hf : cells + mc ≤ R.cells ∧ slots + ms ≤ R.slots)
    (kx : ∀ (E : String) (ce : Cell) (q9 : Addr), px E → s.vm.findClass E = some ce.cls → ce.vm = .none → ∀ (H1 : Heap) (locs1 : List Loc) (ls : Array Slot), HW D A ad dm w H1 → va_S A s.heap H1 locs1 → lv_has ls nL lv → H1[q9]? = some ce → vx_W p l e R s m args below meth c H1 locs1 (cells + mc) (slots + ms) Q (F0 m pc ls rest) q9)
    (kk : ∀ (v : Option Value) (ad1 : Nat → Nat → Nat) (dm1 : Nat → Nat → Prop) (w1 : CF), post v ad1 dm1 w1 → GG p l e R s m args below meth c D A ad1 dm1 nL (cells + mc) (slots + ms) Q w1 (pc + 3) lv (v.toList ++ rest)) : GG p l e R s m args below meth c D A ad dm nL cells slots Q w pc lv st := by
  intro H locs ls hw hS hl
  subst hst
  subst hb
  obtain ⟨L, f, hP, hD, hm, hj⟩ := id hw
  obtain ⟨q0, hq0⟩ := va_pl_get (X := []) (f := f) (hm k i hd).1
  rw [(hm k i hd).2, he] at hq0
  exact qx_call (vx_runV (As := As) (rest := rest) F.1 hM cw ⟨fun a U g mk q => ⟨q.1, q.2.call a g mk⟩, va_recv F.2.1 hP hc hq0, fun U hU hW => ⟨rfl, F.PW hw hS hU hW⟩⟩ rfl hn hl.1 rfl (lv_room hroom) d hf) hS hl (fun E ce q9 H1 locs1 a1 a2 a3 a4 a5 a6 => kx E ce q9 a1 a6 a5 H1 locs1 ls a2 a3 hl a4) kk
theorem c_catch (F : FX p s m args c cc nL Ts own D A tys) {hh : List (Nat × Nat × Nat × Nat)} (htab : c.exceptionTable.toList = tableOf hh) {E name : String} (pre : List ExceptionTableEntry) (x : ExceptionTableEntry) (suf : List ExceptionTableEntry) (hsplit : tableOf hh = pre ++ x :: suf) (hpass : ∀ z ∈ pre, z.catchType ≠ 0 ∧ ∃ nm : String, Cond.classLink own z.catchType nm ∈ Ts ∧ va_Nc E nm s) (hx : covers x pc = true) (h0 : x.catchType ≠ 0) (hlink : Cond.classLink own x.catchType name ∈ Ts) (hcast : Cond.castable E name ∈ kxB) {ce : Cell} {q9 : Addr} (hcl : s.vm.findClass E = some ce.cls) (hv : ce.vm = .none) {H1 : Heap} {locs1 : List Loc} {ls : Array Slot} (hw : HW D A ad dm w H1) (hS : va_S A s.heap H1 locs1) (hl : lv_has ls nL lv) (hcell : H1[q9]? = some ce)
    (kk : GG p l e R s m args below meth c D A ad dm nL cells slots Q w x.handlerPc lv [.ref q9]) : vx_W p l e R s m args below meth c H1 locs1 cells slots Q (F0 m pc ls rest) q9 :=
  vx_catch F.1.2.2.2.1 pre x suf (htab.trans hsplit) (fun z hz => by
    obtain ⟨h1, nm, h2, h3⟩ := hpass z hz
    exact .inr ⟨h1, nm, F.1.2.2.2.2 _ h2, h3⟩) hx h0 (F.1.2.2.2.2 _ hlink) (va_any rfl (F.2.2.2.2.1.2.2.2.2.2.2.1 _ hcast)) hcell hv hcl (kk H1 locs1 ls hw hS hl)
end LH16

