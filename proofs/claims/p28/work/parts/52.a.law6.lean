theorem r16_ne {α : Type} {f : Nat → Nat → α} {g : Nat → α} {k : Nat} (h : k ≠ 16) (i : Nat) : r16 f g k i = f k i := if_neg h
theorem r16_MD {dm : Nat → Nat → Prop} {d : Nat → Prop} (h : MD dm) : MD (r16 dm d) := ⟨by rw [r16_ne (by decide)]; exact h.1, fun f hf => by rw [r16_ne (by decide)]; exact h.2 f hf⟩
section DB17
variable {p : Program} {l : Launch} {e : Env} {R : Room} {s : State} {m : MethodId} {args : Array Value} {below : List Frame} {meth : Method} {c : Code} {cells slots : Nat} {Q : State → Prop} {cc : ByteArray} {nL : Nat} {Ts : List Cond} {own : String} {D : va_G} {A : Nat → Prop} {tys : List (ClassId × FieldType)} {ad : Nat → Nat → Nat} {dm : Nat → Nat → Prop} {w : CF} {pc : Nat} {lv : List (Nat × Value)} {rest : List Value}
theorem g_dload (F : FX p s m args c cc nL Ts own D A tys) {i : Nat} {x : UInt64} (j : Nat) (d : decode cc pc = .ok (.dload i, 2)) (hj : lv[j]? = some (i, .double x)) (kk : GG p l e R s m args below meth c D A ad dm nL cells slots Q w (pc + 2) lv (.double x :: rest)) : GG p l e R s m args below meth c D A ad dm nL cells slots Q w pc lv rest := fun H locs ls hw hS hl => lv_dload F.1.1 F.1.2.1 d (lv_at hl j hj) (kk H locs ls hw hS hl)
theorem g_dstore (F : FX p s m args c cc nL Ts own D A tys) {i : Nat} {x : UInt64} {lv1 : List (Nat × Value)} (d : decode cc pc = .ok (.dstore i, 2)) (hn : i + 1 < nL) (hv : (i, Value.double x) :: lv.filter (fun q => !(q.1 == i) && (!(q.1 == i + 1) && !(q.1 + 1 == i && q.2.category == 2))) = lv1) (kk : GG p l e R s m args below meth c D A ad dm nL cells slots Q w (pc + 2) lv1 rest) : GG p l e R s m args below meth c D A ad dm nL cells slots Q w pc lv (.double x :: rest) := fun H locs ls hw hS hl => lv_dstore F.1.1 F.1.2.1 d hl hn hv (fun ls' hl' => kk H locs ls' hw hS hl')
end DB17
set_option maxHeartbeats 4000000 in
set_option maxRecDepth 100000 in
theorem cc_passN (l : Launch) (D : va_G) (A : Nat → Prop) (cs : Nat → ClassId) (ad : Nat → Nat → Nat) (dm : Nat → Nat → Prop) (σ : SG) (Lx : Nat → List Nat) (cap : Nat → Nat) (mk : Nat → Int32) (ev : SG) (zl tx mt tn : Nat → Nat) (tc : SG) (w0 : CF) (n tq : Nat) (hC : CD dm n cap tq) (u : Int32) (hN : ¬ inR u 1 100) (hfl : l.stackTraces = false) : vx_Met l yX5_pass wsX5_pass ({ frames := 10, cells := 1, slots := 6, locals := 306 }) (va_Pc [.ref (ad 10 0), .int u] (PW D A (tysG cs) ad dm (cw D ad cs σ Lx cap mk ev zl tx mt tn tc w0))) (QW D A (tysG cs) (fun rz ad1 dm1 w1 => False ∧ rz = some (.int 0) ∧ ad = ad1 ∧ dm = dm1 ∧ (cw D ad cs σ Lx cap mk ev zl tx mt tn tc w0) = w1)) (XW D A (tysG cs) ad dm (cw D ad cs σ Lx cap mk ev zl tx mt tn tc w0) (fun E => E = xIA ∧ ¬ inR u 1 100)) 1 6 A := by
  refine q_start (own := RX5) [.ref (ad 10 0), .int u] (cc := cX5_pass) (maxL := 5) (ret := (some .int)) (lv0 := [(0, .ref (ad 10 0)), (1, .int u)]) (by decide) rfl rfl (Nat.le_of_ble_eq_true rfl) rfl ?_
  intro p e s m below meth c F hr hlocks hno
  have hinX5 : ∀ w ∈ wsX50, w ∈ wsX5_pass := by decide +kernel
  refine g_iload_n F 1 dX5_pass_0 rfl rfl ?_
  refine g_iconst F dX5_pass_1 (v := 1) (by decide) ?_
  refine g_bipush F dX5_pass_2 (v := 100) (by decide) ?_
  refine x_callS F (rest := []) [.int u, .int 1, .int 100] (cc_require l D A cs ad dm σ Lx cap mk ev zl tx mt tn tc w0 n tq hC u 1 100 hfl) (va_cwS 3 F.1.2.2.2.2 gX5_pass_X5_requireInRange rfl rfl rfl (by decide +kernel) ⟨Nat.le_of_ble_eq_true rfl, Nat.le_of_ble_eq_true rfl⟩) rfl rfl (Nat.le_of_ble_eq_true rfl) dX5_pass_4 ⟨Nat.le_of_eq (Nat.zero_add _), Nat.le_of_eq (Nat.zero_add _)⟩ (x_prop F hno hlocks (fun E h => h) (Nat.le_of_eq (Nat.zero_add _)) (Nat.le_of_eq (Nat.zero_add _))) (fun _ _ _ _ zv1 => ?_)
  obtain ⟨hc4, rfl, rfl, rfl, rfl⟩ := zv1
  exact absurd hc4 hN

