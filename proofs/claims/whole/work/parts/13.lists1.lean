section CAS
variable {p : Program} {l : Launch} {e : Env} {R : Room} {s : State} {m : MethodId} {args : Array Value} {below : List Frame} {meth : Method} {c : Code} {cells slots : Nat} {Q : State → Prop} {cc : ByteArray} {nL : Nat} {Ts : List Cond} {own : String} {D : va_G} {A : Nat → Prop} {cs : Nat → ClassId} {ad : Nat → Nat → Nat} {dm : Nat → Nat → Prop} {w : CF} {pc : Nat} {lv : List (Nat × Value)} {rest : List Value}
theorem ca_iald (F : FX p s m args c cc nL Ts own D A (tysG cs)) {k i n j : Nat} {f : Nat → Int32} {x v : Int32} (hd : dm k i) (he : w k i = .inl (cs 0, n, .inl f)) (hx : x = nI j) (hj : j < n ∧ n < 2 ^ 31) (hv : f j = v) (d : decode cc pc = .ok (.iaload, 1))
    (kk : GG p l e R s m args below meth c D A ad dm nL cells slots Q w (pc + 1) lv (.int v :: rest)) : GG p l e R s m args below meth c D A ad dm nL cells slots Q w pc lv (.int x :: .ref (ad k i) :: rest) := by
  subst hx
  subst hv
  refine g_iald F 0 hd he rfl (vp_in_nI hj.1 hj.2) d ?_
  rw [nI_clamp (by omega)]
  exact kk
theorem ca_iast (F : FX p s m args c cc nL Ts own D A (tysG cs)) {k i n j : Nat} {f : Nat → Int32} {x v : Int32} (hd : dm k i) (he : w k i = .inl (cs 0, n, .inl f)) (hx : x = nI j) (hj : j < n ∧ n < 2 ^ 31) (d : decode cc pc = .ok (.iastore, 1))
    (kk : GG p l e R s m args below meth c D A ad dm nL cells slots Q (up2 w k i (.inl (cs 0, n, .inl (upd f j v)))) (pc + 1) lv rest) : GG p l e R s m args below meth c D A ad dm nL cells slots Q w pc lv (.int v :: .int x :: .ref (ad k i) :: rest) := by
  subst hx
  refine g_iast F 0 hd he rfl (vp_in_nI hj.1 hj.2) d ?_
  rw [nI_clamp (by omega)]
  exact kk
theorem ca_aald (F : FX p s m args c cc nL Ts own D A (tysG cs)) {k i n j t0 x : Nat} {cA : ClassId} {C : String} {f : Nat → Option Nat} {ix : Int32} (hd : dm k i) (he : w k i = .inl (cA, n, .inr (.inr (.inr (.inr f))))) (ht : (tysG cs)[t0]? = some (cA, .object C)) (hx : ix = nI j) (hj : j < n ∧ n < 2 ^ 31) (hv : f j = some x) (d : decode cc pc = .ok (.aaload, 1))
    (kk : GG p l e R s m args below meth c D A ad dm nL cells slots Q w (pc + 1) lv (.ref x :: rest)) : GG p l e R s m args below meth c D A ad dm nL cells slots Q w pc lv (.int ix :: .ref (ad k i) :: rest) := by
  subst hx
  refine g_aldq F t0 hd he ht (vp_in_nI hj.1 hj.2) d ?_
  rw [nI_clamp (by omega), hv]
  exact kk
end CAS
theorem nI_len {i : Nat} {z : Int32} {x : Value} {y : Value} {Lx : Nat → List Nat} (h : z = nI (Lx i).length) : [x, y, .int z][2]? = some (.int (nI (Lx i).length)) := by rw [h]; rfl
set_option maxHeartbeats 4000000 in
set_option maxRecDepth 100000 in
theorem cl_size (l : Launch) (D : va_G) (A : Nat → Prop) (cs : Nat → ClassId) (ad : Nat → Nat → Nat) (dm : Nat → Nat → Prop) (σ : SG) (Lx : Nat → List Nat) (cap : Nat → Nat) (mk : Nat → Int32) (ev : SG) (zl tx mt tn : Nat → Nat) (tc : SG) (w0 : CF) (n tq : Nat) (hC : CD dm n cap tq) (i : Nat) (hi : i < 11) : Met l yJx4a65c_size_8abf5 wsJx4a65c_size_8abf5 ({ frames := 0, cells := 0, slots := 0, locals := 0 }) (va_Pc [.ref (ad 15 i)] (PW D A (tysG cs) ad dm (cw D ad cs σ Lx cap mk ev zl tx mt tn tc w0))) (QW D A (tysG cs) (fun r ad1 dm1 w1 => r = some (.int (nI ((Lx i).length))) ∧ ad1 = ad ∧ dm1 = dm ∧ w1 = (cw D ad cs σ Lx cap mk ev zl tx mt tn tc w0))) 0 0 A := by
  refine g_start (own := RJx4a65c) [.ref (ad 15 i)] (cc := cJx4a65c_size_8abf5) (maxL := 1) (ret := (some .int)) (lv0 := [(0, .ref (ad 15 i))]) (by decide) rfl rfl (Nat.le_of_ble_eq_true rfl) rfl ?_
  intro p e s m below meth c F hr hlocks hno
  have hinJx4a65c : ∀ w ∈ wsJx4a65c0, w ∈ wsJx4a65c_size_8abf5 := by decide +kernel
  refine g_aload_n F 0 dJx4a65c_size_8abf5_0 rfl rfl ?_
  refine g_getf (k := 15) (i := i) (ci := 0) (C := RJx4a65c) (T := TJx4a65c) (N := 3) (fs := (cL D ad Lx cap mk i)) (fk := 2) F hinJx4a65c (hC.2.2.2.2.2.1 i (by omega)) rfl rfl (by decide) (by decide +kernel) rfl rfl dJx4a65c_size_8abf5_1 ?_
  exact g_qi F hr hlocks (fun _ h => h) ⟨rfl, rfl, rfl, rfl⟩ (by decide) (by decide) dJx4a65c_size_8abf5_4
set_option maxHeartbeats 4000000 in
set_option maxRecDepth 100000 in
theorem cl_isEmpty (l : Launch) (D : va_G) (A : Nat → Prop) (cs : Nat → ClassId) (ad : Nat → Nat → Nat) (dm : Nat → Nat → Prop) (σ : SG) (Lx : Nat → List Nat) (cap : Nat → Nat) (mk : Nat → Int32) (ev : SG) (zl tx mt tn : Nat → Nat) (tc : SG) (w0 : CF) (n tq : Nat) (hC : CD dm n cap tq) (i : Nat) (hi : i < 11) : Met l yJx4a65c_isEmpty_aae02 wsJx4a65c_isEmpty_aae02 ({ frames := 0, cells := 0, slots := 0, locals := 0 }) (va_Pc [.ref (ad 15 i)] (PW D A (tysG cs) ad dm (cw D ad cs σ Lx cap mk ev zl tx mt tn tc w0))) (QW D A (tysG cs) (fun r ad1 dm1 w1 => r = some (.int (bi (nI (Lx i).length = 0))) ∧ ad1 = ad ∧ dm1 = dm ∧ w1 = (cw D ad cs σ Lx cap mk ev zl tx mt tn tc w0))) 0 0 A := by
  refine g_start (own := RJx4a65c) [.ref (ad 15 i)] (cc := cJx4a65c_isEmpty_aae02) (maxL := 1) (ret := (some .boolean)) (lv0 := [(0, .ref (ad 15 i))]) (by decide) rfl rfl (Nat.le_of_ble_eq_true rfl) rfl ?_
  intro p e s m below meth c F hr hlocks hno
  have hinJx4a65c : ∀ w ∈ wsJx4a65c0, w ∈ wsJx4a65c_isEmpty_aae02 := by decide +kernel
  refine g_aload_n F 0 dJx4a65c_isEmpty_aae02_0 rfl rfl ?_
  refine g_getf (k := 15) (i := i) (ci := 0) (C := RJx4a65c) (T := TJx4a65c) (N := 3) (fs := (cL D ad Lx cap mk i)) (fk := 2) F hinJx4a65c (hC.2.2.2.2.2.1 i (by omega)) rfl rfl (by decide) (by decide +kernel) rfl rfl dJx4a65c_isEmpty_aae02_1 ?_
  refine g_cut (w2 := (cw D ad cs σ Lx cap mk ev zl tx mt tn tc w0)) (pc2 := 12) (lv2 := [(0, .ref (ad 15 i))]) (st2 := [.int (bi ((nI ((Lx i).length)) = 0))]) ?_ (fun hJ1 => ?_)
  ·
    exact g_qz F hr (bi_nar _) hlocks (fun _ h => h) ⟨(congrArg some (rfl)), rfl, rfl, rfl⟩ (by decide) (by decide) dJx4a65c_isEmpty_aae02_12
  ·
    refine g_if_ne F (tgt := 11) dJx4a65c_isEmpty_aae02_4 (by decide) (fun c2 => ?_) (fun c2 => ?_)
    ·
      refine g_iconst F dJx4a65c_isEmpty_aae02_11 (v := 0) (by decide) ?_
      exact g_top (bi_f c2) hJ1
    ·
      refine g_iconst F dJx4a65c_isEmpty_aae02_7 (v := 1) (by decide) ?_
      refine g_goto F (tgt := 12) dJx4a65c_isEmpty_aae02_8 (by decide) ?_
      exact g_top (bi_t c2) hJ1

