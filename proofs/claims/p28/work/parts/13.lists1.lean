section CAS
variable {p : Program} {l : Launch} {e : Env} {R : Room} {s : State} {m : MethodId} {args : Array Value} {below : List Frame} {meth : Method} {c : Code} {cells slots : Nat} {Q : State → Prop} {cc : ByteArray} {nL : Nat} {Ts : List Cond} {own : String} {D : va_G} {A : Nat → Prop} {cs : Nat → ClassId} {ad : Nat → Nat → Nat} {dm : Nat → Nat → Prop} {w : CF} {pc : Nat} {lv : List (Nat × Value)} {rest : List Value}
theorem ca_iald (F : FX p s m args c cc nL Ts own D A (tysG cs)) {k i n j : Nat} {f : Nat → Int32} {x v : Int32} (hd : dm k i) (he : w k i = .inl (cs 0, n, .inl f)) (hx : x = nI j) (hj : j < n ∧ n < 2 ^ 31) (hv : f j = v) (d : decode cc pc = .ok (.iaload, 1))
    (kk : GG p l e R s m args below meth c D A ad dm nL cells slots Q w (pc + 1) lv (.int v :: rest)) : GG p l e R s m args below meth c D A ad dm nL cells slots Q w pc lv (.int x :: .ref (ad k i) :: rest) := by
  subst hx
  subst hv
  refine g_iald F 0 hd he rfl (vp_in_nI hj.1 hj.2) d ?_
  rw [nI_clamp (by omega)]
  exact kk
theorem ca_iast (F : FX p s m args c cc nL Ts own D A (tysG cs)) {k i n j : Nat} {f : Nat → Int32} {x v : Int32} (hd : dm k i) (he : w k i = .inl (cs 0, n, .inl f)) (hx : x = nI j) (hj : j < n ∧ n < 2 ^ 31) (d : decode cc pc = .ok (.iastore, 1))
    (kk : GG p l e R s m args below meth c D A ad dm nL cells slots Q (up2 w k i (.inl (cs 0, n, .inl (upd f j v)))) (pc + 1) lv rest) : GG p l e R s m args below meth c D A ad dm nL cells slots Q w pc lv (.int v :: .int x :: .ref (ad k i) :: rest) := by
  subst hx
  refine g_iast F 0 hd he rfl (vp_in_nI hj.1 hj.2) d ?_
  rw [nI_clamp (by omega)]
  exact kk
theorem ca_aald (F : FX p s m args c cc nL Ts own D A (tysG cs)) {k i n j t0 x : Nat} {cA : ClassId} {C : String} {f : Nat → Option Nat} {ix : Int32} (hd : dm k i) (he : w k i = .inl (cA, n, .inr (.inr (.inr (.inr f))))) (ht : (tysG cs)[t0]? = some (cA, .object C)) (hx : ix = nI j) (hj : j < n ∧ n < 2 ^ 31) (hv : f j = some x) (d : decode cc pc = .ok (.aaload, 1))
    (kk : GG p l e R s m args below meth c D A ad dm nL cells slots Q w (pc + 1) lv (.ref x :: rest)) : GG p l e R s m args below meth c D A ad dm nL cells slots Q w pc lv (.int ix :: .ref (ad k i) :: rest) := by
  subst hx
  refine g_aldq F t0 hd he ht (vp_in_nI hj.1 hj.2) d ?_
  rw [nI_clamp (by omega), hv]
  exact kk
end CAS
theorem nI_len {i : Nat} {z : Int32} {x : Value} {y : Value} {Lx : Nat → List Nat} (h : z = nI (Lx i).length) : [x, y, .int z][2]? = some (.int (nI (Lx i).length)) := by rw [h]; rfl
set_option maxHeartbeats 4000000 in
set_option maxRecDepth 100000 in
theorem cl_size (l : Launch) (D : va_G) (A : Nat → Prop) (cs : Nat → ClassId) (ad : Nat → Nat → Nat) (dm : Nat → Nat → Prop) (σ : SG) (Lx : Nat → List Nat) (cap : Nat → Nat) (mk : Nat → Int32) (ev : SG) (zl tx mt tn : Nat → Nat) (tc : SG) (w0 : CF) (n tq : Nat) (hC : CD dm n cap tq) (i : Nat) (hi : i < 11) : Met l yJx4a65c_size_8abf5 wsJx4a65c_size_8abf5 ({ frames := 0, cells := 0, slots := 0, locals := 0 }) (va_Pc [.ref (ad 15 i)] (PW D A (tysG cs) ad dm (cw D ad cs σ Lx cap mk ev zl tx mt tn tc w0))) (QW D A (tysG cs) (fun r ad1 dm1 w1 => r = some (.int (nI ((Lx i).length))) ∧ ad = ad1 ∧ dm = dm1 ∧ (cw D ad cs σ Lx cap mk ev zl tx mt tn tc w0) = w1)) 0 0 A := by
  refine g_start (own := RJx4a65c) [.ref (ad 15 i)] (cc := cJx4a65c_size_8abf5) (maxL := 1) (ret := (some .int)) (lv0 := [(0, .ref (ad 15 i))]) (by decide) rfl rfl (Nat.le_of_ble_eq_true rfl) rfl ?_
  intro p e s m below meth c F hr hlocks hno
  have hinJx4a65c : ∀ w ∈ wsJx4a65c0, w ∈ wsJx4a65c_size_8abf5 := by decide +kernel
  refine g_aload_n F 0 dJx4a65c_size_8abf5_0 rfl rfl ?_
  refine g_getf (k := 15) (i := i) (ci := 0) (C := RJx4a65c) (T := TJx4a65c) (N := 3) (fs := (cL D ad Lx cap mk i)) (fk := 2) F hinJx4a65c (hC.2.2.2.2.2.1 i (by omega)) rfl rfl (by decide) (by decide +kernel) rfl rfl dJx4a65c_size_8abf5_1 ?_
  exact g_qi F hr hlocks (fun _ h => h) ⟨rfl, rfl, rfl, rfl⟩ (by decide) (by decide) dJx4a65c_size_8abf5_4
set_option maxHeartbeats 4000000 in
set_option maxRecDepth 100000 in
theorem cl_isEmpty (l : Launch) (D : va_G) (A : Nat → Prop) (cs : Nat → ClassId) (ad : Nat → Nat → Nat) (dm : Nat → Nat → Prop) (σ : SG) (Lx : Nat → List Nat) (cap : Nat → Nat) (mk : Nat → Int32) (ev : SG) (zl tx mt tn : Nat → Nat) (tc : SG) (w0 : CF) (n tq : Nat) (hC : CD dm n cap tq) (i : Nat) (hi : i < 11) : Met l yJx4a65c_isEmpty_aae02 wsJx4a65c_isEmpty_aae02 ({ frames := 0, cells := 0, slots := 0, locals := 0 }) (va_Pc [.ref (ad 15 i)] (PW D A (tysG cs) ad dm (cw D ad cs σ Lx cap mk ev zl tx mt tn tc w0))) (QW D A (tysG cs) (fun r ad1 dm1 w1 => r = some (.int (bi (nI (Lx i).length = 0))) ∧ ad = ad1 ∧ dm = dm1 ∧ (cw D ad cs σ Lx cap mk ev zl tx mt tn tc w0) = w1)) 0 0 A := by
  refine g_start (own := RJx4a65c) [.ref (ad 15 i)] (cc := cJx4a65c_isEmpty_aae02) (maxL := 1) (ret := (some .boolean)) (lv0 := [(0, .ref (ad 15 i))]) (by decide) rfl rfl (Nat.le_of_ble_eq_true rfl) rfl ?_
  intro p e s m below meth c F hr hlocks hno
  have hinJx4a65c : ∀ w ∈ wsJx4a65c0, w ∈ wsJx4a65c_isEmpty_aae02 := by decide +kernel
  refine g_aload_n F 0 dJx4a65c_isEmpty_aae02_0 rfl rfl ?_
  refine g_getf (k := 15) (i := i) (ci := 0) (C := RJx4a65c) (T := TJx4a65c) (N := 3) (fs := (cL D ad Lx cap mk i)) (fk := 2) F hinJx4a65c (hC.2.2.2.2.2.1 i (by omega)) rfl rfl (by decide) (by decide +kernel) rfl rfl dJx4a65c_isEmpty_aae02_1 ?_
  refine g_cut (w2 := (cw D ad cs σ Lx cap mk ev zl tx mt tn tc w0)) (pc2 := 12) (lv2 := [(0, .ref (ad 15 i))]) (st2 := [.int (bi ((nI ((Lx i).length)) = 0))]) ?_ (fun hJ1 => ?_)
  ·
    exact g_qz F hr (bi_nar _) hlocks (fun _ h => h) ⟨(congrArg some (rfl)), rfl, rfl, rfl⟩ (by decide) (by decide) dJx4a65c_isEmpty_aae02_12
  ·
    refine g_if_ne F (tgt := 11) dJx4a65c_isEmpty_aae02_4 (by decide) (fun c2 => ?_) (fun c2 => ?_)
    ·
      refine g_iconst F dJx4a65c_isEmpty_aae02_11 (v := 0) (by decide) ?_
      exact g_top (bi_f c2) hJ1
    ·
      refine g_iconst F dJx4a65c_isEmpty_aae02_7 (v := 1) (by decide) ?_
      refine g_goto F (tgt := 12) dJx4a65c_isEmpty_aae02_8 (by decide) ?_
      exact g_top (bi_t c2) hJ1
set_option maxHeartbeats 4000000 in
set_option maxRecDepth 100000 in
theorem cl_chk1 (l : Launch) (D : va_G) (A : Nat → Prop) (cs : Nat → ClassId) (ad : Nat → Nat → Nat) (dm : Nat → Nat → Prop) (σ : SG) (Lx : Nat → List Nat) (cap : Nat → Nat) (mk : Nat → Int32) (ev : SG) (zl tx mt tn : Nat → Nat) (tc : SG) (w0 : CF) (n tq : Nat) (hC : CD dm n cap tq) (a b : Nat) (hab : a < b) (hb31 : b < 2 ^ 31) : Met l yJ3_checkIndex_8e157 wsJ3_checkIndex_8e157 ({ frames := 0, cells := 0, slots := 0, locals := 0 }) (va_Pc [.int (nI a), .int (nI b), .null] (PW D A (tysG cs) ad dm (cw D ad cs σ Lx cap mk ev zl tx mt tn tc w0))) (QW D A (tysG cs) (fun r ad1 dm1 w1 => r = some (.int (nI a)) ∧ ad = ad1 ∧ dm = dm1 ∧ (cw D ad cs σ Lx cap mk ev zl tx mt tn tc w0) = w1)) 0 0 A := by
  refine g_start (own := RJ3) [.int (nI a), .int (nI b), .null] (cc := cJ3_checkIndex_8e157) (maxL := 3) (ret := (some .int)) (lv0 := [(0, .int (nI a)), (1, .int (nI b)), (2, .null)]) (by decide) rfl rfl (Nat.le_of_ble_eq_true rfl) rfl ?_
  intro p e s m below meth c F hr hlocks hno
  refine g_iload_n F 0 dJ3_checkIndex_8e157_0 rfl rfl ?_
  refine g_if_lt F (tgt := 9) dJ3_checkIndex_8e157_1 (by decide) (fun c1 => ?_) (fun c1 => ?_)
  ·
    exact absurd ((nI_ltE (show (nI a) = nI a from rfl) (show 0 = nI 0 from rfl) (show a < 2 ^ 31 by omega) (show 0 < 2 ^ 31 by omega)).mp c1) (by omega)
  ·
    refine g_iload_n F 0 dJ3_checkIndex_8e157_4 rfl rfl ?_
    refine g_iload_n F 1 dJ3_checkIndex_8e157_5 rfl rfl ?_
    refine g_icmp_lt F (tgt := 16) dJ3_checkIndex_8e157_6 (by decide) (fun c2 => ?_) (fun c2 => ?_)
    ·
      refine g_iload_n F 0 dJ3_checkIndex_8e157_16 rfl rfl ?_
      exact g_qi F hr hlocks (fun _ h => h) ⟨rfl, rfl, rfl, rfl⟩ (by decide) (by decide) dJ3_checkIndex_8e157_17
    ·
      exact absurd ((nI_ltE (show (nI a) = nI a from rfl) (show (nI b) = nI b from rfl) (show a < 2 ^ 31 by omega) (show b < 2 ^ 31 by omega)).mpr (by omega)) c2
set_option maxHeartbeats 4000000 in
set_option maxRecDepth 100000 in
theorem cl_chk (l : Launch) (D : va_G) (A : Nat → Prop) (cs : Nat → ClassId) (ad : Nat → Nat → Nat) (dm : Nat → Nat → Prop) (σ : SG) (Lx : Nat → List Nat) (cap : Nat → Nat) (mk : Nat → Int32) (ev : SG) (zl tx mt tn : Nat → Nat) (tc : SG) (w0 : CF) (n tq : Nat) (hC : CD dm n cap tq) (a b : Nat) (hab : a < b) (hb31 : b < 2 ^ 31) : Met l yJ15_checkIndex_7cf53 wsJ15_checkIndex_7cf53 ({ frames := 1, cells := 0, slots := 0, locals := 22 }) (va_Pc [.int (nI a), .int (nI b)] (PW D A (tysG cs) ad dm (cw D ad cs σ Lx cap mk ev zl tx mt tn tc w0))) (QW D A (tysG cs) (fun r ad1 dm1 w1 => r = some (.int (nI a)) ∧ ad = ad1 ∧ dm = dm1 ∧ (cw D ad cs σ Lx cap mk ev zl tx mt tn tc w0) = w1)) 0 0 A := by
  refine g_start (own := RJ15) [.int (nI a), .int (nI b)] (cc := cJ15_checkIndex_7cf53) (maxL := 2) (ret := (some .int)) (lv0 := [(0, .int (nI a)), (1, .int (nI b))]) (by decide) rfl rfl (Nat.le_of_ble_eq_true rfl) rfl ?_
  intro p e s m below meth c F hr hlocks hno
  refine g_iload_n F 0 dJ15_checkIndex_7cf53_0 rfl rfl ?_
  refine g_iload_n F 1 dJ15_checkIndex_7cf53_1 rfl rfl ?_
  refine g_null F dJ15_checkIndex_7cf53_2 ?_
  refine q_callS F (rest := []) [.int (nI a), .int (nI b), .null] (cl_chk1 l D A cs ad dm σ Lx cap mk ev zl tx mt tn tc w0 n tq hC a b hab hb31) (va_cwS 3 F.1.2.2.2.2 gJ15_checkIndex_7cf53_J3_checkIndex_8e157 rfl rfl rfl (by decide +kernel) ⟨Nat.le_of_ble_eq_true rfl, Nat.le_of_ble_eq_true rfl⟩) rfl rfl (Nat.le_of_ble_eq_true rfl) dJ15_checkIndex_7cf53_3 ⟨Nat.le_of_ble_eq_true rfl, Nat.le_of_ble_eq_true rfl⟩ (fun _ _ _ _ v1 => ?_)
  obtain ⟨rfl, rfl, rfl, rfl⟩ := v1
  show GG p l e _ s m _ below meth c D A ad dm _ _ _ _ (cw D ad cs σ Lx cap mk ev zl tx mt tn tc w0) 6 _ [.int (nI a)]
  exact g_qi F hr hlocks (fun _ h => h) ⟨rfl, rfl, rfl, rfl⟩ (by decide) (by decide) dJ15_checkIndex_7cf53_6
theorem cX_at {ad : Nat → Nat → Nat} {xs : List Nat} {a : Nat} (h : a < xs.length) : cX ad xs a = some (ad 17 (xs.getD a 0)) := by
  unfold cX
  rw [List.getD_eq_getElem?_getD, List.getElem?_eq_getElem h]
  rfl
set_option maxHeartbeats 4000000 in
set_option maxRecDepth 100000 in
theorem cl_elem (l : Launch) (D : va_G) (A : Nat → Prop) (cs : Nat → ClassId) (ad : Nat → Nat → Nat) (dm : Nat → Nat → Prop) (σ : SG) (Lx : Nat → List Nat) (cap : Nat → Nat) (mk : Nat → Int32) (ev : SG) (zl tx mt tn : Nat → Nat) (tc : SG) (w0 : CF) (n tq : Nat) (hC : CD dm n cap tq) (i a : Nat) (hi : i < 11) (ha : a < (Lx i).length) (hlc : (Lx i).length ≤ cap i) (hc60 : cap i ≤ 60) : Met l yJx4a65c_elementData_915e3 wsJx4a65c_elementData_915e3 ({ frames := 0, cells := 0, slots := 0, locals := 0 }) (va_Pc [.ref (ad 15 i), .int (nI a)] (PW D A (tysG cs) ad dm (cw D ad cs σ Lx cap mk ev zl tx mt tn tc w0))) (QW D A (tysG cs) (fun r ad1 dm1 w1 => r = some (.ref (ad 17 ((Lx i).getD a 0))) ∧ ad = ad1 ∧ dm = dm1 ∧ (cw D ad cs σ Lx cap mk ev zl tx mt tn tc w0) = w1)) 0 0 A := by
  refine g_start (own := RJx4a65c) [.ref (ad 15 i), .int (nI a)] (cc := cJx4a65c_elementData_915e3) (maxL := 2) (ret := (some (.object "java/lang/Object"))) (lv0 := [(0, .ref (ad 15 i)), (1, .int (nI a))]) (by decide) rfl rfl (Nat.le_of_ble_eq_true rfl) rfl ?_
  intro p e s m below meth c F hr hlocks hno
  have hinJx4a65c : ∀ w ∈ wsJx4a65c0, w ∈ wsJx4a65c_elementData_915e3 := by decide +kernel
  refine g_aload_n F 0 dJx4a65c_elementData_915e3_0 rfl rfl ?_
  refine g_getf (k := 15) (i := i) (ci := 0) (C := RJx4a65c) (T := TJx4a65c) (N := 3) (fs := (cL D ad Lx cap mk i)) (fk := 1) F hinJx4a65c (hC.2.2.2.2.2.1 i (by omega)) rfl rfl (by decide) (by decide +kernel) rfl (congrArg (fun z => some (Value.ref z)) (show cE D ad cap i = ad 16 i from if_neg (by omega))) dJx4a65c_elementData_915e3_1 ?_
  refine g_iload_n F 1 dJx4a65c_elementData_915e3_4 rfl rfl ?_
  refine ca_aald (k := 16) (i := i) (n := (cap i)) (f := (cX ad (Lx i))) (C := "java/lang/Object") (t0 := 5) F (hC.2.2.2.2.2.2.1 i (by omega) (by omega)) rfl rfl rfl ⟨by omega, by omega⟩ (x := (ad 17 ((Lx i).getD a 0))) (cX_at ha) dJx4a65c_elementData_915e3_5 ?_
  exact g_qa F hr (.inl ⟨_, rfl⟩) hlocks (fun _ h => h) ⟨rfl, rfl, rfl, rfl⟩ (by decide) (by decide) dJx4a65c_elementData_915e3_6
set_option maxHeartbeats 4000000 in
set_option maxRecDepth 100000 in
theorem cl_get (l : Launch) (D : va_G) (A : Nat → Prop) (cs : Nat → ClassId) (ad : Nat → Nat → Nat) (dm : Nat → Nat → Prop) (σ : SG) (Lx : Nat → List Nat) (cap : Nat → Nat) (mk : Nat → Int32) (ev : SG) (zl tx mt tn : Nat → Nat) (tc : SG) (w0 : CF) (n tq : Nat) (hC : CD dm n cap tq) (i a : Nat) (hi : i < 11) (ha : a < (Lx i).length) (hlc : (Lx i).length ≤ cap i) (hc60 : cap i ≤ 60) : Met l yJx4a65c_get_915e3 wsJx4a65c_get_915e3 ({ frames := 2, cells := 0, slots := 0, locals := 43 }) (va_Pc [.ref (ad 15 i), .int (nI a)] (PW D A (tysG cs) ad dm (cw D ad cs σ Lx cap mk ev zl tx mt tn tc w0))) (QW D A (tysG cs) (fun r ad1 dm1 w1 => r = some (.ref (ad 17 ((Lx i).getD a 0))) ∧ ad = ad1 ∧ dm = dm1 ∧ (cw D ad cs σ Lx cap mk ev zl tx mt tn tc w0) = w1)) 0 0 A := by
  refine g_start (own := RJx4a65c) [.ref (ad 15 i), .int (nI a)] (cc := cJx4a65c_get_915e3) (maxL := 2) (ret := (some (.object "java/lang/Object"))) (lv0 := [(0, .ref (ad 15 i)), (1, .int (nI a))]) (by decide) rfl rfl (Nat.le_of_ble_eq_true rfl) rfl ?_
  intro p e s m below meth c F hr hlocks hno
  have hinJx4a65c : ∀ w ∈ wsJx4a65c0, w ∈ wsJx4a65c_get_915e3 := by decide +kernel
  refine g_iload_n F 1 dJx4a65c_get_915e3_0 rfl rfl ?_
  refine g_aload_n F 0 dJx4a65c_get_915e3_1 rfl rfl ?_
  refine g_getf (k := 15) (i := i) (ci := 0) (C := RJx4a65c) (T := TJx4a65c) (N := 3) (fs := (cL D ad Lx cap mk i)) (fk := 2) F hinJx4a65c (hC.2.2.2.2.2.1 i (by omega)) rfl rfl (by decide) (by decide +kernel) rfl rfl dJx4a65c_get_915e3_2 ?_
  refine q_callS F (rest := []) [.int (nI a), .int (nI ((Lx i).length))] (cl_chk l D A cs ad dm σ Lx cap mk ev zl tx mt tn tc w0 n tq hC a ((Lx i).length) ha (by omega)) (va_cwS 2 F.1.2.2.2.2 gJx4a65c_get_915e3_J15_checkIndex_7cf53 rfl rfl rfl (by decide +kernel) ⟨Nat.le_of_ble_eq_true rfl, Nat.le_of_ble_eq_true rfl⟩) rfl rfl (Nat.le_of_ble_eq_true rfl) dJx4a65c_get_915e3_5 ⟨Nat.le_of_ble_eq_true rfl, Nat.le_of_ble_eq_true rfl⟩ (fun _ _ _ _ v1 => ?_)
  obtain ⟨rfl, rfl, rfl, rfl⟩ := v1
  show GG p l e _ s m _ below meth c D A ad dm _ _ _ _ (cw D ad cs σ Lx cap mk ev zl tx mt tn tc w0) 8 _ [.int (nI a)]
  refine g_pop F dJx4a65c_get_915e3_8 rfl ?_
  refine g_aload_n F 0 dJx4a65c_get_915e3_9 rfl rfl ?_
  refine g_iload_n F 1 dJx4a65c_get_915e3_10 rfl rfl ?_
  refine q_callV F (C := RJx4a65c) (k := 15) (i := i) (ci := 0) (T := TJx4a65c) (N := 3) (rest := []) [.int (nI a)] (cl_elem l D A cs ad dm σ Lx cap mk ev zl tx mt tn tc w0 n tq hC i a hi ha hlc hc60) (cwV 1 F.1.2.2.2.2 gJx4a65c_get_915e3_Jx4a65c_elementData_915e3 rfl rfl rfl (by decide +kernel) ⟨Nat.le_of_ble_eq_true rfl, Nat.le_of_ble_eq_true rfl⟩) rfl (hC.2.2.2.2.2.1 i (by omega)) rfl rfl rfl rfl (Nat.le_of_ble_eq_true rfl) dJx4a65c_get_915e3_11 ⟨Nat.le_of_ble_eq_true rfl, Nat.le_of_ble_eq_true rfl⟩ (fun _ _ _ _ v2 => ?_)
  obtain ⟨rfl, rfl, rfl, rfl⟩ := v2
  show GG p l e _ s m _ below meth c D A ad dm _ _ _ _ (cw D ad cs σ Lx cap mk ev zl tx mt tn tc w0) 14 _ [.ref (ad 17 ((Lx i).getD a 0))]
  exact g_qa F hr (.inl ⟨_, rfl⟩) hlocks (fun _ h => h) ⟨rfl, rfl, rfl, rfl⟩ (by decide) (by decide) dJx4a65c_get_915e3_14
theorem cw_mk {D : va_G} {ad : Nat → Nat → Nat} {cs : Nat → ClassId} {σ : SG} {Lx : Nat → List Nat} {cap : Nat → Nat} {mk : Nat → Int32} {ev : SG} {zl tx mt tn : Nat → Nat} {tc : SG} {w0 : CF} {i : Nat} (v : Int32) : up2 (cw D ad cs σ Lx cap mk ev zl tx mt tn tc w0) 15 i (.inr (0, (cL D ad Lx cap mk i).set 0 (.int v))) = cw D ad cs σ Lx cap (va_up mk i v) ev zl tx mt tn tc w0 := by
  refine cw_up ?_ (fun a b h => ?_)
  · show va_E_id (.inr (0, cL D ad Lx cap (va_up mk i v) i)) = _
    unfold cL
    rw [va_up_self]
    rfl
  · unfold cw
    by_cases q5 : a = 15
    · have hb : b ≠ i := fun z => h ⟨q5, z⟩
      unfold cL
      rw [va_up_ne _ _ hb]
    · simp only [if_neg q5]
/-- a list's places and its row, changed together -/
theorem cw_ls {D : va_G} {ad : Nat → Nat → Nat} {cs : Nat → ClassId} {σ : SG} {Lx : Nat → List Nat} {cap : Nat → Nat} {mk : Nat → Int32} {ev : SG} {zl tx mt tn : Nat → Nat} {tc : SG} {w0 w : CF} {i : Nat} (xs : List Nat) (h5 : w 15 i = .inr (0, cL D ad (va_up Lx i xs) cap mk i)) (h6 : w 16 i = .inl (cs 5, cap i, .inr (.inr (.inr (.inr (cX ad xs)))))) (h : ∀ a b, ¬ ((a = 15 ∨ a = 16) ∧ b = i) → w a b = cw D ad cs σ Lx cap mk ev zl tx mt tn tc w0 a b) : w = cw D ad cs σ (va_up Lx i xs) cap mk ev zl tx mt tn tc w0 := by
  funext a b
  by_cases q : (a = 15 ∨ a = 16) ∧ b = i
  · obtain ⟨q | q, rfl⟩ := q
    · subst q; rw [h5]; rfl
    · subst q; rw [h6]
      show _ = va_E_id (.inl (cs 5, cap b, .inr (.inr (.inr (.inr (cX ad (va_up Lx b xs b)))))))
      rw [va_up_self]
  · rw [h a b q]
    unfold cw
    by_cases q5 : a = 15
    · have hb : b ≠ i := fun z => q ⟨.inl q5, z⟩
      unfold cL
      rw [va_up_ne _ _ hb]
    · by_cases q6 : a = 16
      · have hb : b ≠ i := fun z => q ⟨.inr q6, z⟩
        rw [va_up_ne _ _ hb]
        simp only [if_neg q5]
      · simp only [if_neg q5, if_neg q6]
theorem cX_out {ad : Nat → Nat → Nat} {xs : List Nat} {k : Nat} (h : xs.length ≤ k) : cX ad xs k = none := by
  unfold cX; rw [List.getElem?_eq_none h]; rfl
theorem cX_rm {ad : Nat → Nat → Nat} {xs : List Nat} {a : Nat} (ha : a < xs.length) (h1 : a + 1 < xs.length) : va_up (va_cpy (cX ad xs) (cX ad xs) (a + 1) a (xs.length - 1 - a)) (xs.length - 1) none = cX ad (xs.eraseIdx a) := by
  funext k
  have hl : (xs.eraseIdx a).length = xs.length - 1 := List.length_eraseIdx_of_lt ha
  by_cases hk : k = xs.length - 1
  · subst hk
    rw [va_up_self, cX_out (by omega)]
  · rw [va_up_ne _ _ hk]
    rcases Nat.lt_or_ge k a with q | q
    · rw [pk_cpy_out (Or.inl q)]
      unfold cX
      rw [List.getElem?_eraseIdx_of_lt q]
    · rcases Nat.lt_or_ge k (xs.length - 1) with q2 | q2
      · rw [pk_cpy_in q (by omega), show a + 1 + (k - a) = k + 1 by omega]
        unfold cX
        rw [List.getElem?_eraseIdx_of_ge q]
      · rw [pk_cpy_out (Or.inr (by omega)), cX_out (by omega), cX_out (by omega)]
theorem cX_rl {ad : Nat → Nat → Nat} {xs : List Nat} {a : Nat} (h1 : a + 1 = xs.length) : va_up (cX ad xs) (xs.length - 1) none = cX ad (xs.eraseIdx a) := by
  funext k
  have hl : (xs.eraseIdx a).length = xs.length - 1 := List.length_eraseIdx_of_lt (by omega)
  by_cases hk : k = xs.length - 1
  · subst hk
    rw [va_up_self, cX_out (by omega)]
  · rw [va_up_ne _ _ hk]
    rcases Nat.lt_or_ge k a with q | q
    · unfold cX
      rw [List.getElem?_eraseIdx_of_lt q]
    · rw [cX_out (by omega), cX_out (by omega)]
theorem getD_mem9 {xs : List Nat} {k : Nat} (h : k < xs.length) : xs.getD k 0 ∈ xs := by
  rw [List.getD_eq_getElem?_getD, List.getElem?_eq_getElem h]
  exact List.getElem_mem h
set_option maxHeartbeats 4000000 in
set_option maxRecDepth 100000 in
theorem cl_fastRemove (l : Launch) (D : va_G) (A : Nat → Prop) (cs : Nat → ClassId) (ad : Nat → Nat → Nat) (dm : Nat → Nat → Prop) (σ : SG) (Lx : Nat → List Nat) (cap : Nat → Nat) (mk : Nat → Int32) (ev : SG) (zl tx mt tn : Nat → Nat) (tc : SG) (w0 : CF) (n tq : Nat) (hC : CD dm n cap tq) (i a : Nat) (hi : i < 11) (ha : a < (Lx i).length) (hlc : (Lx i).length ≤ cap i) (hc60 : cap i ≤ 60) (hLn : ∀ j ∈ Lx i, j < n) : Met l yJx4a65c_fastRemove_b59b0 wsJx4a65c_fastRemove_b59b0 ({ frames := 1, cells := 0, slots := 0, locals := 40 }) (va_Pc [.ref (ad 15 i), .ref (ad 16 i), .int (nI a)] (PW D A (tysG cs) ad dm (cw D ad cs σ Lx cap mk ev zl tx mt tn tc w0))) (QW D A (tysG cs) (fun r ad1 dm1 w1 => r = none ∧ ad = ad1 ∧ dm = dm1 ∧ (cw D ad cs σ (va_up Lx i ((Lx i).eraseIdx a)) cap (va_up mk i ((mk i) + 1)) ev zl tx mt tn tc w0) = w1)) 0 0 A := by
  refine g_start (own := RJx4a65c) [.ref (ad 15 i), .ref (ad 16 i), .int (nI a)] (cc := cJx4a65c_fastRemove_b59b0) (maxL := 4) (ret := none) (lv0 := [(0, .ref (ad 15 i)), (1, .ref (ad 16 i)), (2, .int (nI a))]) (by decide) rfl rfl (Nat.le_of_ble_eq_true rfl) rfl ?_
  intro p e s m below meth c F hr hlocks hno
  have hinJx4a65c : ∀ w ∈ wsJx4a65c0, w ∈ wsJx4a65c_fastRemove_b59b0 := by decide +kernel
  refine g_aload_n F 0 dJx4a65c_fastRemove_b59b0_0 rfl rfl ?_
  refine g_dup F dJx4a65c_fastRemove_b59b0_1 rfl ?_
  refine g_getfS (k := 15) (i := i) (ci := 0) (C := RJx4a65c) (T := TJx4a65c) (N := 3) (fs := (cL D ad Lx cap mk i)) (fk := 0) (ref := "java/util/ArrayList") F hinJx4a65c (hC.2.2.2.2.2.1 i (by omega)) rfl rfl (by decide) (by decide +kernel) (by decide +kernel) rfl dJx4a65c_fastRemove_b59b0_2 ?_
  refine g_iconst F dJx4a65c_fastRemove_b59b0_5 (v := 1) (by decide) ?_
  refine g_iadd F dJx4a65c_fastRemove_b59b0_6 ?_
  refine g_putfS (k := 15) (i := i) (ci := 0) (C := RJx4a65c) (T := TJx4a65c) (N := 3) (fs := (cL D ad Lx cap mk i)) (fk := 0) (ref := "java/util/ArrayList") (v := .int ((mk i) + 1)) (ty := .int) (tf := tyJx4a65c) F hinJx4a65c tyJx4a65c_ok nmJx4a65c (hC.2.2.2.2.2.1 i (by omega)) rfl rfl (by decide) (by decide +kernel) (by decide +kernel) rfl (by decide +kernel) rfl rfl (show 0 < 3 by decide) dJx4a65c_fastRemove_b59b0_7 ?_
  refine g_w (w1 := (cw D ad cs σ Lx cap (va_up mk i ((mk i) + 1)) ev zl tx mt tn tc w0)) (cw_mk (i := i) ((mk i) + 1)).symm ?_
  refine g_aload_n F 0 dJx4a65c_fastRemove_b59b0_10 rfl rfl ?_
  refine g_getf (k := 15) (i := i) (ci := 0) (C := RJx4a65c) (T := TJx4a65c) (N := 3) (fs := (cL D ad Lx cap (va_up mk i ((mk i) + 1)) i)) (fk := 2) F hinJx4a65c (hC.2.2.2.2.2.1 i (by omega)) rfl rfl (by decide) (by decide +kernel) rfl rfl dJx4a65c_fastRemove_b59b0_11 ?_
  refine g_iconst F dJx4a65c_fastRemove_b59b0_14 (v := 1) (by decide) ?_
  refine g_isub F dJx4a65c_fastRemove_b59b0_15 ?_
  refine g_dup F dJx4a65c_fastRemove_b59b0_16 rfl ?_
  refine g_istore_n F (lv1 := [(3, .int ((nI ((Lx i).length)) - 1)), (0, .ref (ad 15 i)), (1, .ref (ad 16 i)), (2, .int (nI a))]) dJx4a65c_fastRemove_b59b0_17 rfl (by decide) rfl ?_
  refine g_iload_n F 3 dJx4a65c_fastRemove_b59b0_18 rfl rfl ?_
  have hm1 : nI (Lx i).length - 1 = nI ((Lx i).length - 1) := nI_m1 (by omega)
  refine g_icmp_le F (tgt := 34) dJx4a65c_fastRemove_b59b0_19 (by decide) (fun c1 => ?_) (fun c1 => ?_)
  ·
    have hal : a + 1 = (Lx i).length := by
      rw [hm1, nI_leI (by omega) (by omega)] at c1; omega
    refine g_aload_n F 2 dJx4a65c_fastRemove_b59b0_34 rfl rfl ?_
    refine g_aload_n F 1 dJx4a65c_fastRemove_b59b0_35 rfl rfl ?_
    refine g_iload_n F 0 dJx4a65c_fastRemove_b59b0_36 rfl rfl ?_
    refine g_dup_x1 F dJx4a65c_fastRemove_b59b0_37 rfl rfl ?_
    refine g_putf (k := 15) (i := i) (ci := 0) (C := RJx4a65c) (T := TJx4a65c) (N := 3) (fs := (cL D ad Lx cap (va_up mk i ((mk i) + 1)) i)) (fk := 2) (v := .int (nI (Lx i).length - 1)) (ty := .int) (tf := tyJx4a65c) F hinJx4a65c tyJx4a65c_ok nmJx4a65c (hC.2.2.2.2.2.1 i hi) rfl rfl (by decide) (by decide +kernel) rfl rfl (by decide +kernel) rfl rfl (show 2 < 3 by decide) dJx4a65c_fastRemove_b59b0_38 ?_
    refine g_null F dJx4a65c_fastRemove_b59b0_41 ?_
    refine g_astN (k := 16) (i := i) (n := cap i) (f := (cX ad (Lx i))) (t0 := 5) F (hC.2.2.2.2.2.2.1 i hi (by omega)) ((up2_ne _ _ (fun h => absurd h.1 (by decide))).trans rfl) rfl (by rw [hm1]; exact vp_in_nI (show (Lx i).length - 1 < cap i by omega) (by omega)) dJx4a65c_fastRemove_b59b0_42 ?_
    refine g_w (w1 := (cw D ad cs σ (va_up Lx i ((Lx i).eraseIdx a)) cap (va_up mk i ((mk i) + 1)) ev zl tx mt tn tc w0)) ?_ (g_qv F hr hlocks (fun _ h => h) ⟨rfl, rfl, rfl, rfl⟩ (by decide) (by decide) dJx4a65c_fastRemove_b59b0_43)
    refine (cw_ls ((Lx i).eraseIdx a) ?_ ?_ ?_).symm
    · rw [up2_ne _ _ (fun h => absurd h.1 (by decide)), up2_self]
      unfold cL
      simp only [va_up_self]
      rw [List.length_eraseIdx_of_lt ha, hm1]
      rfl
    · rw [up2_self, hm1, nI_clamp (by omega)]
      rw [cX_rl (by omega)]
    · intro x y hxy
      rw [up2_ne _ _ (fun h => hxy ⟨.inr h.1, h.2⟩), up2_ne _ _ (fun h => hxy ⟨.inl h.1, h.2⟩)]
  ·
    have hal : a + 1 < (Lx i).length := by
      rw [hm1, nI_leI (by omega) (by omega)] at c1; omega
    refine g_aload_n F 2 dJx4a65c_fastRemove_b59b0_22 rfl rfl ?_
    refine g_iload_n F 3 dJx4a65c_fastRemove_b59b0_23 rfl rfl ?_
    refine g_iconst F dJx4a65c_fastRemove_b59b0_24 (v := 1) (by decide) ?_
    refine g_iadd F dJx4a65c_fastRemove_b59b0_25 ?_
    refine g_aload_n F 2 dJx4a65c_fastRemove_b59b0_26 rfl rfl ?_
    refine g_iload_n F 3 dJx4a65c_fastRemove_b59b0_27 rfl rfl ?_
    refine g_iload_n F 0 dJx4a65c_fastRemove_b59b0_28 rfl rfl ?_
    refine g_iload_n F 3 dJx4a65c_fastRemove_b59b0_29 rfl rfl ?_
    refine g_isub F dJx4a65c_fastRemove_b59b0_30 ?_
    refine g_copyq (k0 := 16) (i0 := i) (k1 := 16) (i1 := i) (n0 := cap i) (n1 := cap i) (a := a + 1) (b := a) (z := (Lx i).length - 1 - a) (f := cX ad (Lx i)) (g := cX ad (Lx i)) (c0 := cs 5) (c1 := cs 5) (t0 := 5) (t1 := 5) F (by decide +kernel) (by decide +kernel) (by decide +kernel) (by decide +kernel) (hC.2.2.2.2.2.2.1 i hi (by omega)) rfl (hC.2.2.2.2.2.2.1 i hi (by omega)) rfl rfl rfl (nI_1 a) rfl (by rw [hm1, pk_sub (by omega)]) (by omega) (by omega) (by omega) (by omega) ?_ F.2.2.2.2.1.2.2.2.2.2.1 (Nat.le_of_ble_eq_true rfl) (Nat.le_of_ble_eq_true rfl) dJx4a65c_fastRemove_b59b0_31 ?_
    · intro q hq y hy
      rw [cX_at (show a + 1 + q < (Lx i).length by omega)] at hy
      exact ⟨_, (Option.some.inj hy).symm, (hC.2.2.2.2.2.2.2.1 _ (hLn _ (getD_mem9 (by omega)))).1, _, rfl⟩
    refine g_aload_n F 2 dJx4a65c_fastRemove_b59b0_34 rfl rfl ?_
    refine g_aload_n F 1 dJx4a65c_fastRemove_b59b0_35 rfl rfl ?_
    refine g_iload_n F 0 dJx4a65c_fastRemove_b59b0_36 rfl rfl ?_
    refine g_dup_x1 F dJx4a65c_fastRemove_b59b0_37 rfl rfl ?_
    refine g_putf (k := 15) (i := i) (ci := 0) (C := RJx4a65c) (T := TJx4a65c) (N := 3) (fs := (cL D ad Lx cap (va_up mk i ((mk i) + 1)) i)) (fk := 2) (v := .int (nI (Lx i).length - 1)) (ty := .int) (tf := tyJx4a65c) F hinJx4a65c tyJx4a65c_ok nmJx4a65c (hC.2.2.2.2.2.1 i hi) ((up2_ne _ _ (fun h => absurd h.1 (by decide))).trans rfl) rfl (by decide) (by decide +kernel) rfl rfl (by decide +kernel) rfl rfl (show 2 < 3 by decide) dJx4a65c_fastRemove_b59b0_38 ?_
    refine g_null F dJx4a65c_fastRemove_b59b0_41 ?_
    refine g_astN (k := 16) (i := i) (n := cap i) (f := (va_cpy (cX ad (Lx i)) (cX ad (Lx i)) (a + 1) a ((Lx i).length - 1 - a))) (t0 := 5) F (hC.2.2.2.2.2.2.1 i hi (by omega)) ((up2_ne _ _ (fun h => absurd h.1 (by decide))).trans ((up2_self _ _ _ _).trans rfl)) rfl (by rw [hm1]; exact vp_in_nI (show (Lx i).length - 1 < cap i by omega) (by omega)) dJx4a65c_fastRemove_b59b0_42 ?_
    refine g_w (w1 := (cw D ad cs σ (va_up Lx i ((Lx i).eraseIdx a)) cap (va_up mk i ((mk i) + 1)) ev zl tx mt tn tc w0)) ?_ (g_qv F hr hlocks (fun _ h => h) ⟨rfl, rfl, rfl, rfl⟩ (by decide) (by decide) dJx4a65c_fastRemove_b59b0_43)
    refine (cw_ls ((Lx i).eraseIdx a) ?_ ?_ ?_).symm
    · rw [up2_ne _ _ (fun h => absurd h.1 (by decide)), up2_self]
      unfold cL
      simp only [va_up_self]
      rw [List.length_eraseIdx_of_lt ha, hm1]
      rfl
    · rw [up2_self, hm1, nI_clamp (by omega)]
      rw [cX_rm ha (by omega)]
    · intro x y hxy
      rw [up2_ne _ _ (fun h => hxy ⟨.inr h.1, h.2⟩), up2_ne _ _ (fun h => hxy ⟨.inl h.1, h.2⟩), up2_ne _ _ (fun h => hxy ⟨.inr h.1, h.2⟩)]
set_option maxHeartbeats 4000000 in
set_option maxRecDepth 100000 in
theorem cl_remove (l : Launch) (D : va_G) (A : Nat → Prop) (cs : Nat → ClassId) (ad : Nat → Nat → Nat) (dm : Nat → Nat → Prop) (σ : SG) (Lx : Nat → List Nat) (cap : Nat → Nat) (mk : Nat → Int32) (ev : SG) (zl tx mt tn : Nat → Nat) (tc : SG) (w0 : CF) (n tq : Nat) (hC : CD dm n cap tq) (i a : Nat) (hi : i < 11) (ha : a < (Lx i).length) (hlc : (Lx i).length ≤ cap i) (hc60 : cap i ≤ 60) (hLn : ∀ j ∈ Lx i, j < n) : Met l yJx4a65c_remove_915e3 wsJx4a65c_remove_915e3 ({ frames := 2, cells := 0, slots := 0, locals := 63 }) (va_Pc [.ref (ad 15 i), .int (nI a)] (PW D A (tysG cs) ad dm (cw D ad cs σ Lx cap mk ev zl tx mt tn tc w0))) (QW D A (tysG cs) (fun r ad1 dm1 w1 => r = some (.ref (ad 17 ((Lx i).getD a 0))) ∧ ad = ad1 ∧ dm = dm1 ∧ (cw D ad cs σ (va_up Lx i ((Lx i).eraseIdx a)) cap (va_up mk i ((mk i) + 1)) ev zl tx mt tn tc w0) = w1)) 0 0 A := by
  refine g_start (own := RJx4a65c) [.ref (ad 15 i), .int (nI a)] (cc := cJx4a65c_remove_915e3) (maxL := 4) (ret := (some (.object "java/lang/Object"))) (lv0 := [(0, .ref (ad 15 i)), (1, .int (nI a))]) (by decide) rfl rfl (Nat.le_of_ble_eq_true rfl) rfl ?_
  intro p e s m below meth c F hr hlocks hno
  have hinJx4a65c : ∀ w ∈ wsJx4a65c0, w ∈ wsJx4a65c_remove_915e3 := by decide +kernel
  refine g_iload_n F 1 dJx4a65c_remove_915e3_0 rfl rfl ?_
  refine g_aload_n F 0 dJx4a65c_remove_915e3_1 rfl rfl ?_
  refine g_getf (k := 15) (i := i) (ci := 0) (C := RJx4a65c) (T := TJx4a65c) (N := 3) (fs := (cL D ad Lx cap mk i)) (fk := 2) F hinJx4a65c (hC.2.2.2.2.2.1 i (by omega)) rfl rfl (by decide) (by decide +kernel) rfl rfl dJx4a65c_remove_915e3_2 ?_
  refine q_callS F (rest := []) [.int (nI a), .int (nI ((Lx i).length))] (cl_chk l D A cs ad dm σ Lx cap mk ev zl tx mt tn tc w0 n tq hC a ((Lx i).length) ha (by omega)) (va_cwS 2 F.1.2.2.2.2 gJx4a65c_remove_915e3_J15_checkIndex_7cf53 rfl rfl rfl (by decide +kernel) ⟨Nat.le_of_ble_eq_true rfl, Nat.le_of_ble_eq_true rfl⟩) rfl rfl (Nat.le_of_ble_eq_true rfl) dJx4a65c_remove_915e3_5 ⟨Nat.le_of_ble_eq_true rfl, Nat.le_of_ble_eq_true rfl⟩ (fun _ _ _ _ v1 => ?_)
  obtain ⟨rfl, rfl, rfl, rfl⟩ := v1
  show GG p l e _ s m _ below meth c D A ad dm _ _ _ _ (cw D ad cs σ Lx cap mk ev zl tx mt tn tc w0) 8 _ [.int (nI a)]
  refine g_pop F dJx4a65c_remove_915e3_8 rfl ?_
  refine g_aload_n F 0 dJx4a65c_remove_915e3_9 rfl rfl ?_
  refine g_getf (k := 15) (i := i) (ci := 0) (C := RJx4a65c) (T := TJx4a65c) (N := 3) (fs := (cL D ad Lx cap mk i)) (fk := 1) F hinJx4a65c (hC.2.2.2.2.2.1 i (by omega)) rfl rfl (by decide) (by decide +kernel) rfl (congrArg (fun z => some (Value.ref z)) (show cE D ad cap i = ad 16 i from if_neg (by omega))) dJx4a65c_remove_915e3_10 ?_
  refine g_astore_n F (lv1 := [(2, .ref (ad 16 i)), (0, .ref (ad 15 i)), (1, .int (nI a))]) dJx4a65c_remove_915e3_13 rfl (by decide) rfl ?_
  refine g_aload_n F 0 dJx4a65c_remove_915e3_14 rfl rfl ?_
  refine g_iload_n F 2 dJx4a65c_remove_915e3_15 rfl rfl ?_
  refine ca_aald (k := 16) (i := i) (n := (cap i)) (f := (cX ad (Lx i))) (C := "java/lang/Object") (t0 := 5) F (hC.2.2.2.2.2.2.1 i (by omega) (by omega)) rfl rfl rfl ⟨by omega, by omega⟩ (x := (ad 17 ((Lx i).getD a 0))) (cX_at ha) dJx4a65c_remove_915e3_16 ?_
  refine g_astore_n F (lv1 := [(3, .ref (ad 17 ((Lx i).getD a 0))), (2, .ref (ad 16 i)), (0, .ref (ad 15 i)), (1, .int (nI a))]) dJx4a65c_remove_915e3_17 rfl (by decide) rfl ?_
  refine g_aload_n F 2 dJx4a65c_remove_915e3_18 rfl rfl ?_
  refine g_aload_n F 1 dJx4a65c_remove_915e3_19 rfl rfl ?_
  refine g_iload_n F 3 dJx4a65c_remove_915e3_20 rfl rfl ?_
  refine q_callV F (C := RJx4a65c) (k := 15) (i := i) (ci := 0) (T := TJx4a65c) (N := 3) (rest := []) [.ref (ad 16 i), .int (nI a)] (cl_fastRemove l D A cs ad dm σ Lx cap mk ev zl tx mt tn tc w0 n tq hC i a hi ha hlc hc60 hLn) (cwV 2 F.1.2.2.2.2 gJx4a65c_remove_915e3_Jx4a65c_fastRemove_b59b0 rfl rfl rfl (by decide +kernel) ⟨Nat.le_of_ble_eq_true rfl, Nat.le_of_ble_eq_true rfl⟩) rfl (hC.2.2.2.2.2.1 i (by omega)) rfl rfl rfl rfl (Nat.le_of_ble_eq_true rfl) dJx4a65c_remove_915e3_21 ⟨Nat.le_of_ble_eq_true rfl, Nat.le_of_ble_eq_true rfl⟩ (fun _ _ _ _ v2 => ?_)
  obtain ⟨rfl, rfl, rfl, rfl⟩ := v2
  show GG p l e _ s m _ below meth c D A ad dm _ _ _ _ (cw D ad cs σ (va_up Lx i ((Lx i).eraseIdx a)) cap (va_up mk i ((mk i) + 1)) ev zl tx mt tn tc w0) 24 _ []
  refine g_aload_n F 0 dJx4a65c_remove_915e3_24 rfl rfl ?_
  exact g_qa F hr (.inl ⟨_, rfl⟩) hlocks (fun _ h => h) ⟨rfl, rfl, rfl, rfl⟩ (by decide) (by decide) dJx4a65c_remove_915e3_25

