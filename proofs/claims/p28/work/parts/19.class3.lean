set_option maxHeartbeats 4000000 in
set_option maxRecDepth 100000 in
theorem cc_logadd (l : Launch) (D : va_G) (A : Nat → Prop) (cs : Nat → ClassId) (ad : Nat → Nat → Nat) (dm : Nat → Nat → Prop) (σ : SG) (Lx : Nat → List Nat) (cap : Nat → Nat) (mk : Nat → Int32) (ev : SG) (zl tx mt tn : Nat → Nat) (tc : SG) (w0 : CF) (n tq : Nat) (hC : CD dm n cap tq) (j : Nat) (x : Int32) (hj : j < n) (hz : zl j < elen σ j) (he : elen σ j ≤ 1000) : Met l yX2_add wsX2_add ({ frames := 0, cells := 0, slots := 0, locals := 0 }) (va_Pc [.ref (ad 19 j), .int x] (PW D A (tysG cs) ad dm (cw D ad cs σ Lx cap mk ev zl tx mt tn tc w0))) (QW D A (tysG cs) (fun rz ad1 dm1 w1 => rz = none ∧ ad = ad1 ∧ dm = dm1 ∧ (cw D ad cs σ Lx cap mk (up2 ev j (zl j) x) (va_up zl j ((zl j) + 1)) tx mt tn tc w0) = w1)) 0 0 A := by
  refine g_start (own := RX2) [.ref (ad 19 j), .int x] (cc := cX2_add) (maxL := 2) (ret := none) (lv0 := [(0, .ref (ad 19 j)), (1, .int x)]) (by decide) rfl rfl (Nat.le_of_ble_eq_true rfl) rfl ?_
  intro p e s m below meth c F hr hlocks hno
  have hinX2 : ∀ w ∈ wsX20, w ∈ wsX2_add := by decide +kernel
  refine g_aload_n F 0 dX2_add_0 rfl rfl ?_
  refine g_getf (k := 19) (i := j) (ci := 2) (C := RX2) (T := TX2) (N := 2) (fs := [.ref (ad 20 j), .int (nI (zl j))]) (fk := 1) F hinX2 (hC.2.2.2.2.2.2.2.1 j (by omega)).2.2.1 rfl rfl (by decide) (by decide +kernel) rfl rfl dX2_add_1 ?_
  refine g_aload_n F 0 dX2_add_4 rfl rfl ?_
  refine g_getf (k := 19) (i := j) (ci := 2) (C := RX2) (T := TX2) (N := 2) (fs := [.ref (ad 20 j), .int (nI (zl j))]) (fk := 0) F hinX2 (hC.2.2.2.2.2.2.2.1 j (by omega)).2.2.1 rfl rfl (by decide) (by decide +kernel) rfl rfl dX2_add_5 ?_
  refine g_alen (t0 := 0) (k := 20) (i := j) (v := (nI (elen σ j))) F (hC.2.2.2.2.2.2.2.1 j (by omega)).2.2.2 rfl rfl rfl dX2_add_8 ?_
  refine g_icmp_ge F (tgt := 32) dX2_add_9 (by decide) (fun zc1 => ?_) (fun zc1 => ?_)
  ·
    exact absurd ((nI_leE (show (nI (elen σ j)) = nI (elen σ j) from rfl) (show (nI (zl j)) = nI (zl j) from rfl) (show (elen σ j) < 2 ^ 31 by omega) (show (zl j) < 2 ^ 31 by omega)).mp zc1) (by omega)
  ·
    refine g_aload_n F 0 dX2_add_12 rfl rfl ?_
    refine g_getf (k := 19) (i := j) (ci := 2) (C := RX2) (T := TX2) (N := 2) (fs := [.ref (ad 20 j), .int (nI (zl j))]) (fk := 0) F hinX2 (hC.2.2.2.2.2.2.2.1 j (by omega)).2.2.1 rfl rfl (by decide) (by decide +kernel) rfl rfl dX2_add_13 ?_
    refine g_aload_n F 0 dX2_add_16 rfl rfl ?_
    refine g_getf (k := 19) (i := j) (ci := 2) (C := RX2) (T := TX2) (N := 2) (fs := [.ref (ad 20 j), .int (nI (zl j))]) (fk := 1) F hinX2 (hC.2.2.2.2.2.2.2.1 j (by omega)).2.2.1 rfl rfl (by decide) (by decide +kernel) rfl rfl dX2_add_17 ?_
    refine g_iload_n F 1 dX2_add_20 rfl rfl ?_
    refine ca_iast (k := 20) (i := j) (n := elen σ j) (f := cV σ ev j) F (hC.2.2.2.2.2.2.2.1 j (by omega)).2.2.2 rfl rfl ⟨by omega, by omega⟩ dX2_add_21 ?_
    refine g_w (w1 := (cw D ad cs σ Lx cap mk (up2 ev j (zl j) x) zl tx mt tn tc w0)) (cw_ev (j := j) (q := (zl j)) (by omega) x).symm ?_
    refine g_aload_n F 0 dX2_add_22 rfl rfl ?_
    refine g_dup F dX2_add_23 rfl ?_
    refine g_getf (k := 19) (i := j) (ci := 2) (C := RX2) (T := TX2) (N := 2) (fs := [.ref (ad 20 j), .int (nI (zl j))]) (fk := 1) F hinX2 (hC.2.2.2.2.2.2.2.1 j (by omega)).2.2.1 rfl rfl (by decide) (by decide +kernel) rfl rfl dX2_add_24 ?_
    refine g_iconst F dX2_add_27 (v := 1) (by decide) ?_
    refine g_iadd F dX2_add_28 ?_
    refine g_putf (k := 19) (i := j) (ci := 2) (C := RX2) (T := TX2) (N := 2) (fs := [.ref (ad 20 j), .int (nI (zl j))]) (fk := 1) (v := .int ((nI (zl j)) + 1)) (ty := .int) (tf := tyX2) F hinX2 tyX2_ok nmX2 (hC.2.2.2.2.2.2.2.1 j (by omega)).2.2.1 rfl rfl (by decide) (by decide +kernel) rfl rfl (by decide +kernel) rfl rfl (show 1 < 2 by decide) dX2_add_29 ?_
    refine g_w (w1 := (cw D ad cs σ Lx cap mk (up2 ev j (zl j) x) (va_up zl j ((zl j) + 1)) tx mt tn tc w0)) (by rw [show ((nI (zl j)) + 1) = nI ((zl j) + 1) from (nI_addE (show (nI (zl j)) = nI (zl j) from rfl) (show 1 = nI 1 from rfl))]; exact (cw_zl (j := j) ((zl j) + 1)).symm) ?_
    exact g_qv F hr hlocks (fun _ h => h) ⟨rfl, rfl, rfl, rfl⟩ (by decide) (by decide) dX2_add_32
set_option maxHeartbeats 4000000 in
set_option maxRecDepth 100000 in
theorem cc_fail0 (l : Launch) (D : va_G) (A : Nat → Prop) (cs : Nat → ClassId) (ad : Nat → Nat → Nat) (dm : Nat → Nat → Prop) (σ : SG) (Lx : Nat → List Nat) (cap : Nat → Nat) (mk : Nat → Int32) (ev : SG) (zl tx mt tn : Nat → Nat) (tc : SG) (w0 : CF) (n tq : Nat) (hC : CD dm n cap tq) (j : Nat) (t : Int32) (hj : j < n) (hz : zl j < elen σ j) (he : elen σ j ≤ 1000) : Met l yX3_fail wsX3_fail ({ frames := 2, cells := 0, slots := 0, locals := 61 }) (va_Pc [.ref (ad 17 j), .ref (D.2 100 (1 + 0)), .int t] (PW D A (tysG cs) ad dm (cw D ad cs σ Lx cap mk ev zl tx mt tn tc w0))) (QW D A (tysG cs) (fun rz ad1 dm1 w1 => rz = none ∧ ad = ad1 ∧ dm = dm1 ∧ (cw D ad cs (up2 (up2 σ 27 ((3 * j) + (2 - 0)) ((σ 27 ((3 * j) + (2 - 0))) + 1)) 26 j (t + (dlA 2 ((σ 27 ((3 * j) + (2 - 0))) + 1)))) Lx cap mk (up2 ev j (zl j) (2 + 0)) (va_up zl j ((zl j) + 1)) tx mt tn tc w0) = w1)) 0 0 A := by
  refine g_start (own := RX3) [.ref (ad 17 j), .ref (D.2 100 (1 + 0)), .int t] (cc := cX3_fail) (maxL := 4) (ret := none) (lv0 := [(0, .ref (ad 17 j)), (1, .ref (D.2 100 (1 + 0))), (2, .int t)]) (by decide) rfl rfl (Nat.le_of_ble_eq_true rfl) rfl ?_
  intro p e s m below meth c F hr hlocks hno
  have hinX3 : ∀ w ∈ wsX30, w ∈ wsX3_fail := by decide +kernel
  refine g_aload_n F 1 dX3_fail_0 rfl rfl ?_
  refine g_getC F 0 0 (v := 0) (by decide) rfl rfl (by decide +kernel) dX3_fail_1 ?_
  refine g_istore_n F (lv1 := [(3, .int 0), (0, .ref (ad 17 j)), (1, .ref (D.2 100 (1 + 0))), (2, .int t)]) dX3_fail_4 rfl (by decide) rfl ?_
  refine g_iload_n F 0 dX3_fail_5 rfl rfl ?_
  refine g_if_lt F (tgt := 18) dX3_fail_6 (by decide) (fun zc1 => ?_) (fun zc1 => ?_)
  ·
    exact absurd ((nI_ltE (show 0 = nI 0 from rfl) (show 0 = nI 0 from rfl) (show 0 < 2 ^ 31 by omega) (show 0 < 2 ^ 31 by omega)).mp zc1) (by omega)
  ·
    refine g_iload_n F 0 dX3_fail_9 rfl rfl ?_
    refine g_aload_n F 1 dX3_fail_10 rfl rfl ?_
    refine g_getf (k := 17) (i := j) (ci := 3) (C := RX3) (T := TX3) (N := 16) (fs := (cM ad σ mt j)) (fk := 11) F hinX3 (hC.2.2.2.2.2.2.2.1 j (by omega)).1 rfl rfl (by decide) (by decide +kernel) rfl rfl dX3_fail_11 ?_
    refine g_alen (t0 := 0) (k := 18) (i := j) (v := (nI 3)) F (hC.2.2.2.2.2.2.2.1 j (by omega)).2.1 rfl rfl rfl dX3_fail_14 ?_
    refine g_icmp_lt F (tgt := 19) dX3_fail_15 (by decide) (fun zc2 => ?_) (fun zc2 => ?_)
    ·
      refine g_aload_n F 1 dX3_fail_19 rfl rfl ?_
      refine g_getf (k := 17) (i := j) (ci := 3) (C := RX3) (T := TX3) (N := 16) (fs := (cM ad σ mt j)) (fk := 11) F hinX3 (hC.2.2.2.2.2.2.2.1 j (by omega)).1 rfl rfl (by decide) (by decide +kernel) rfl rfl dX3_fail_20 ?_
      refine g_iload_n F 0 dX3_fail_23 rfl rfl ?_
      refine g_dup2 F dX3_fail_24 rfl rfl ?_
      refine ca_iald (k := 18) (i := j) (n := 3) (f := (cF σ j)) F (hC.2.2.2.2.2.2.2.1 j (by omega)).2.1 rfl rfl ⟨by decide, by decide⟩ (v := (σ 27 ((3 * j) + (2 - 0)))) rfl dX3_fail_25 ?_
      refine g_iconst F dX3_fail_26 (v := 1) (by decide) ?_
      refine g_iadd F dX3_fail_27 ?_
      refine ca_iast (k := 18) (i := j) (n := 3) (f := cF σ j) F (hC.2.2.2.2.2.2.2.1 j (by omega)).2.1 rfl rfl ⟨by decide, by decide⟩ dX3_fail_28 ?_
      refine g_w (w1 := (cw D ad cs (up2 σ 27 ((3 * j) + (2 - 0)) ((σ 27 ((3 * j) + (2 - 0))) + 1)) Lx cap mk ev zl tx mt tn tc w0)) (cw_fail (j := j) (q := 0) (by omega) ((σ 27 ((3 * j) + (2 - 0))) + 1)).symm ?_
      refine g_aload_n F 1 dX3_fail_29 rfl rfl ?_
      refine g_iload_n F 3 dX3_fail_30 rfl rfl ?_
      refine g_aload_n F 2 dX3_fail_31 rfl rfl ?_
      refine g_aload_n F 1 dX3_fail_32 rfl rfl ?_
      refine g_getf (k := 17) (i := j) (ci := 3) (C := RX3) (T := TX3) (N := 16) (fs := (cM ad (up2 σ 27 ((3 * j) + (2 - 0)) ((σ 27 ((3 * j) + (2 - 0))) + 1)) mt j)) (fk := 11) F hinX3 (hC.2.2.2.2.2.2.2.1 j (by omega)).1 rfl rfl (by decide) (by decide +kernel) rfl rfl dX3_fail_33 ?_
      refine g_iload_n F 0 dX3_fail_36 rfl rfl ?_
      refine ca_iald (k := 18) (i := j) (n := 3) (f := (cF (up2 σ 27 ((3 * j) + (2 - 0)) ((σ 27 ((3 * j) + (2 - 0))) + 1)) j)) F (hC.2.2.2.2.2.2.2.1 j (by omega)).2.1 rfl rfl ⟨by decide, by decide⟩ (v := ((σ 27 ((3 * j) + (2 - 0))) + 1)) (up2_self _ _ _ _) dX3_fail_37 ?_
      refine q_callE F (i := 0) (rest := [.int t, .ref (ad 17 j)]) [.int ((σ 27 ((3 * j) + (2 - 0))) + 1)] (cc_delay0 l D A cs ad dm (up2 σ 27 ((3 * j) + (2 - 0)) ((σ 27 ((3 * j) + (2 - 0))) + 1)) Lx cap mk ev zl tx mt tn tc w0 n tq hC ((σ 27 ((3 * j) + (2 - 0))) + 1)) (cwV 1 F.1.2.2.2.2 gX3_fail_X1_delayAfter rfl rfl rfl (by decide +kernel) ⟨Nat.le_of_ble_eq_true rfl, Nat.le_of_ble_eq_true rfl⟩) rfl (by decide) rfl rfl (Nat.le_of_ble_eq_true rfl) dX3_fail_38 ⟨Nat.le_of_ble_eq_true rfl, Nat.le_of_ble_eq_true rfl⟩ (fun _ _ _ _ zv3 => ?_)
      obtain ⟨rfl, rfl, rfl, rfl⟩ := zv3
      show GG p l e _ s m _ below meth c D A ad dm _ _ _ _ (cw D ad cs (up2 σ 27 ((3 * j) + (2 - 0)) ((σ 27 ((3 * j) + (2 - 0))) + 1)) Lx cap mk ev zl tx mt tn tc w0) 41 _ [.int (dlA 2 ((σ 27 ((3 * j) + (2 - 0))) + 1)), .int t, .ref (ad 17 j)]
      refine g_iadd F dX3_fail_41 ?_
      refine g_putf (k := 17) (i := j) (ci := 3) (C := RX3) (T := TX3) (N := 16) (fs := (cM ad (up2 σ 27 ((3 * j) + (2 - 0)) ((σ 27 ((3 * j) + (2 - 0))) + 1)) mt j)) (fk := 13) (v := .int (t + (dlA 2 ((σ 27 ((3 * j) + (2 - 0))) + 1)))) (ty := .int) (tf := tyX3) F hinX3 tyX3_ok nmX3 (hC.2.2.2.2.2.2.2.1 j (by omega)).1 rfl rfl (by decide) (by decide +kernel) rfl rfl (by decide +kernel) rfl rfl (show 13 < 16 by decide) dX3_fail_42 ?_
      refine g_w (w1 := (cw D ad cs (up2 (up2 σ 27 ((3 * j) + (2 - 0)) ((σ 27 ((3 * j) + (2 - 0))) + 1)) 26 j (t + (dlA 2 ((σ 27 ((3 * j) + (2 - 0))) + 1)))) Lx cap mk ev zl tx mt tn tc w0)) (cp_26 j (t + (dlA 2 ((σ 27 ((3 * j) + (2 - 0))) + 1)))).symm ?_
      refine g_aload_n F 1 dX3_fail_45 rfl rfl ?_
      refine g_getf (k := 17) (i := j) (ci := 3) (C := RX3) (T := TX3) (N := 16) (fs := (cM ad (up2 (up2 σ 27 ((3 * j) + (2 - 0)) ((σ 27 ((3 * j) + (2 - 0))) + 1)) 26 j (t + (dlA 2 ((σ 27 ((3 * j) + (2 - 0))) + 1)))) mt j)) (fk := 10) F hinX3 (hC.2.2.2.2.2.2.2.1 j (by omega)).1 rfl rfl (by decide) (by decide +kernel) rfl rfl dX3_fail_46 ?_
      refine g_iconst F dX3_fail_49 (v := 2) (by decide) ?_
      refine g_iload_n F 0 dX3_fail_50 rfl rfl ?_
      refine g_iadd F dX3_fail_51 ?_
      refine q_callV F (C := RX2) (k := 19) (i := j) (ci := 2) (T := TX2) (N := 2) (rest := []) [.int (2 + 0)] (cc_logadd l D A cs ad dm (up2 (up2 σ 27 ((3 * j) + (2 - 0)) ((σ 27 ((3 * j) + (2 - 0))) + 1)) 26 j (t + (dlA 2 ((σ 27 ((3 * j) + (2 - 0))) + 1)))) Lx cap mk ev zl tx mt tn tc w0 n tq hC j (2 + 0) (by omega) hz he) (cwV 1 F.1.2.2.2.2 gX3_fail_X2_add rfl rfl rfl (by decide +kernel) ⟨Nat.le_of_ble_eq_true rfl, Nat.le_of_ble_eq_true rfl⟩) rfl (hC.2.2.2.2.2.2.2.1 j (by omega)).2.2.1 rfl rfl rfl rfl (Nat.le_of_ble_eq_true rfl) dX3_fail_52 ⟨Nat.le_of_ble_eq_true rfl, Nat.le_of_ble_eq_true rfl⟩ (fun _ _ _ _ zv4 => ?_)
      obtain ⟨rfl, rfl, rfl, rfl⟩ := zv4
      show GG p l e _ s m _ below meth c D A ad dm _ _ _ _ (cw D ad cs (up2 (up2 σ 27 ((3 * j) + (2 - 0)) ((σ 27 ((3 * j) + (2 - 0))) + 1)) 26 j (t + (dlA 2 ((σ 27 ((3 * j) + (2 - 0))) + 1)))) Lx cap mk (up2 ev j (zl j) (2 + 0)) (va_up zl j ((zl j) + 1)) tx mt tn tc w0) 55 _ []
      exact g_qv F hr hlocks (fun _ h => h) ⟨rfl, rfl, rfl, rfl⟩ (by decide) (by decide) dX3_fail_55
    ·
      exact absurd ((nI_ltE (show 0 = nI 0 from rfl) (show (nI 3) = nI 3 from rfl) (show 0 < 2 ^ 31 by omega) (show 3 < 2 ^ 31 by omega)).mpr (by omega)) zc2
set_option maxHeartbeats 4000000 in
set_option maxRecDepth 100000 in
theorem cc_fail1 (l : Launch) (D : va_G) (A : Nat → Prop) (cs : Nat → ClassId) (ad : Nat → Nat → Nat) (dm : Nat → Nat → Prop) (σ : SG) (Lx : Nat → List Nat) (cap : Nat → Nat) (mk : Nat → Int32) (ev : SG) (zl tx mt tn : Nat → Nat) (tc : SG) (w0 : CF) (n tq : Nat) (hC : CD dm n cap tq) (j : Nat) (t : Int32) (hj : j < n) (hz : zl j < elen σ j) (he : elen σ j ≤ 1000) : Met l yX3_fail wsX3_fail ({ frames := 2, cells := 0, slots := 0, locals := 61 }) (va_Pc [.ref (ad 17 j), .ref (D.2 100 (1 + 1)), .int t] (PW D A (tysG cs) ad dm (cw D ad cs σ Lx cap mk ev zl tx mt tn tc w0))) (QW D A (tysG cs) (fun rz ad1 dm1 w1 => rz = none ∧ ad = ad1 ∧ dm = dm1 ∧ (cw D ad cs (up2 (up2 σ 27 ((3 * j) + (2 - 1)) ((σ 27 ((3 * j) + (2 - 1))) + 1)) 26 j (t + (dlA 5 ((σ 27 ((3 * j) + (2 - 1))) + 1)))) Lx cap mk (up2 ev j (zl j) (2 + 1)) (va_up zl j ((zl j) + 1)) tx mt tn tc w0) = w1)) 0 0 A := by
  refine g_start (own := RX3) [.ref (ad 17 j), .ref (D.2 100 (1 + 1)), .int t] (cc := cX3_fail) (maxL := 4) (ret := none) (lv0 := [(0, .ref (ad 17 j)), (1, .ref (D.2 100 (1 + 1))), (2, .int t)]) (by decide) rfl rfl (Nat.le_of_ble_eq_true rfl) rfl ?_
  intro p e s m below meth c F hr hlocks hno
  have hinX3 : ∀ w ∈ wsX30, w ∈ wsX3_fail := by decide +kernel
  refine g_aload_n F 1 dX3_fail_0 rfl rfl ?_
  refine g_getC F 1 0 (v := 1) (by decide) rfl rfl (by decide +kernel) dX3_fail_1 ?_
  refine g_istore_n F (lv1 := [(3, .int 1), (0, .ref (ad 17 j)), (1, .ref (D.2 100 (1 + 1))), (2, .int t)]) dX3_fail_4 rfl (by decide) rfl ?_
  refine g_iload_n F 0 dX3_fail_5 rfl rfl ?_
  refine g_if_lt F (tgt := 18) dX3_fail_6 (by decide) (fun zc1 => ?_) (fun zc1 => ?_)
  ·
    exact absurd ((nI_ltE (show 1 = nI 1 from rfl) (show 0 = nI 0 from rfl) (show 1 < 2 ^ 31 by omega) (show 0 < 2 ^ 31 by omega)).mp zc1) (by omega)
  ·
    refine g_iload_n F 0 dX3_fail_9 rfl rfl ?_
    refine g_aload_n F 1 dX3_fail_10 rfl rfl ?_
    refine g_getf (k := 17) (i := j) (ci := 3) (C := RX3) (T := TX3) (N := 16) (fs := (cM ad σ mt j)) (fk := 11) F hinX3 (hC.2.2.2.2.2.2.2.1 j (by omega)).1 rfl rfl (by decide) (by decide +kernel) rfl rfl dX3_fail_11 ?_
    refine g_alen (t0 := 0) (k := 18) (i := j) (v := (nI 3)) F (hC.2.2.2.2.2.2.2.1 j (by omega)).2.1 rfl rfl rfl dX3_fail_14 ?_
    refine g_icmp_lt F (tgt := 19) dX3_fail_15 (by decide) (fun zc2 => ?_) (fun zc2 => ?_)
    ·
      refine g_aload_n F 1 dX3_fail_19 rfl rfl ?_
      refine g_getf (k := 17) (i := j) (ci := 3) (C := RX3) (T := TX3) (N := 16) (fs := (cM ad σ mt j)) (fk := 11) F hinX3 (hC.2.2.2.2.2.2.2.1 j (by omega)).1 rfl rfl (by decide) (by decide +kernel) rfl rfl dX3_fail_20 ?_
      refine g_iload_n F 0 dX3_fail_23 rfl rfl ?_
      refine g_dup2 F dX3_fail_24 rfl rfl ?_
      refine ca_iald (k := 18) (i := j) (n := 3) (f := (cF σ j)) F (hC.2.2.2.2.2.2.2.1 j (by omega)).2.1 rfl rfl ⟨by decide, by decide⟩ (v := (σ 27 ((3 * j) + (2 - 1)))) rfl dX3_fail_25 ?_
      refine g_iconst F dX3_fail_26 (v := 1) (by decide) ?_
      refine g_iadd F dX3_fail_27 ?_
      refine ca_iast (k := 18) (i := j) (n := 3) (f := cF σ j) F (hC.2.2.2.2.2.2.2.1 j (by omega)).2.1 rfl rfl ⟨by decide, by decide⟩ dX3_fail_28 ?_
      refine g_w (w1 := (cw D ad cs (up2 σ 27 ((3 * j) + (2 - 1)) ((σ 27 ((3 * j) + (2 - 1))) + 1)) Lx cap mk ev zl tx mt tn tc w0)) (cw_fail (j := j) (q := 1) (by omega) ((σ 27 ((3 * j) + (2 - 1))) + 1)).symm ?_
      refine g_aload_n F 1 dX3_fail_29 rfl rfl ?_
      refine g_iload_n F 3 dX3_fail_30 rfl rfl ?_
      refine g_aload_n F 2 dX3_fail_31 rfl rfl ?_
      refine g_aload_n F 1 dX3_fail_32 rfl rfl ?_
      refine g_getf (k := 17) (i := j) (ci := 3) (C := RX3) (T := TX3) (N := 16) (fs := (cM ad (up2 σ 27 ((3 * j) + (2 - 1)) ((σ 27 ((3 * j) + (2 - 1))) + 1)) mt j)) (fk := 11) F hinX3 (hC.2.2.2.2.2.2.2.1 j (by omega)).1 rfl rfl (by decide) (by decide +kernel) rfl rfl dX3_fail_33 ?_
      refine g_iload_n F 0 dX3_fail_36 rfl rfl ?_
      refine ca_iald (k := 18) (i := j) (n := 3) (f := (cF (up2 σ 27 ((3 * j) + (2 - 1)) ((σ 27 ((3 * j) + (2 - 1))) + 1)) j)) F (hC.2.2.2.2.2.2.2.1 j (by omega)).2.1 rfl rfl ⟨by decide, by decide⟩ (v := ((σ 27 ((3 * j) + (2 - 1))) + 1)) (up2_self _ _ _ _) dX3_fail_37 ?_
      refine q_callE F (i := 1) (rest := [.int t, .ref (ad 17 j)]) [.int ((σ 27 ((3 * j) + (2 - 1))) + 1)] (cc_delay1 l D A cs ad dm (up2 σ 27 ((3 * j) + (2 - 1)) ((σ 27 ((3 * j) + (2 - 1))) + 1)) Lx cap mk ev zl tx mt tn tc w0 n tq hC ((σ 27 ((3 * j) + (2 - 1))) + 1)) (cwV 1 F.1.2.2.2.2 gX3_fail_X1_delayAfter rfl rfl rfl (by decide +kernel) ⟨Nat.le_of_ble_eq_true rfl, Nat.le_of_ble_eq_true rfl⟩) rfl (by decide) rfl rfl (Nat.le_of_ble_eq_true rfl) dX3_fail_38 ⟨Nat.le_of_ble_eq_true rfl, Nat.le_of_ble_eq_true rfl⟩ (fun _ _ _ _ zv3 => ?_)
      obtain ⟨rfl, rfl, rfl, rfl⟩ := zv3
      show GG p l e _ s m _ below meth c D A ad dm _ _ _ _ (cw D ad cs (up2 σ 27 ((3 * j) + (2 - 1)) ((σ 27 ((3 * j) + (2 - 1))) + 1)) Lx cap mk ev zl tx mt tn tc w0) 41 _ [.int (dlA 5 ((σ 27 ((3 * j) + (2 - 1))) + 1)), .int t, .ref (ad 17 j)]
      refine g_iadd F dX3_fail_41 ?_
      refine g_putf (k := 17) (i := j) (ci := 3) (C := RX3) (T := TX3) (N := 16) (fs := (cM ad (up2 σ 27 ((3 * j) + (2 - 1)) ((σ 27 ((3 * j) + (2 - 1))) + 1)) mt j)) (fk := 13) (v := .int (t + (dlA 5 ((σ 27 ((3 * j) + (2 - 1))) + 1)))) (ty := .int) (tf := tyX3) F hinX3 tyX3_ok nmX3 (hC.2.2.2.2.2.2.2.1 j (by omega)).1 rfl rfl (by decide) (by decide +kernel) rfl rfl (by decide +kernel) rfl rfl (show 13 < 16 by decide) dX3_fail_42 ?_
      refine g_w (w1 := (cw D ad cs (up2 (up2 σ 27 ((3 * j) + (2 - 1)) ((σ 27 ((3 * j) + (2 - 1))) + 1)) 26 j (t + (dlA 5 ((σ 27 ((3 * j) + (2 - 1))) + 1)))) Lx cap mk ev zl tx mt tn tc w0)) (cp_26 j (t + (dlA 5 ((σ 27 ((3 * j) + (2 - 1))) + 1)))).symm ?_
      refine g_aload_n F 1 dX3_fail_45 rfl rfl ?_
      refine g_getf (k := 17) (i := j) (ci := 3) (C := RX3) (T := TX3) (N := 16) (fs := (cM ad (up2 (up2 σ 27 ((3 * j) + (2 - 1)) ((σ 27 ((3 * j) + (2 - 1))) + 1)) 26 j (t + (dlA 5 ((σ 27 ((3 * j) + (2 - 1))) + 1)))) mt j)) (fk := 10) F hinX3 (hC.2.2.2.2.2.2.2.1 j (by omega)).1 rfl rfl (by decide) (by decide +kernel) rfl rfl dX3_fail_46 ?_
      refine g_iconst F dX3_fail_49 (v := 2) (by decide) ?_
      refine g_iload_n F 0 dX3_fail_50 rfl rfl ?_
      refine g_iadd F dX3_fail_51 ?_
      refine q_callV F (C := RX2) (k := 19) (i := j) (ci := 2) (T := TX2) (N := 2) (rest := []) [.int (2 + 1)] (cc_logadd l D A cs ad dm (up2 (up2 σ 27 ((3 * j) + (2 - 1)) ((σ 27 ((3 * j) + (2 - 1))) + 1)) 26 j (t + (dlA 5 ((σ 27 ((3 * j) + (2 - 1))) + 1)))) Lx cap mk ev zl tx mt tn tc w0 n tq hC j (2 + 1) (by omega) hz he) (cwV 1 F.1.2.2.2.2 gX3_fail_X2_add rfl rfl rfl (by decide +kernel) ⟨Nat.le_of_ble_eq_true rfl, Nat.le_of_ble_eq_true rfl⟩) rfl (hC.2.2.2.2.2.2.2.1 j (by omega)).2.2.1 rfl rfl rfl rfl (Nat.le_of_ble_eq_true rfl) dX3_fail_52 ⟨Nat.le_of_ble_eq_true rfl, Nat.le_of_ble_eq_true rfl⟩ (fun _ _ _ _ zv4 => ?_)
      obtain ⟨rfl, rfl, rfl, rfl⟩ := zv4
      show GG p l e _ s m _ below meth c D A ad dm _ _ _ _ (cw D ad cs (up2 (up2 σ 27 ((3 * j) + (2 - 1)) ((σ 27 ((3 * j) + (2 - 1))) + 1)) 26 j (t + (dlA 5 ((σ 27 ((3 * j) + (2 - 1))) + 1)))) Lx cap mk (up2 ev j (zl j) (2 + 1)) (va_up zl j ((zl j) + 1)) tx mt tn tc w0) 55 _ []
      exact g_qv F hr hlocks (fun _ h => h) ⟨rfl, rfl, rfl, rfl⟩ (by decide) (by decide) dX3_fail_55
    ·
      exact absurd ((nI_ltE (show 1 = nI 1 from rfl) (show (nI 3) = nI 3 from rfl) (show 1 < 2 ^ 31 by omega) (show 3 < 2 ^ 31 by omega)).mpr (by omega)) zc2
set_option maxHeartbeats 4000000 in
set_option maxRecDepth 100000 in
theorem cc_fail2 (l : Launch) (D : va_G) (A : Nat → Prop) (cs : Nat → ClassId) (ad : Nat → Nat → Nat) (dm : Nat → Nat → Prop) (σ : SG) (Lx : Nat → List Nat) (cap : Nat → Nat) (mk : Nat → Int32) (ev : SG) (zl tx mt tn : Nat → Nat) (tc : SG) (w0 : CF) (n tq : Nat) (hC : CD dm n cap tq) (j : Nat) (t : Int32) (hj : j < n) (hz : zl j < elen σ j) (he : elen σ j ≤ 1000) : Met l yX3_fail wsX3_fail ({ frames := 2, cells := 0, slots := 0, locals := 61 }) (va_Pc [.ref (ad 17 j), .ref (D.2 100 (1 + 2)), .int t] (PW D A (tysG cs) ad dm (cw D ad cs σ Lx cap mk ev zl tx mt tn tc w0))) (QW D A (tysG cs) (fun rz ad1 dm1 w1 => rz = none ∧ ad = ad1 ∧ dm = dm1 ∧ (cw D ad cs (up2 (up2 σ 27 ((3 * j) + (2 - 2)) ((σ 27 ((3 * j) + (2 - 2))) + 1)) 26 j (t + (dlA 10 ((σ 27 ((3 * j) + (2 - 2))) + 1)))) Lx cap mk (up2 ev j (zl j) (2 + 2)) (va_up zl j ((zl j) + 1)) tx mt tn tc w0) = w1)) 0 0 A := by
  refine g_start (own := RX3) [.ref (ad 17 j), .ref (D.2 100 (1 + 2)), .int t] (cc := cX3_fail) (maxL := 4) (ret := none) (lv0 := [(0, .ref (ad 17 j)), (1, .ref (D.2 100 (1 + 2))), (2, .int t)]) (by decide) rfl rfl (Nat.le_of_ble_eq_true rfl) rfl ?_
  intro p e s m below meth c F hr hlocks hno
  have hinX3 : ∀ w ∈ wsX30, w ∈ wsX3_fail := by decide +kernel
  refine g_aload_n F 1 dX3_fail_0 rfl rfl ?_
  refine g_getC F 2 0 (v := 2) (by decide) rfl rfl (by decide +kernel) dX3_fail_1 ?_
  refine g_istore_n F (lv1 := [(3, .int 2), (0, .ref (ad 17 j)), (1, .ref (D.2 100 (1 + 2))), (2, .int t)]) dX3_fail_4 rfl (by decide) rfl ?_
  refine g_iload_n F 0 dX3_fail_5 rfl rfl ?_
  refine g_if_lt F (tgt := 18) dX3_fail_6 (by decide) (fun zc1 => ?_) (fun zc1 => ?_)
  ·
    exact absurd ((nI_ltE (show 2 = nI 2 from rfl) (show 0 = nI 0 from rfl) (show 2 < 2 ^ 31 by omega) (show 0 < 2 ^ 31 by omega)).mp zc1) (by omega)
  ·
    refine g_iload_n F 0 dX3_fail_9 rfl rfl ?_
    refine g_aload_n F 1 dX3_fail_10 rfl rfl ?_
    refine g_getf (k := 17) (i := j) (ci := 3) (C := RX3) (T := TX3) (N := 16) (fs := (cM ad σ mt j)) (fk := 11) F hinX3 (hC.2.2.2.2.2.2.2.1 j (by omega)).1 rfl rfl (by decide) (by decide +kernel) rfl rfl dX3_fail_11 ?_
    refine g_alen (t0 := 0) (k := 18) (i := j) (v := (nI 3)) F (hC.2.2.2.2.2.2.2.1 j (by omega)).2.1 rfl rfl rfl dX3_fail_14 ?_
    refine g_icmp_lt F (tgt := 19) dX3_fail_15 (by decide) (fun zc2 => ?_) (fun zc2 => ?_)
    ·
      refine g_aload_n F 1 dX3_fail_19 rfl rfl ?_
      refine g_getf (k := 17) (i := j) (ci := 3) (C := RX3) (T := TX3) (N := 16) (fs := (cM ad σ mt j)) (fk := 11) F hinX3 (hC.2.2.2.2.2.2.2.1 j (by omega)).1 rfl rfl (by decide) (by decide +kernel) rfl rfl dX3_fail_20 ?_
      refine g_iload_n F 0 dX3_fail_23 rfl rfl ?_
      refine g_dup2 F dX3_fail_24 rfl rfl ?_
      refine ca_iald (k := 18) (i := j) (n := 3) (f := (cF σ j)) F (hC.2.2.2.2.2.2.2.1 j (by omega)).2.1 rfl rfl ⟨by decide, by decide⟩ (v := (σ 27 ((3 * j) + (2 - 2)))) rfl dX3_fail_25 ?_
      refine g_iconst F dX3_fail_26 (v := 1) (by decide) ?_
      refine g_iadd F dX3_fail_27 ?_
      refine ca_iast (k := 18) (i := j) (n := 3) (f := cF σ j) F (hC.2.2.2.2.2.2.2.1 j (by omega)).2.1 rfl rfl ⟨by decide, by decide⟩ dX3_fail_28 ?_
      refine g_w (w1 := (cw D ad cs (up2 σ 27 ((3 * j) + (2 - 2)) ((σ 27 ((3 * j) + (2 - 2))) + 1)) Lx cap mk ev zl tx mt tn tc w0)) (cw_fail (j := j) (q := 2) (by omega) ((σ 27 ((3 * j) + (2 - 2))) + 1)).symm ?_
      refine g_aload_n F 1 dX3_fail_29 rfl rfl ?_
      refine g_iload_n F 3 dX3_fail_30 rfl rfl ?_
      refine g_aload_n F 2 dX3_fail_31 rfl rfl ?_
      refine g_aload_n F 1 dX3_fail_32 rfl rfl ?_
      refine g_getf (k := 17) (i := j) (ci := 3) (C := RX3) (T := TX3) (N := 16) (fs := (cM ad (up2 σ 27 ((3 * j) + (2 - 2)) ((σ 27 ((3 * j) + (2 - 2))) + 1)) mt j)) (fk := 11) F hinX3 (hC.2.2.2.2.2.2.2.1 j (by omega)).1 rfl rfl (by decide) (by decide +kernel) rfl rfl dX3_fail_33 ?_
      refine g_iload_n F 0 dX3_fail_36 rfl rfl ?_
      refine ca_iald (k := 18) (i := j) (n := 3) (f := (cF (up2 σ 27 ((3 * j) + (2 - 2)) ((σ 27 ((3 * j) + (2 - 2))) + 1)) j)) F (hC.2.2.2.2.2.2.2.1 j (by omega)).2.1 rfl rfl ⟨by decide, by decide⟩ (v := ((σ 27 ((3 * j) + (2 - 2))) + 1)) (up2_self _ _ _ _) dX3_fail_37 ?_
      refine q_callE F (i := 2) (rest := [.int t, .ref (ad 17 j)]) [.int ((σ 27 ((3 * j) + (2 - 2))) + 1)] (cc_delay2 l D A cs ad dm (up2 σ 27 ((3 * j) + (2 - 2)) ((σ 27 ((3 * j) + (2 - 2))) + 1)) Lx cap mk ev zl tx mt tn tc w0 n tq hC ((σ 27 ((3 * j) + (2 - 2))) + 1)) (cwV 1 F.1.2.2.2.2 gX3_fail_X1_delayAfter rfl rfl rfl (by decide +kernel) ⟨Nat.le_of_ble_eq_true rfl, Nat.le_of_ble_eq_true rfl⟩) rfl (by decide) rfl rfl (Nat.le_of_ble_eq_true rfl) dX3_fail_38 ⟨Nat.le_of_ble_eq_true rfl, Nat.le_of_ble_eq_true rfl⟩ (fun _ _ _ _ zv3 => ?_)
      obtain ⟨rfl, rfl, rfl, rfl⟩ := zv3
      show GG p l e _ s m _ below meth c D A ad dm _ _ _ _ (cw D ad cs (up2 σ 27 ((3 * j) + (2 - 2)) ((σ 27 ((3 * j) + (2 - 2))) + 1)) Lx cap mk ev zl tx mt tn tc w0) 41 _ [.int (dlA 10 ((σ 27 ((3 * j) + (2 - 2))) + 1)), .int t, .ref (ad 17 j)]
      refine g_iadd F dX3_fail_41 ?_
      refine g_putf (k := 17) (i := j) (ci := 3) (C := RX3) (T := TX3) (N := 16) (fs := (cM ad (up2 σ 27 ((3 * j) + (2 - 2)) ((σ 27 ((3 * j) + (2 - 2))) + 1)) mt j)) (fk := 13) (v := .int (t + (dlA 10 ((σ 27 ((3 * j) + (2 - 2))) + 1)))) (ty := .int) (tf := tyX3) F hinX3 tyX3_ok nmX3 (hC.2.2.2.2.2.2.2.1 j (by omega)).1 rfl rfl (by decide) (by decide +kernel) rfl rfl (by decide +kernel) rfl rfl (show 13 < 16 by decide) dX3_fail_42 ?_
      refine g_w (w1 := (cw D ad cs (up2 (up2 σ 27 ((3 * j) + (2 - 2)) ((σ 27 ((3 * j) + (2 - 2))) + 1)) 26 j (t + (dlA 10 ((σ 27 ((3 * j) + (2 - 2))) + 1)))) Lx cap mk ev zl tx mt tn tc w0)) (cp_26 j (t + (dlA 10 ((σ 27 ((3 * j) + (2 - 2))) + 1)))).symm ?_
      refine g_aload_n F 1 dX3_fail_45 rfl rfl ?_
      refine g_getf (k := 17) (i := j) (ci := 3) (C := RX3) (T := TX3) (N := 16) (fs := (cM ad (up2 (up2 σ 27 ((3 * j) + (2 - 2)) ((σ 27 ((3 * j) + (2 - 2))) + 1)) 26 j (t + (dlA 10 ((σ 27 ((3 * j) + (2 - 2))) + 1)))) mt j)) (fk := 10) F hinX3 (hC.2.2.2.2.2.2.2.1 j (by omega)).1 rfl rfl (by decide) (by decide +kernel) rfl rfl dX3_fail_46 ?_
      refine g_iconst F dX3_fail_49 (v := 2) (by decide) ?_
      refine g_iload_n F 0 dX3_fail_50 rfl rfl ?_
      refine g_iadd F dX3_fail_51 ?_
      refine q_callV F (C := RX2) (k := 19) (i := j) (ci := 2) (T := TX2) (N := 2) (rest := []) [.int (2 + 2)] (cc_logadd l D A cs ad dm (up2 (up2 σ 27 ((3 * j) + (2 - 2)) ((σ 27 ((3 * j) + (2 - 2))) + 1)) 26 j (t + (dlA 10 ((σ 27 ((3 * j) + (2 - 2))) + 1)))) Lx cap mk ev zl tx mt tn tc w0 n tq hC j (2 + 2) (by omega) hz he) (cwV 1 F.1.2.2.2.2 gX3_fail_X2_add rfl rfl rfl (by decide +kernel) ⟨Nat.le_of_ble_eq_true rfl, Nat.le_of_ble_eq_true rfl⟩) rfl (hC.2.2.2.2.2.2.2.1 j (by omega)).2.2.1 rfl rfl rfl rfl (Nat.le_of_ble_eq_true rfl) dX3_fail_52 ⟨Nat.le_of_ble_eq_true rfl, Nat.le_of_ble_eq_true rfl⟩ (fun _ _ _ _ zv4 => ?_)
      obtain ⟨rfl, rfl, rfl, rfl⟩ := zv4
      show GG p l e _ s m _ below meth c D A ad dm _ _ _ _ (cw D ad cs (up2 (up2 σ 27 ((3 * j) + (2 - 2)) ((σ 27 ((3 * j) + (2 - 2))) + 1)) 26 j (t + (dlA 10 ((σ 27 ((3 * j) + (2 - 2))) + 1)))) Lx cap mk (up2 ev j (zl j) (2 + 2)) (va_up zl j ((zl j) + 1)) tx mt tn tc w0) 55 _ []
      exact g_qv F hr hlocks (fun _ h => h) ⟨rfl, rfl, rfl, rfl⟩ (by decide) (by decide) dX3_fail_55
    ·
      exact absurd ((nI_ltE (show 2 = nI 2 from rfl) (show (nI 3) = nI 3 from rfl) (show 2 < 2 ^ 31 by omega) (show 3 < 2 ^ 31 by omega)).mpr (by omega)) zc2
def psn : List Nat → Nat → Nat
  | [], _ => 0
  | x :: xs, j => if x = j then 0 else psn xs j + 1
theorem psn_lt : ∀ {xs : List Nat} {j : Nat}, j ∈ xs → psn xs j < xs.length
  | x :: xs, j, h => by
    unfold psn
    split
    · exact Nat.succ_pos _
    · next q => exact Nat.succ_lt_succ (psn_lt ((List.mem_cons.mp h).resolve_left (fun z => q z.symm)))
theorem psn_at : ∀ {xs : List Nat} {j : Nat}, j ∈ xs → xs.getD (psn xs j) 0 = j
  | x :: xs, j, h => by
    unfold psn
    split
    · next q => exact q
    · next q => exact psn_at ((List.mem_cons.mp h).resolve_left (fun z => q z.symm))
theorem psn_ne : ∀ {xs : List Nat} {j k : Nat}, k < psn xs j → xs.getD k 0 ≠ j
  | [], j, k, h => by cases h
  | x :: xs, j, k, h => by
    unfold psn at h
    split at h
    · cases h
    · next q =>
      cases k with
      | zero => exact q
      | succ k => exact psn_ne (xs := xs) (Nat.lt_of_succ_lt_succ h)
theorem psn_rm : ∀ {xs : List Nat} {j : Nat}, xs.Nodup → xs.eraseIdx (psn xs j) = xs.filter (fun x => decide (x ≠ j))
  | [], j, _ => rfl
  | x :: xs, j, h => by
    have hx := (List.nodup_cons.mp h)
    unfold psn
    split
    · next q =>
      subst q
      rw [List.filter_cons_of_neg (by simp)]
      refine (List.filter_eq_self.mpr (fun y hy => ?_)).symm
      exact decide_eq_true (fun e => hx.1 (e ▸ hy))
    · next q =>
      rw [List.filter_cons_of_pos (by simp [q])]
      exact congrArg (x :: ·) (psn_rm hx.2)
set_option maxHeartbeats 4000000 in
set_option maxRecDepth 100000 in
theorem cc_take (l : Launch) (D : va_G) (A : Nat → Prop) (cs : Nat → ClassId) (ad : Nat → Nat → Nat) (dm : Nat → Nat → Prop) (σ : SG) (Lx : Nat → List Nat) (cap : Nat → Nat) (mk : Nat → Int32) (ev : SG) (zl tx mt tn : Nat → Nat) (tc : SG) (w0 : CF) (n tq : Nat) (hC : CD dm n cap tq) (r j : Nat) (hr6 : r < 6) (hj : j < n) (hlo : LO n Lx cap) (hm : j ∈ (Lx (5 + r))) : Met l yX4_takeFromQueue wsX4_takeFromQueue ({ frames := 3, cells := 0, slots := 0, locals := 86 }) (va_Pc [.ref (ad 14 r), .ref (ad 17 j)] (PW D A (tysG cs) ad dm (cw D ad cs σ Lx cap mk ev zl tx mt tn tc w0))) (QW D A (tysG cs) (fun rz ad1 dm1 w1 => rz = none ∧ ad = ad1 ∧ dm = dm1 ∧ (cw D ad cs σ (va_up Lx (5 + r) ((Lx (5 + r)).eraseIdx (psn (Lx (5 + r)) j))) cap (va_up mk (5 + r) ((mk (5 + r)) + 1)) ev zl tx mt tn tc w0) = w1)) 0 0 A := by
  refine g_start (own := RX4) [.ref (ad 14 r), .ref (ad 17 j)] (cc := cX4_takeFromQueue) (maxL := 3) (ret := none) (lv0 := [(0, .ref (ad 14 r)), (1, .ref (ad 17 j))]) (by decide) rfl rfl (Nat.le_of_ble_eq_true rfl) rfl ?_
  intro p e s m below meth c F hr hlocks hno
  have hq60 : (Lx (5 + r)).length ≤ 60 := Nat.le_trans (hlo (5 + r) (by omega)).1 (hlo (5 + r) (by omega)).2.1
  have hp1 := psn_lt hm
  have hinX4 : ∀ w ∈ wsX40, w ∈ wsX4_takeFromQueue := by decide +kernel
  refine g_iconst F dX4_takeFromQueue_0 (v := 0) (by decide) ?_
  refine g_istore_n F (lv1 := [(2, .int 0), (0, .ref (ad 14 r)), (1, .ref (ad 17 j))]) dX4_takeFromQueue_1 rfl (by decide) rfl ?_
  refine g_loop (psn (Lx (5 + r)) j) 0 (by omega) (fun zk1 => (cw D ad cs σ Lx cap mk ev zl tx mt tn tc w0)) (fun zk1 => [(2, .int (nI zk1)), (0, .ref (ad 14 r)), (1, .ref (ad 17 j))]) rfl rfl ?_ (fun zk1 zhk3 zhk4 zih2 => ?_)
  ·
    show GG p l e _ s m _ below meth c D A ad dm _ _ _ _ (cw D ad cs σ Lx cap mk ev zl tx mt tn tc w0) 2 [(2, .int (nI (psn (Lx (5 + r)) j))), (0, .ref (ad 14 r)), (1, .ref (ad 17 j))] []
    refine g_iload_n F 0 dX4_takeFromQueue_2 rfl rfl ?_
    refine g_aload_n F 1 dX4_takeFromQueue_3 rfl rfl ?_
    refine g_getf (k := 14) (i := r) (ci := 4) (C := RX4) (T := TX4) (N := 5) (fs := (cR ad σ r)) (fk := 4) F hinX4 (hC.2.2.2.2.1 r (by omega)) rfl rfl (by decide) (by decide +kernel) rfl rfl dX4_takeFromQueue_4 ?_
    refine q_callV F (C := RJx4a65c) (k := 15) (i := (5 + r)) (ci := 0) (T := TJx4a65c) (N := 3) (rest := [.int (nI (psn (Lx (5 + r)) j))]) [] (cl_size l D A cs ad dm σ Lx cap mk ev zl tx mt tn tc w0 n tq hC (5 + r) (by omega)) (cwV 0 F.1.2.2.2.2 gX4_takeFromQueue_Jx4a65c_size_8abf5 rfl rfl rfl (by decide +kernel) ⟨Nat.le_of_ble_eq_true rfl, Nat.le_of_ble_eq_true rfl⟩) rfl (hC.2.2.2.2.2.1 (5 + r) (by omega)) rfl rfl rfl rfl (Nat.le_of_ble_eq_true rfl) dX4_takeFromQueue_7 ⟨Nat.le_of_ble_eq_true rfl, Nat.le_of_ble_eq_true rfl⟩ (fun _ _ _ _ zv5 => ?_)
    obtain ⟨rfl, rfl, rfl, rfl⟩ := zv5
    show GG p l e _ s m _ below meth c D A ad dm _ _ _ _ (cw D ad cs σ Lx cap mk ev zl tx mt tn tc w0) 10 _ [.int (nI ((Lx (5 + r)).length)), .int (nI (psn (Lx (5 + r)) j))]
    refine g_icmp_ge F (tgt := 41) dX4_takeFromQueue_10 (by decide) (fun zc6 => ?_) (fun zc6 => ?_)
    ·
      exact absurd ((nI_leE (show (nI ((Lx (5 + r)).length)) = nI ((Lx (5 + r)).length) from rfl) (show (nI (psn (Lx (5 + r)) j)) = nI (psn (Lx (5 + r)) j) from rfl) (show (Lx (5 + r)).length < 2 ^ 31 by omega) (show (psn (Lx (5 + r)) j) < 2 ^ 31 by omega)).mp zc6) (by omega)
    ·
      refine g_aload_n F 1 dX4_takeFromQueue_13 rfl rfl ?_
      refine g_getf (k := 14) (i := r) (ci := 4) (C := RX4) (T := TX4) (N := 5) (fs := (cR ad σ r)) (fk := 4) F hinX4 (hC.2.2.2.2.1 r (by omega)) rfl rfl (by decide) (by decide +kernel) rfl rfl dX4_takeFromQueue_14 ?_
      refine g_iload_n F 0 dX4_takeFromQueue_17 rfl rfl ?_
      refine q_callV F (C := RJx4a65c) (k := 15) (i := (5 + r)) (ci := 0) (T := TJx4a65c) (N := 3) (rest := []) [.int (nI (psn (Lx (5 + r)) j))] (cl_getL l D A cs ad dm σ Lx cap mk ev zl tx mt tn tc w0 n tq hC (5 + r) (psn (Lx (5 + r)) j) hlo (by omega) (by omega)) (cwV 1 F.1.2.2.2.2 gX4_takeFromQueue_Jx4a65c_get_915e3 rfl rfl rfl (by decide +kernel) ⟨Nat.le_of_ble_eq_true rfl, Nat.le_of_ble_eq_true rfl⟩) rfl (hC.2.2.2.2.2.1 (5 + r) (by omega)) rfl rfl rfl rfl (Nat.le_of_ble_eq_true rfl) dX4_takeFromQueue_18 ⟨Nat.le_of_ble_eq_true rfl, Nat.le_of_ble_eq_true rfl⟩ (fun _ _ _ _ zv7 => ?_)
      obtain ⟨rfl, rfl, rfl, rfl⟩ := zv7
      have hg18 := hlo.get (i := (5 + r)) (a := (psn (Lx (5 + r)) j)) (by omega) (by omega)
      show GG p l e _ s m _ below meth c D A ad dm _ _ _ _ (cw D ad cs σ Lx cap mk ev zl tx mt tn tc w0) 21 _ [.ref (ad 17 ((Lx (5 + r)).getD (psn (Lx (5 + r)) j) 0))]
      refine g_aload_n F 2 dX4_takeFromQueue_21 rfl rfl ?_
      refine ca_acmp_ne (hC.2.2.2.2.2.2.2.1 ((Lx (5 + r)).getD (psn (Lx (5 + r)) j) 0) (hlo.get (i := 5 + r) (by omega) hp1)).1 (hC.2.2.2.2.2.2.2.1 j (by omega)).1 F (tgt := 35) dX4_takeFromQueue_22 (by decide) (fun zc8 => ?_) (fun zc8 => ?_)
      ·
        exact absurd (psn_at hm) zc8
      ·
        refine g_aload_n F 1 dX4_takeFromQueue_25 rfl rfl ?_
        refine g_getf (k := 14) (i := r) (ci := 4) (C := RX4) (T := TX4) (N := 5) (fs := (cR ad σ r)) (fk := 4) F hinX4 (hC.2.2.2.2.1 r (by omega)) rfl rfl (by decide) (by decide +kernel) rfl rfl dX4_takeFromQueue_26 ?_
        refine g_iload_n F 0 dX4_takeFromQueue_29 rfl rfl ?_
        refine q_callV F (C := RJx4a65c) (k := 15) (i := (5 + r)) (ci := 0) (T := TJx4a65c) (N := 3) (rest := []) [.int (nI (psn (Lx (5 + r)) j))] (cl_remove l D A cs ad dm σ Lx cap mk ev zl tx mt tn tc w0 n tq hC (5 + r) (psn (Lx (5 + r)) j) (by omega) hp1 (hlo (5 + r) (by omega)).1 (hlo (5 + r) (by omega)).2.1 (hlo (5 + r) (by omega)).2.2) (cwV 1 F.1.2.2.2.2 gX4_takeFromQueue_Jx4a65c_remove_915e3 rfl rfl rfl (by decide +kernel) ⟨Nat.le_of_ble_eq_true rfl, Nat.le_of_ble_eq_true rfl⟩) rfl (hC.2.2.2.2.2.1 (5 + r) (by omega)) rfl rfl rfl rfl (Nat.le_of_ble_eq_true rfl) dX4_takeFromQueue_30 ⟨Nat.le_of_ble_eq_true rfl, Nat.le_of_ble_eq_true rfl⟩ (fun _ _ _ _ zv9 => ?_)
        obtain ⟨rfl, rfl, rfl, rfl⟩ := zv9
        show GG p l e _ s m _ below meth c D A ad dm _ _ _ _ (cw D ad cs σ (va_up Lx (5 + r) ((Lx (5 + r)).eraseIdx (psn (Lx (5 + r)) j))) cap (va_up mk (5 + r) ((mk (5 + r)) + 1)) ev zl tx mt tn tc w0) 33 _ [.ref (ad 17 ((Lx (5 + r)).getD (psn (Lx (5 + r)) j) 0))]
        refine g_pop F dX4_takeFromQueue_33 rfl ?_
        exact g_qv F hr hlocks (fun _ h => h) ⟨rfl, rfl, rfl, rfl⟩ (by decide) (by decide) dX4_takeFromQueue_34
  ·
    replace zih2 : GG p l e _ s m _ below meth c D A ad dm _ _ _ _ (cw D ad cs σ Lx cap mk ev zl tx mt tn tc w0) 2 [(2, .int (nI (zk1 + 1))), (0, .ref (ad 14 r)), (1, .ref (ad 17 j))] [] := zih2
    show GG p l e _ s m _ below meth c D A ad dm _ _ _ _ (cw D ad cs σ Lx cap mk ev zl tx mt tn tc w0) 2 [(2, .int (nI zk1)), (0, .ref (ad 14 r)), (1, .ref (ad 17 j))] []
    refine g_iload_n F 0 dX4_takeFromQueue_2 rfl rfl ?_
    refine g_aload_n F 1 dX4_takeFromQueue_3 rfl rfl ?_
    refine g_getf (k := 14) (i := r) (ci := 4) (C := RX4) (T := TX4) (N := 5) (fs := (cR ad σ r)) (fk := 4) F hinX4 (hC.2.2.2.2.1 r (by omega)) rfl rfl (by decide) (by decide +kernel) rfl rfl dX4_takeFromQueue_4 ?_
    refine q_callV F (C := RJx4a65c) (k := 15) (i := (5 + r)) (ci := 0) (T := TJx4a65c) (N := 3) (rest := [.int (nI zk1)]) [] (cl_size l D A cs ad dm σ Lx cap mk ev zl tx mt tn tc w0 n tq hC (5 + r) (by omega)) (cwV 0 F.1.2.2.2.2 gX4_takeFromQueue_Jx4a65c_size_8abf5 rfl rfl rfl (by decide +kernel) ⟨Nat.le_of_ble_eq_true rfl, Nat.le_of_ble_eq_true rfl⟩) rfl (hC.2.2.2.2.2.1 (5 + r) (by omega)) rfl rfl rfl rfl (Nat.le_of_ble_eq_true rfl) dX4_takeFromQueue_7 ⟨Nat.le_of_ble_eq_true rfl, Nat.le_of_ble_eq_true rfl⟩ (fun _ _ _ _ zv10 => ?_)
    obtain ⟨rfl, rfl, rfl, rfl⟩ := zv10
    show GG p l e _ s m _ below meth c D A ad dm _ _ _ _ (cw D ad cs σ Lx cap mk ev zl tx mt tn tc w0) 10 _ [.int (nI ((Lx (5 + r)).length)), .int (nI zk1)]
    refine g_icmp_ge F (tgt := 41) dX4_takeFromQueue_10 (by decide) (fun zc11 => ?_) (fun zc11 => ?_)
    ·
      exact absurd ((nI_leE (show (nI ((Lx (5 + r)).length)) = nI ((Lx (5 + r)).length) from rfl) (show (nI zk1) = nI zk1 from rfl) (show (Lx (5 + r)).length < 2 ^ 31 by omega) (show zk1 < 2 ^ 31 by omega)).mp zc11) (by omega)
    ·
      refine g_aload_n F 1 dX4_takeFromQueue_13 rfl rfl ?_
      refine g_getf (k := 14) (i := r) (ci := 4) (C := RX4) (T := TX4) (N := 5) (fs := (cR ad σ r)) (fk := 4) F hinX4 (hC.2.2.2.2.1 r (by omega)) rfl rfl (by decide) (by decide +kernel) rfl rfl dX4_takeFromQueue_14 ?_
      refine g_iload_n F 0 dX4_takeFromQueue_17 rfl rfl ?_
      refine q_callV F (C := RJx4a65c) (k := 15) (i := (5 + r)) (ci := 0) (T := TJx4a65c) (N := 3) (rest := []) [.int (nI zk1)] (cl_getL l D A cs ad dm σ Lx cap mk ev zl tx mt tn tc w0 n tq hC (5 + r) zk1 hlo (by omega) (by omega)) (cwV 1 F.1.2.2.2.2 gX4_takeFromQueue_Jx4a65c_get_915e3 rfl rfl rfl (by decide +kernel) ⟨Nat.le_of_ble_eq_true rfl, Nat.le_of_ble_eq_true rfl⟩) rfl (hC.2.2.2.2.2.1 (5 + r) (by omega)) rfl rfl rfl rfl (Nat.le_of_ble_eq_true rfl) dX4_takeFromQueue_18 ⟨Nat.le_of_ble_eq_true rfl, Nat.le_of_ble_eq_true rfl⟩ (fun _ _ _ _ zv12 => ?_)
      obtain ⟨rfl, rfl, rfl, rfl⟩ := zv12
      have hg18 := hlo.get (i := (5 + r)) (a := zk1) (by omega) (by omega)
      show GG p l e _ s m _ below meth c D A ad dm _ _ _ _ (cw D ad cs σ Lx cap mk ev zl tx mt tn tc w0) 21 _ [.ref (ad 17 ((Lx (5 + r)).getD zk1 0))]
      refine g_aload_n F 2 dX4_takeFromQueue_21 rfl rfl ?_
      refine ca_acmp_ne (hC.2.2.2.2.2.2.2.1 ((Lx (5 + r)).getD zk1 0) (hlo.get (i := 5 + r) (a := zk1) (by omega) (by omega))).1 (hC.2.2.2.2.2.2.2.1 j (by omega)).1 F (tgt := 35) dX4_takeFromQueue_22 (by decide) (fun zc13 => ?_) (fun zc13 => ?_)
      ·
        refine g_iinc F (v := (nI (zk1 + 1))) (lv1 := [(2, .int (nI (zk1 + 1))), (0, .ref (ad 14 r)), (1, .ref (ad 17 j))]) 0 dX4_takeFromQueue_35 rfl (nI_1 zk1) (by decide) rfl ?_
        refine g_goto F (tgt := 2) dX4_takeFromQueue_38 (by decide) ?_
        exact g_lv [0, 1, 2] rfl zih2
      ·
        exact absurd zc13 (psn_ne zhk4)
def r16 {α : Type} (f : Nat → Nat → α) (g : Nat → α) : Nat → Nat → α := fun k i => if k = 16 then g i else f k i
theorem r16_id {α : Type} (f : Nat → Nat → α) : r16 f (f 16) = f := by
  funext k i
  unfold r16
  split
  · next h => rw [h]
  · rfl
theorem r16_r {α : Type} (f : Nat → Nat → α) (g h : Nat → α) : r16 (r16 f g) h = r16 f h := by
  funext k i
  unfold r16
  split <;> rfl
theorem r16_up {ad : Nat → Nat → Nat} (i q : Nat) : up2 ad 16 i q = r16 ad (va_up (ad 16) i q) := by
  funext k b
  unfold r16
  by_cases h : k = 16
  · rw [if_pos h, h]
    by_cases hb : b = i
    · rw [hb, up2_self, va_up_self]
    · rw [up2_ne _ _ (fun z => hb z.2), va_up_ne _ _ hb]
  · rw [if_neg h, up2_ne _ _ (fun z => h z.1)]
theorem r16_or {dm : Nat → Nat → Prop} (i : Nat) : (fun a b => dm a b ∨ (a = 16 ∧ b = i)) = r16 dm (fun b => dm 16 b ∨ b = i) := by
  funext a b
  unfold r16
  by_cases h : a = 16
  · rw [if_pos h, h]; simp
  · rw [if_neg h]; simp [h]
def EXP (D : va_G) (cs : Nat → ClassId) (n tq : Nat) (ad : Nat → Nat → Nat) (dm : Nat → Nat → Prop) (σ : SG) (Lx : Nat → List Nat) (ev : SG) (zl tx mt tn : Nat → Nat) (tc : SG) (w0 : CF) (ad1 : Nat → Nat → Nat) (dm1 : Nat → Nat → Prop) (w1 : CF) : Prop :=
  ∃ (g : Nat → Nat) (d : Nat → Prop) (cp : Nat → Nat) (mq : Nat → Int32), ad1 = r16 ad g ∧ dm1 = r16 dm d ∧ CD (r16 dm d) n cp tq ∧ LO n Lx cp ∧ w1 = cw D (r16 ad g) cs σ Lx cp mq ev zl tx mt tn tc w0
section EXS
variable {D : va_G} {cs : Nat → ClassId} {n tq : Nat} {ad : Nat → Nat → Nat} {dm : Nat → Nat → Prop} {σ : SG} {Lx : Nat → List Nat} {cap : Nat → Nat} {mk : Nat → Int32} {ev : SG} {zl tx mt tn : Nat → Nat} {tc : SG} {w0 : CF}
theorem EXP.same (hC : CD dm n cap tq) (hlo : LO n Lx cap) : EXP D cs n tq ad dm σ Lx ev zl tx mt tn tc w0 ad dm (cw D ad cs σ Lx cap mk ev zl tx mt tn tc w0) := ⟨ad 16, dm 16, cap, mk, (r16_id ad).symm, (r16_id dm).symm, by rw [r16_id]; exact hC, hlo, by rw [r16_id]⟩
theorem LO.rm (h : LO n Lx cap) (i p : Nat) : LO n (va_up Lx i ((Lx i).eraseIdx p)) cap := by
  intro b hb
  by_cases e : b = i
  · subst e
    rw [va_up_self]
    have h1 := h b hb
    exact ⟨Nat.le_trans (List.length_eraseIdx_le _ _) h1.1, h1.2.1, fun j hj => h1.2.2 j (List.mem_of_mem_eraseIdx hj)⟩
  · rw [va_up_ne _ _ e]
    exact h b hb
theorem LO.add (h : LO n Lx cap) {i j c2 : Nat} (hj : j < n) (h1 : (Lx i).length + 1 ≤ c2) (h2 : c2 ≤ 60) (hi : i < 11) : LO n (va_up Lx i (Lx i ++ [j])) (va_up cap i c2) := by
  intro b hb
  by_cases e : b = i
  · subst e
    rw [va_up_self, va_up_self]
    refine ⟨by rw [List.length_append]; exact h1, h2, fun k hk => ?_⟩
    rcases List.mem_append.mp hk with q | q
    · exact (h b hb).2.2 k q
    · rw [List.mem_singleton.mp q]; exact hj
  · rw [va_up_ne _ _ e, va_up_ne _ _ e]
    exact h b hb
theorem EXP.add (hC : CD dm n cap tq) (hlo : LO n Lx cap) {i j q c2 : Nat} (hi : i < 11) (hj : j < n) (h1 : (Lx i).length + 1 ≤ c2) (h2 : c2 ≤ 60) : EXP D cs n tq ad dm σ (va_up Lx i (Lx i ++ [j])) ev zl tx mt tn tc w0 (up2 ad 16 i q) (fun a b => dm a b ∨ (a = 16 ∧ b = i)) (cw D (up2 ad 16 i q) cs σ (va_up Lx i (Lx i ++ [j])) (va_up cap i c2) mk ev zl tx mt tn tc w0) :=
  ⟨va_up (ad 16) i q, fun b => dm 16 b ∨ b = i, va_up cap i c2, mk, r16_up i q, r16_or i, by rw [← r16_or]; exact hC.grow, hlo.add hj h1 h2 hi, by rw [r16_up]⟩
theorem EXP.trans {g : Nat → Nat} {d : Nat → Prop} {σ2 : SG} {L2 : Nat → List Nat} {ev2 : SG} {zl2 : Nat → Nat} {ad1 : Nat → Nat → Nat} {dm1 : Nat → Nat → Prop} {w1 : CF} (h : EXP D cs n tq (r16 ad g) (r16 dm d) σ2 L2 ev2 zl2 tx mt tn tc w0 ad1 dm1 w1) : EXP D cs n tq ad dm σ2 L2 ev2 zl2 tx mt tn tc w0 ad1 dm1 w1 := by
  obtain ⟨g2, d2, cp, mq, h1, h2, h3, h4, h5⟩ := h
  rw [r16_r] at h1 h5
  rw [r16_r] at h2 h3
  exact ⟨g2, d2, cp, mq, h1, h2, h3, h4, h5⟩
end EXS

