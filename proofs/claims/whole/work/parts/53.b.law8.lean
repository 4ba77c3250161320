set_option maxHeartbeats 8000000 in
set_option maxRecDepth 100000 in
theorem op_due {p : Program} {l : Launch} {e : Env} {s : State} {m : MethodId} {args : Array Value} {below : List Frame} {meth : Method} {c : Code} {cells slots : Nat} {Q : State → Prop} {D : va_G} {A : Nat → Prop} {cs : Nat → ClassId} {ad : Nat → Nat → Nat} {dm : Nat → Nat → Prop} (F : FX p s m args c cL_law 9 wsL_law RL D A (tysG cs)) {b L i x0 xm xo t : Nat} {xs : Nat → Int32} {σ : SG} {w : CF} (hX : va_X b L xs s s.heap) (hbl : b < s.heap.size) (hbA : ¬ A b) (hL9 : L ≤ 2560) (hi : i + 4 < L) (hfl : l.stackTraces = false) (ht : t < 900000) (hLI : LI D cs x0 xm xo t σ ad dm w) (hc : cells + 100 ≤ 601024 ∧ slots + 4000 ≤ 7293034) (kk : ∀ (t1 : Nat) (τ : SG) (ad1 : Nat → Nat → Nat) (dm1 : Nat → Nat → Prop) (w1 : CF), t1 ≤ t + 100 → LI D cs x0 xm xo t1 τ ad1 dm1 w1 → GG p l e room_1 s m args below meth c D A ad1 dm1 9 (cells + 100) (slots + 4000) Q w1 1645 [(0, .ref b), (1, .ref x0), (2, .ref xm), (3, .ref xo), (4, .int (nI i))] []) : GG p l e room_1 s m args below meth c D A ad dm 9 cells slots Q w 937 [(0, .ref b), (1, .ref x0), (2, .ref xm), (3, .ref xo), (4, .int (nI i))] [] := by
  obtain ⟨n, tq, Lx, cap, mk, ev, zl, tx, mt, tn, tc, w0, f9, hC0, hlo, hM0, h20, ⟨rfl, rfl, rfl⟩, hI, he, rfl⟩ := hLI
  refine g_forget (dm1 := rs9 dm n tq) (ad1 := ad) (w1 := mw ad cs σ (cw D ad cs σ Lx cap mk ev zl tx mt tn tc w0)) (fun k i q => q.1) (fun _ _ _ => rfl) (fun _ _ _ => rfl) ?_
  have hC := rs9_CD hC0
  have hM := rs9_MD hM0 n tq
  have hub := rs9_UB dm n tq
  have h2 : rs9 dm n tq 2 0 := ⟨h20, .inl (by decide)⟩
  generalize rs9 dm n tq = d9 at hC hM hub h2 ⊢
  refine g_w (mw_cw D ad ad cs σ σ Lx cap mk ev zl tx mt tn tc w0 (fun _ => rfl)) ?_
  have hn40 := hI.1
  have hn := hI.2.1
  have hLV := hI.2.2.1
  have hL : Lx 0 = List.range n := hLV.2.1.1.1
  have hQ : ∀ r, r < 6 → Lx (5 + r) = qf σ n r := hLV.2.1.1.2
  have hIC : IC n σ Lx := hLV.2.1.2.1
  have hmm : ∀ j, j < n → okM σ j := hLV.2.2.2.2
  have hmt := hI.hmt
  have heC : (cw D ad cs σ Lx cap mk ev zl tx mt tn tc (mw ad cs σ w0)) 2 0 = .inl (cs 2, 1, .inr (.inl f9)) := (cw_lo (by decide) 0).trans ((mw_rest ad cs σ w0 (by decide) 0).trans he)
  refine g_aload_n F 1 dL_law_937 rfl rfl ?_
  refine la_arg F (jb := 0) (ji := 4) (j := 1) (v := 1) hX hbl hbA rfl rfl hL9 (by omega) (by decide) (by decide) dL_law_938 dL_law_939 dL_law_941 dL_law_942 dL_law_943 ?_
  refine g_aload_n F 3 dL_law_944 rfl rfl ?_
  refine q_callSW F (rest := []) [.ref (ad 10 0), .int (xs (i + 1)), .ref (ad 2 0)] (lh_due l D A cs ad d9 (cw D ad cs σ Lx cap mk ev zl tx mt tn tc (mw ad cs σ w0)) (xs (i + 1)) (cc_due l D A cs ad d9 σ Lx cap mk ev zl tx mt tn tc (mw ad cs σ w0) n tq hC (xs (i + 1)) hn40 hL hlo hfl) hC.1 rfl (fun v ad1 dm1 w1 h => by obtain ⟨-, rfl, rfl, rfl, rfl⟩ := h; exact ⟨⟨_, rfl⟩, h2, rfl, (cw_lo (by decide) 0).trans ((mw_rest ad cs σ w0 (by decide) 0).trans he)⟩) (fun E h => h.elim (fun q => .inl q.1) (fun q => .inr q.1))) (vx_cwSW 3 F.1.2.2.2.2 gL_law_L_due rfl rfl rfl (by decide +kernel) ⟨Nat.le_of_ble_eq_true rfl, Nat.le_of_ble_eq_true rfl⟩) rfl rfl (Nat.le_of_ble_eq_true rfl) dL_law_945 ⟨Nat.le_trans (Nat.add_le_add_left (show 2 ≤ 100 by decide) cells) hc.1, Nat.le_trans (Nat.add_le_add_left (show 12 ≤ 4000 by decide) slots) hc.2⟩ (fun rz ad1 dm1 w1 hv => ?_)
  have hx : ∃ (τ : SG) (bb : Int32) (t1 : Nat), t1 ≤ t + 100 ∧ (∀ W : CF, MD dm1 → Met l yX6_due wsX6_due ({ frames := 2, cells := 0, slots := 0, locals := 43 }) (va_Pc [.ref (ad1 0 0), .int (xs (i + 1))] (PW D A (tysG cs) ad1 dm1 (mw ad1 cs σ W))) (va_Qi (fun r (_ : Unit) => r = bb) (fun _ t => PW D A (tysG cs) ad1 dm1 (mw ad1 cs τ W) t) A) 0 0 A) ∧ NX D cs (ad 10 0) (ad 0 0) (ad 2 0) t1 σ τ bb True rz ad1 dm1 w1 := by
    refine ⟨_, _, t, Nat.le_add_right _ _, fun W hM1 => (mc_due l D A cs ad1 dm1 W σ (xs (i + 1)) n hM1 hn hn40), ?_⟩
    rcases hv with ⟨v, w2, hp, rfl, rfl⟩ | ⟨hp, rfl, rfl, rfl, rfl⟩ | ⟨hp, rfl, rfl, rfl, rfl⟩
    · obtain ⟨hP, hr, rfl, rfl, rfl⟩ := hp
      have h1 : inR (xs (i + 1)) 0 ((σ 11 0) - 1) := by rw [hn]; exact hP.1
      have h12 : inR (xs (i + 1)) 0 ((σ 11 0) - 1) ∧ σ 23 (ix (xs (i + 1))) = 0 := ⟨h1, hP.2⟩
      simp only [if_pos h12, if_pos h1, if_pos hP.2]
      exact NX.good hC hlo hM h2 (fun _ _ _ => rfl) (hI.up 0) ((AG.id σ).upl n32 0 0) (up2_self _ _ _ _) (Value.int.inj (Option.some.inj hr))
    · rcases hp with ⟨-, q⟩ | ⟨q, -⟩
      · have h1 : ¬ inR (xs (i + 1)) 0 ((σ 11 0) - 1) := fun z => q (by rw [hn] at z; exact z)
        have h12 : ¬ (inR (xs (i + 1)) 0 ((σ 11 0) - 1) ∧ σ 23 (ix (xs (i + 1))) = 0) := fun z => h1 z.1
        simp only [if_neg h12, if_neg h1]
        exact NX.thr hC hlo hM h2 hI he (by decide)
      · exact absurd q (by decide)
    · rcases hp with ⟨q, -⟩ | ⟨-, q1, q2⟩
      · exact absurd q (by decide)
      · have h1 : inR (xs (i + 1)) 0 ((σ 11 0) - 1) := by rw [hn]; exact q1
        have h12 : ¬ (inR (xs (i + 1)) 0 ((σ 11 0) - 1) ∧ σ 23 (ix (xs (i + 1))) = 0) := fun z => q2 z.2
        simp only [if_neg h12, if_pos h1, if_neg q2]
        exact NX.thr hC hlo hM h2 hI he (by decide)
  obtain ⟨τ, bb, t1, ht1, hMet, n1, tq1, L1, c1, m1, e1, z1, x1, y1, k1, u1, w01, f91, hC1, hlo1, hM1, h21, ha1, hI1, he1, rfl, rfl, hcmp⟩ := hx
  refine g_widen (cells1 := cells + 100) (slots1 := slots + 4000) (Nat.add_le_add_left (by decide) _) (Nat.add_le_add_left (by decide) _) ?_
  refine g_st (st1 := [.int (τ 32 0)]) rfl ?_
  refine g_istore F (lv1 := [(5, .int (τ 32 0)), (0, .ref b), (1, .ref (ad 10 0)), (2, .ref (ad 0 0)), (3, .ref (ad 2 0)), (4, .int (nI i))]) dL_law_948 (by decide) rfl ?_
  refine g_aload_n F 3 dL_law_950 rfl rfl ?_
  refine la_arg F (jb := 1) (ji := 5) (j := 1) (v := 1) hX hbl hbA rfl rfl hL9 (by omega) (by decide) (by decide) dL_law_951 dL_law_952 dL_law_954 dL_law_955 dL_law_956 ?_
  refine g_st (st1 := [.int (xs (i + 1)), .ref (ad1 0 0)]) (by rw [ha1.2.1]) ?_
  refine g_callVi F (C := RX6) (k := 0) (i := 0) (ci := 6) (T := TX6) (N := 33) (rest := []) [.int (xs (i + 1))] (hMet _ hM1) (cwV 1 F.1.2.2.2.2 gL_law_X6_due rfl rfl rfl (by decide +kernel) ⟨Nat.le_of_ble_eq_true rfl, Nat.le_of_ble_eq_true rfl⟩) rfl hM1.1 rfl rfl rfl rfl (Nat.le_of_ble_eq_true rfl) dL_law_957 (show cells + 100 + 0 ≤ room_1.cells ∧ slots + 4000 + 0 ≤ room_1.slots from hc) ?_
  exact la_tail F (n := n1) (tq := tq1) (σ := σ) (t := t) hM1 h21 ha1 he1 hcmp hc dL_law_960 dL_law_962 dL_law_963 dL_law_966 dL_law_968 dL_law_973 dL_law_975 dL_law_978 dL_law_979 dL_law_980 dL_law_981 dL_law_983 dL_law_984 dL_law_985 dL_law_990 (by decide) (kk t1 τ ad1 dm1 _ ht1 ⟨n1, tq1, L1, c1, m1, e1, z1, x1, y1, k1, u1, w01, f91, hC1, hlo1, hM1, h21, ha1, hI1, he1, rfl⟩)
set_option maxHeartbeats 8000000 in
set_option maxRecDepth 100000 in
theorem op_setRate {p : Program} {l : Launch} {e : Env} {s : State} {m : MethodId} {args : Array Value} {below : List Frame} {meth : Method} {c : Code} {cells slots : Nat} {Q : State → Prop} {D : va_G} {A : Nat → Prop} {cs : Nat → ClassId} {ad : Nat → Nat → Nat} {dm : Nat → Nat → Prop} (F : FX p s m args c cL_law 9 wsL_law RL D A (tysG cs)) {b L i x0 xm xo t : Nat} {xs : Nat → Int32} {σ : SG} {w : CF} (hX : va_X b L xs s s.heap) (hbl : b < s.heap.size) (hbA : ¬ A b) (hL9 : L ≤ 2560) (hi : i + 4 < L) (hfl : l.stackTraces = false) (ht : t < 900000) (hLI : LI D cs x0 xm xo t σ ad dm w) (hc : cells + 100 ≤ 601024 ∧ slots + 4000 ≤ 7293034) (kk : ∀ (t1 : Nat) (τ : SG) (ad1 : Nat → Nat → Nat) (dm1 : Nat → Nat → Prop) (w1 : CF), t1 ≤ t + 100 → LI D cs x0 xm xo t1 τ ad1 dm1 w1 → GG p l e room_1 s m args below meth c D A ad1 dm1 9 (cells + 100) (slots + 4000) Q w1 1645 [(0, .ref b), (1, .ref x0), (2, .ref xm), (3, .ref xo), (4, .int (nI i))] []) : GG p l e room_1 s m args below meth c D A ad dm 9 cells slots Q w 348 [(0, .ref b), (1, .ref x0), (2, .ref xm), (3, .ref xo), (4, .int (nI i))] [] := by
  obtain ⟨n, tq, Lx, cap, mk, ev, zl, tx, mt, tn, tc, w0, f9, hC0, hlo, hM0, h20, ⟨rfl, rfl, rfl⟩, hI, he, rfl⟩ := hLI
  refine g_forget (dm1 := rs9 dm n tq) (ad1 := ad) (w1 := mw ad cs σ (cw D ad cs σ Lx cap mk ev zl tx mt tn tc w0)) (fun k i q => q.1) (fun _ _ _ => rfl) (fun _ _ _ => rfl) ?_
  have hC := rs9_CD hC0
  have hM := rs9_MD hM0 n tq
  have hub := rs9_UB dm n tq
  have h2 : rs9 dm n tq 2 0 := ⟨h20, .inl (by decide)⟩
  generalize rs9 dm n tq = d9 at hC hM hub h2 ⊢
  refine g_w (mw_cw D ad ad cs σ σ Lx cap mk ev zl tx mt tn tc w0 (fun _ => rfl)) ?_
  have hn40 := hI.1
  have hn := hI.2.1
  have hLV := hI.2.2.1
  have hL : Lx 0 = List.range n := hLV.2.1.1.1
  have hQ : ∀ r, r < 6 → Lx (5 + r) = qf σ n r := hLV.2.1.1.2
  have hIC : IC n σ Lx := hLV.2.1.2.1
  have hmm : ∀ j, j < n → okM σ j := hLV.2.2.2.2
  have hmt := hI.hmt
  have heC : (cw D ad cs σ Lx cap mk ev zl tx mt tn tc (mw ad cs σ w0)) 2 0 = .inl (cs 2, 1, .inr (.inl f9)) := (cw_lo (by decide) 0).trans ((mw_rest ad cs σ w0 (by decide) 0).trans he)
  refine g_aload_n F 1 dL_law_348 rfl rfl ?_
  refine la_arg F (jb := 0) (ji := 4) (j := 1) (v := 1) hX hbl hbA rfl rfl hL9 (by omega) (by decide) (by decide) dL_law_349 dL_law_350 dL_law_352 dL_law_353 dL_law_354 ?_
  refine la_arg F (jb := 0) (ji := 4) (j := 2) (v := 2) hX hbl hbA rfl rfl hL9 (by omega) (by decide) (by decide) dL_law_355 dL_law_356 dL_law_358 dL_law_359 dL_law_360 ?_
  refine la_arg F (jb := 0) (ji := 4) (j := 3) (v := 3) hX hbl hbA rfl rfl hL9 (by omega) (by decide) (by decide) dL_law_361 dL_law_362 dL_law_364 dL_law_365 dL_law_366 ?_
  refine g_aload_n F 3 dL_law_367 rfl rfl ?_
  refine q_callSW F (rest := []) [.ref (ad 10 0), .int (xs (i + 1)), .int (xs (i + 2)), .int (xs (i + 3)), .ref (ad 2 0)] (lh_setRate l D A cs ad d9 (cw D ad cs σ Lx cap mk ev zl tx mt tn tc (mw ad cs σ w0)) (xs (i + 1)) (xs (i + 2)) (xs (i + 3)) (cc_setRate l D A cs ad d9 σ Lx cap mk ev zl tx mt tn tc (mw ad cs σ w0) n tq hC (xs (i + 1)) (xs (i + 2)) (xs (i + 3)) hfl) hC.1 rfl (fun v ad1 dm1 w1 h => by obtain ⟨-, rfl, rfl, rfl, rfl⟩ := h; exact ⟨⟨_, rfl⟩, h2, rfl, (cw_lo (by decide) 0).trans ((mw_rest ad cs σ w0 (by decide) 0).trans he)⟩) (fun E h => h.elim (fun q => .inl q.1) (fun q => .inr q.1))) (vx_cwSW 5 F.1.2.2.2.2 gL_law_L_setRate rfl rfl rfl (by decide +kernel) ⟨Nat.le_of_ble_eq_true rfl, Nat.le_of_ble_eq_true rfl⟩) rfl rfl (Nat.le_of_ble_eq_true rfl) dL_law_368 ⟨Nat.le_trans (Nat.add_le_add_left (show 3 ≤ 100 by decide) cells) hc.1, Nat.le_trans (Nat.add_le_add_left (show 18 ≤ 4000 by decide) slots) hc.2⟩ (fun rz ad1 dm1 w1 hv => ?_)
  have hx : ∃ (τ : SG) (bb : Int32) (t1 : Nat), t1 ≤ t + 100 ∧ (∀ W : CF, MD dm1 → Met l yX6_setRate wsX6_setRate ({ frames := 2, cells := 0, slots := 0, locals := 42 }) (va_Pc [.ref (ad1 0 0), .int (xs (i + 1)), .int (xs (i + 2)), .int (xs (i + 3))] (PW D A (tysG cs) ad1 dm1 (mw ad1 cs σ W))) (va_Qi (fun r (_ : Unit) => r = bb) (fun _ t => PW D A (tysG cs) ad1 dm1 (mw ad1 cs τ W) t) A) 0 0 A) ∧ NX D cs (ad 10 0) (ad 0 0) (ad 2 0) t1 σ τ bb True rz ad1 dm1 w1 := by
    refine ⟨_, _, t, Nat.le_add_right _ _, fun W hM1 => (mc_setRate l D A cs ad1 dm1 W σ (xs (i + 1)) (xs (i + 2)) (xs (i + 3)) hM1), ?_⟩
    rcases hv with ⟨v, w2, hp, rfl, rfl⟩ | ⟨hp, rfl, rfl, rfl, rfl⟩ | ⟨hp, rfl, rfl, rfl, rfl⟩
    · obtain ⟨hP, hr, rfl, rfl, rfl⟩ := hp
      simp only [if_pos hP, if_pos hP.1, if_pos hP.2]
      exact NX.good hC hlo hM h2 (fun _ _ _ => rfl) (((hI.up 0).opt (.inr (.inr (.inl rfl))) _ _).opt (.inr (.inr (.inr rfl))) _ _) ((((AG.id σ).upl n32 0 0).up 7 _ _).up 8 _ _) (by rw [up2_k (by decide), up2_k (by decide), up2_self]) (Value.int.inj (Option.some.inj hr))
    · rcases hp with ⟨-, q⟩ | ⟨q, -⟩
      · have g : ¬ (accP (xs (i + 1)) ∧ (inR (xs (i + 2)) 0 40 ∧ inR (xs (i + 3)) 1 200)) := fun z => q z.1
        simp only [if_neg g, if_neg q]
        exact NX.thr hC hlo hM h2 hI he (by decide)
      · exact absurd q (by decide)
    · rcases hp with ⟨q, -⟩ | ⟨-, q1, q2⟩
      · exact absurd q (by decide)
      · have g : ¬ (accP (xs (i + 1)) ∧ (inR (xs (i + 2)) 0 40 ∧ inR (xs (i + 3)) 1 200)) := fun z => q2 z.2
        simp only [if_neg g, if_pos q1, if_neg q2]
        exact NX.thr hC hlo hM h2 hI he (by decide)
  obtain ⟨τ, bb, t1, ht1, hMet, n1, tq1, L1, c1, m1, e1, z1, x1, y1, k1, u1, w01, f91, hC1, hlo1, hM1, h21, ha1, hI1, he1, rfl, rfl, hcmp⟩ := hx
  refine g_widen (cells1 := cells + 100) (slots1 := slots + 4000) (Nat.add_le_add_left (by decide) _) (Nat.add_le_add_left (by decide) _) ?_
  refine g_st (st1 := [.int (τ 32 0)]) rfl ?_
  refine g_istore F (lv1 := [(5, .int (τ 32 0)), (0, .ref b), (1, .ref (ad 10 0)), (2, .ref (ad 0 0)), (3, .ref (ad 2 0)), (4, .int (nI i))]) dL_law_371 (by decide) rfl ?_
  refine g_aload_n F 3 dL_law_373 rfl rfl ?_
  refine la_arg F (jb := 1) (ji := 5) (j := 1) (v := 1) hX hbl hbA rfl rfl hL9 (by omega) (by decide) (by decide) dL_law_374 dL_law_375 dL_law_377 dL_law_378 dL_law_379 ?_
  refine la_arg F (jb := 1) (ji := 5) (j := 2) (v := 2) hX hbl hbA rfl rfl hL9 (by omega) (by decide) (by decide) dL_law_380 dL_law_381 dL_law_383 dL_law_384 dL_law_385 ?_
  refine la_arg F (jb := 1) (ji := 5) (j := 3) (v := 3) hX hbl hbA rfl rfl hL9 (by omega) (by decide) (by decide) dL_law_386 dL_law_387 dL_law_389 dL_law_390 dL_law_391 ?_
  refine g_st (st1 := [.int (xs (i + 3)), .int (xs (i + 2)), .int (xs (i + 1)), .ref (ad1 0 0)]) (by rw [ha1.2.1]) ?_
  refine g_callVi F (C := RX6) (k := 0) (i := 0) (ci := 6) (T := TX6) (N := 33) (rest := []) [.int (xs (i + 1)), .int (xs (i + 2)), .int (xs (i + 3))] (hMet _ hM1) (cwV 3 F.1.2.2.2.2 gL_law_X6_setRate rfl rfl rfl (by decide +kernel) ⟨Nat.le_of_ble_eq_true rfl, Nat.le_of_ble_eq_true rfl⟩) rfl hM1.1 rfl rfl rfl rfl (Nat.le_of_ble_eq_true rfl) dL_law_392 (show cells + 100 + 0 ≤ room_1.cells ∧ slots + 4000 + 0 ≤ room_1.slots from hc) ?_
  exact la_tail F (n := n1) (tq := tq1) (σ := σ) (t := t) hM1 h21 ha1 he1 hcmp hc dL_law_395 dL_law_397 dL_law_398 dL_law_401 dL_law_403 dL_law_408 dL_law_410 dL_law_413 dL_law_414 dL_law_415 dL_law_416 dL_law_418 dL_law_419 dL_law_420 dL_law_425 (by decide) (kk t1 τ ad1 dm1 _ ht1 ⟨n1, tq1, L1, c1, m1, e1, z1, x1, y1, k1, u1, w01, f91, hC1, hlo1, hM1, h21, ha1, hI1, he1, rfl⟩)
set_option maxHeartbeats 8000000 in
set_option maxRecDepth 100000 in
theorem op_setMode {p : Program} {l : Launch} {e : Env} {s : State} {m : MethodId} {args : Array Value} {below : List Frame} {meth : Method} {c : Code} {cells slots : Nat} {Q : State → Prop} {D : va_G} {A : Nat → Prop} {cs : Nat → ClassId} {ad : Nat → Nat → Nat} {dm : Nat → Nat → Prop} (F : FX p s m args c cL_law 9 wsL_law RL D A (tysG cs)) {b L i x0 xm xo t : Nat} {xs : Nat → Int32} {σ : SG} {w : CF} (hX : va_X b L xs s s.heap) (hbl : b < s.heap.size) (hbA : ¬ A b) (hL9 : L ≤ 2560) (hi : i + 4 < L) (hfl : l.stackTraces = false) (ht : t < 900000) (hLI : LI D cs x0 xm xo t σ ad dm w) (hc : cells + 100 ≤ 601024 ∧ slots + 4000 ≤ 7293034) (kk : ∀ (t1 : Nat) (τ : SG) (ad1 : Nat → Nat → Nat) (dm1 : Nat → Nat → Prop) (w1 : CF), t1 ≤ t + 100 → LI D cs x0 xm xo t1 τ ad1 dm1 w1 → GG p l e room_1 s m args below meth c D A ad1 dm1 9 (cells + 100) (slots + 4000) Q w1 1645 [(0, .ref b), (1, .ref x0), (2, .ref xm), (3, .ref xo), (4, .int (nI i))] []) : GG p l e room_1 s m args below meth c D A ad dm 9 cells slots Q w 993 [(0, .ref b), (1, .ref x0), (2, .ref xm), (3, .ref xo), (4, .int (nI i))] [] := by
  obtain ⟨n, tq, Lx, cap, mk, ev, zl, tx, mt, tn, tc, w0, f9, hC0, hlo, hM0, h20, ⟨rfl, rfl, rfl⟩, hI, he, rfl⟩ := hLI
  refine g_forget (dm1 := rs9 dm n tq) (ad1 := ad) (w1 := mw ad cs σ (cw D ad cs σ Lx cap mk ev zl tx mt tn tc w0)) (fun k i q => q.1) (fun _ _ _ => rfl) (fun _ _ _ => rfl) ?_
  have hC := rs9_CD hC0
  have hM := rs9_MD hM0 n tq
  have hub := rs9_UB dm n tq
  have h2 : rs9 dm n tq 2 0 := ⟨h20, .inl (by decide)⟩
  generalize rs9 dm n tq = d9 at hC hM hub h2 ⊢
  refine g_w (mw_cw D ad ad cs σ σ Lx cap mk ev zl tx mt tn tc w0 (fun _ => rfl)) ?_
  have hn40 := hI.1
  have hn := hI.2.1
  have hLV := hI.2.2.1
  have hL : Lx 0 = List.range n := hLV.2.1.1.1
  have hQ : ∀ r, r < 6 → Lx (5 + r) = qf σ n r := hLV.2.1.1.2
  have hIC : IC n σ Lx := hLV.2.1.2.1
  have hmm : ∀ j, j < n → okM σ j := hLV.2.2.2.2
  have hmt := hI.hmt
  have heC : (cw D ad cs σ Lx cap mk ev zl tx mt tn tc (mw ad cs σ w0)) 2 0 = .inl (cs 2, 1, .inr (.inl f9)) := (cw_lo (by decide) 0).trans ((mw_rest ad cs σ w0 (by decide) 0).trans he)
  refine g_aload_n F 1 dL_law_993 rfl rfl ?_
  refine la_arg F (jb := 0) (ji := 4) (j := 1) (v := 1) hX hbl hbA rfl rfl hL9 (by omega) (by decide) (by decide) dL_law_994 dL_law_995 dL_law_997 dL_law_998 dL_law_999 ?_
  refine la_arg F (jb := 0) (ji := 4) (j := 2) (v := 2) hX hbl hbA rfl rfl hL9 (by omega) (by decide) (by decide) dL_law_1000 dL_law_1001 dL_law_1003 dL_law_1004 dL_law_1005 ?_
  refine g_aload_n F 3 dL_law_1006 rfl rfl ?_
  refine q_callSW F (rest := []) [.ref (ad 10 0), .int (xs (i + 1)), .int (xs (i + 2)), .ref (ad 2 0)] (lh_setMode l D A cs ad d9 (cw D ad cs σ Lx cap mk ev zl tx mt tn tc (mw ad cs σ w0)) (xs (i + 1)) (xs (i + 2)) (cc_setMode l D A cs ad d9 σ Lx cap mk ev zl tx mt tn tc (mw ad cs σ w0) n tq hC (xs (i + 1)) (xs (i + 2)) hlo hfl) hC.1 rfl (fun v ad1 dm1 w1 h => by obtain ⟨-, rfl, rfl, rfl, rfl⟩ := h; exact ⟨⟨_, rfl⟩, h2, rfl, (cw_lo (by decide) 0).trans ((mw_rest ad cs σ w0 (by decide) 0).trans he)⟩) (fun E h => h.elim (fun q => .inl q.1) (fun q => .inr q.1))) (vx_cwSW 4 F.1.2.2.2.2 gL_law_L_setMode rfl rfl rfl (by decide +kernel) ⟨Nat.le_of_ble_eq_true rfl, Nat.le_of_ble_eq_true rfl⟩) rfl rfl (Nat.le_of_ble_eq_true rfl) dL_law_1007 ⟨Nat.le_trans (Nat.add_le_add_left (show 2 ≤ 100 by decide) cells) hc.1, Nat.le_trans (Nat.add_le_add_left (show 12 ≤ 4000 by decide) slots) hc.2⟩ (fun rz ad1 dm1 w1 hv => ?_)
  have hx : ∃ (τ : SG) (bb : Int32) (t1 : Nat), t1 ≤ t + 100 ∧ (∀ W : CF, MD dm1 → Met l yX6_setMode wsX6_setMode ({ frames := 2, cells := 0, slots := 0, locals := 45 }) (va_Pc [.ref (ad1 0 0), .int (xs (i + 1)), .int (xs (i + 2))] (PW D A (tysG cs) ad1 dm1 (mw ad1 cs σ W))) (va_Qi (fun r (_ : Unit) => r = bb) (fun _ t => PW D A (tysG cs) ad1 dm1 (mw ad1 cs τ W) t) A) 0 0 A) ∧ NX D cs (ad 10 0) (ad 0 0) (ad 2 0) t1 σ τ bb True rz ad1 dm1 w1 := by
    refine ⟨_, _, t, Nat.le_add_right _ _, fun W hM1 => (mc_setMode l D A cs ad1 dm1 W σ (xs (i + 1)) (xs (i + 2)) n hM1 hn hn40), ?_⟩
    rcases hv with ⟨v, w2, hp, rfl, rfl⟩ | ⟨hp, rfl, rfl, rfl, rfl⟩ | ⟨hp, rfl, rfl, rfl, rfl⟩
    · obtain ⟨hP, hr, rfl, rfl, rfl⟩ := hp
      obtain ⟨i1, i2, i3⟩ := sm_mode hI hP.1 hP.2
      simp only [if_pos hP, if_pos hP.1, if_pos hP.2]
      exact NX.good hC hlo hM h2 (fun _ _ _ => rfl) i1 i2 i3 (Value.int.inj (Option.some.inj hr))
    · rcases hp with ⟨-, q⟩ | ⟨q, -⟩
      · have g : ¬ (recP (xs (i + 1)) ∧ inR (xs (i + 2)) 0 3) := fun z => q z.1
        simp only [if_neg g, if_neg q]
        exact NX.thr hC hlo hM h2 hI he (by decide)
      · exact absurd q (by decide)
    · rcases hp with ⟨q, -⟩ | ⟨-, q1, q2⟩
      · exact absurd q (by decide)
      · have g : ¬ (recP (xs (i + 1)) ∧ inR (xs (i + 2)) 0 3) := fun z => q2 z.2
        simp only [if_neg g, if_pos q1, if_neg q2]
        exact NX.thr hC hlo hM h2 hI he (by decide)
  obtain ⟨τ, bb, t1, ht1, hMet, n1, tq1, L1, c1, m1, e1, z1, x1, y1, k1, u1, w01, f91, hC1, hlo1, hM1, h21, ha1, hI1, he1, rfl, rfl, hcmp⟩ := hx
  refine g_widen (cells1 := cells + 100) (slots1 := slots + 4000) (Nat.add_le_add_left (by decide) _) (Nat.add_le_add_left (by decide) _) ?_
  refine g_st (st1 := [.int (τ 32 0)]) rfl ?_
  refine g_istore F (lv1 := [(5, .int (τ 32 0)), (0, .ref b), (1, .ref (ad 10 0)), (2, .ref (ad 0 0)), (3, .ref (ad 2 0)), (4, .int (nI i))]) dL_law_1010 (by decide) rfl ?_
  refine g_aload_n F 3 dL_law_1012 rfl rfl ?_
  refine la_arg F (jb := 1) (ji := 5) (j := 1) (v := 1) hX hbl hbA rfl rfl hL9 (by omega) (by decide) (by decide) dL_law_1013 dL_law_1014 dL_law_1016 dL_law_1017 dL_law_1018 ?_
  refine la_arg F (jb := 1) (ji := 5) (j := 2) (v := 2) hX hbl hbA rfl rfl hL9 (by omega) (by decide) (by decide) dL_law_1019 dL_law_1020 dL_law_1022 dL_law_1023 dL_law_1024 ?_
  refine g_st (st1 := [.int (xs (i + 2)), .int (xs (i + 1)), .ref (ad1 0 0)]) (by rw [ha1.2.1]) ?_
  refine g_callVi F (C := RX6) (k := 0) (i := 0) (ci := 6) (T := TX6) (N := 33) (rest := []) [.int (xs (i + 1)), .int (xs (i + 2))] (hMet _ hM1) (cwV 2 F.1.2.2.2.2 gL_law_X6_setMode rfl rfl rfl (by decide +kernel) ⟨Nat.le_of_ble_eq_true rfl, Nat.le_of_ble_eq_true rfl⟩) rfl hM1.1 rfl rfl rfl rfl (Nat.le_of_ble_eq_true rfl) dL_law_1025 (show cells + 100 + 0 ≤ room_1.cells ∧ slots + 4000 + 0 ≤ room_1.slots from hc) ?_
  exact la_tail F (n := n1) (tq := tq1) (σ := σ) (t := t) hM1 h21 ha1 he1 hcmp hc dL_law_1028 dL_law_1030 dL_law_1031 dL_law_1034 dL_law_1036 dL_law_1041 dL_law_1043 dL_law_1046 dL_law_1047 dL_law_1048 dL_law_1049 dL_law_1051 dL_law_1052 dL_law_1053 dL_law_1058 (by decide) (kk t1 τ ad1 dm1 _ ht1 ⟨n1, tq1, L1, c1, m1, e1, z1, x1, y1, k1, u1, w01, f91, hC1, hlo1, hM1, h21, ha1, hI1, he1, rfl⟩)
set_option maxHeartbeats 8000000 in
set_option maxRecDepth 100000 in
theorem op_setRoom {p : Program} {l : Launch} {e : Env} {s : State} {m : MethodId} {args : Array Value} {below : List Frame} {meth : Method} {c : Code} {cells slots : Nat} {Q : State → Prop} {D : va_G} {A : Nat → Prop} {cs : Nat → ClassId} {ad : Nat → Nat → Nat} {dm : Nat → Nat → Prop} (F : FX p s m args c cL_law 9 wsL_law RL D A (tysG cs)) {b L i x0 xm xo t : Nat} {xs : Nat → Int32} {σ : SG} {w : CF} (hX : va_X b L xs s s.heap) (hbl : b < s.heap.size) (hbA : ¬ A b) (hL9 : L ≤ 2560) (hi : i + 4 < L) (hfl : l.stackTraces = false) (ht : t < 900000) (hLI : LI D cs x0 xm xo t σ ad dm w) (hc : cells + 100 ≤ 601024 ∧ slots + 4000 ≤ 7293034) (kk : ∀ (t1 : Nat) (τ : SG) (ad1 : Nat → Nat → Nat) (dm1 : Nat → Nat → Prop) (w1 : CF), t1 ≤ t + 100 → LI D cs x0 xm xo t1 τ ad1 dm1 w1 → GG p l e room_1 s m args below meth c D A ad1 dm1 9 (cells + 100) (slots + 4000) Q w1 1645 [(0, .ref b), (1, .ref x0), (2, .ref xm), (3, .ref xo), (4, .int (nI i))] []) : GG p l e room_1 s m args below meth c D A ad dm 9 cells slots Q w 1061 [(0, .ref b), (1, .ref x0), (2, .ref xm), (3, .ref xo), (4, .int (nI i))] [] := by
  obtain ⟨n, tq, Lx, cap, mk, ev, zl, tx, mt, tn, tc, w0, f9, hC0, hlo, hM0, h20, ⟨rfl, rfl, rfl⟩, hI, he, rfl⟩ := hLI
  refine g_forget (dm1 := rs9 dm n tq) (ad1 := ad) (w1 := mw ad cs σ (cw D ad cs σ Lx cap mk ev zl tx mt tn tc w0)) (fun k i q => q.1) (fun _ _ _ => rfl) (fun _ _ _ => rfl) ?_
  have hC := rs9_CD hC0
  have hM := rs9_MD hM0 n tq
  have hub := rs9_UB dm n tq
  have h2 : rs9 dm n tq 2 0 := ⟨h20, .inl (by decide)⟩
  generalize rs9 dm n tq = d9 at hC hM hub h2 ⊢
  refine g_w (mw_cw D ad ad cs σ σ Lx cap mk ev zl tx mt tn tc w0 (fun _ => rfl)) ?_
  have hn40 := hI.1
  have hn := hI.2.1
  have hLV := hI.2.2.1
  have hL : Lx 0 = List.range n := hLV.2.1.1.1
  have hQ : ∀ r, r < 6 → Lx (5 + r) = qf σ n r := hLV.2.1.1.2
  have hIC : IC n σ Lx := hLV.2.1.2.1
  have hmm : ∀ j, j < n → okM σ j := hLV.2.2.2.2
  have hmt := hI.hmt
  have heC : (cw D ad cs σ Lx cap mk ev zl tx mt tn tc (mw ad cs σ w0)) 2 0 = .inl (cs 2, 1, .inr (.inl f9)) := (cw_lo (by decide) 0).trans ((mw_rest ad cs σ w0 (by decide) 0).trans he)
  refine g_aload_n F 1 dL_law_1061 rfl rfl ?_
  refine la_arg F (jb := 0) (ji := 4) (j := 1) (v := 1) hX hbl hbA rfl rfl hL9 (by omega) (by decide) (by decide) dL_law_1062 dL_law_1063 dL_law_1065 dL_law_1066 dL_law_1067 ?_
  refine la_arg F (jb := 0) (ji := 4) (j := 2) (v := 2) hX hbl hbA rfl rfl hL9 (by omega) (by decide) (by decide) dL_law_1068 dL_law_1069 dL_law_1071 dL_law_1072 dL_law_1073 ?_
  refine g_aload_n F 3 dL_law_1074 rfl rfl ?_
  refine q_callSW F (rest := []) [.ref (ad 10 0), .int (xs (i + 1)), .int (xs (i + 2)), .ref (ad 2 0)] (lh_setRoom l D A cs ad d9 (cw D ad cs σ Lx cap mk ev zl tx mt tn tc (mw ad cs σ w0)) (xs (i + 1)) (xs (i + 2)) (cc_setRoom l D A cs ad d9 σ Lx cap mk ev zl tx mt tn tc (mw ad cs σ w0) n tq hC (xs (i + 1)) (xs (i + 2)) hlo hfl) hC.1 rfl (fun v ad1 dm1 w1 h => by obtain ⟨-, rfl, rfl, rfl, rfl⟩ := h; exact ⟨⟨_, rfl⟩, h2, rfl, (cw_lo (by decide) 0).trans ((mw_rest ad cs σ w0 (by decide) 0).trans he)⟩) (fun E h => h.elim (fun q => .inl q.1) (fun q => .inr q.1))) (vx_cwSW 4 F.1.2.2.2.2 gL_law_L_setRoom rfl rfl rfl (by decide +kernel) ⟨Nat.le_of_ble_eq_true rfl, Nat.le_of_ble_eq_true rfl⟩) rfl rfl (Nat.le_of_ble_eq_true rfl) dL_law_1075 ⟨Nat.le_trans (Nat.add_le_add_left (show 2 ≤ 100 by decide) cells) hc.1, Nat.le_trans (Nat.add_le_add_left (show 12 ≤ 4000 by decide) slots) hc.2⟩ (fun rz ad1 dm1 w1 hv => ?_)
  have hx : ∃ (τ : SG) (bb : Int32) (t1 : Nat), t1 ≤ t + 100 ∧ (∀ W : CF, MD dm1 → Met l yX6_setRoom wsX6_setRoom ({ frames := 3, cells := 0, slots := 0, locals := 66 }) (va_Pc [.ref (ad1 0 0), .int (xs (i + 1)), .int (xs (i + 2))] (PW D A (tysG cs) ad1 dm1 (mw ad1 cs σ W))) (va_Qi (fun r (_ : Unit) => r = bb) (fun _ t => PW D A (tysG cs) ad1 dm1 (mw ad1 cs τ W) t) A) 0 0 A) ∧ NX D cs (ad 10 0) (ad 0 0) (ad 2 0) t1 σ τ bb True rz ad1 dm1 w1 := by
    refine ⟨_, _, t, Nat.le_add_right _ _, fun W hM1 => (mc_setRoom l D A cs ad1 dm1 W σ (xs (i + 1)) (xs (i + 2)) n hM1 hn hn40), ?_⟩
    rcases hv with ⟨v, w2, hp, rfl, rfl⟩ | ⟨hp, rfl, rfl, rfl, rfl⟩ | ⟨hp, rfl, rfl, rfl, rfl⟩
    · obtain ⟨hP, hr, rfl, rfl, rfl⟩ := hp
      obtain ⟨b1, b2⟩ := ix_in (n := 50) rfl hP.2
      obtain ⟨i1, i2, i3⟩ := sm_look hI (.inl rfl) hP.1 ⟨ix (xs (i + 2)), by omega, b1⟩
      simp only [if_pos hP, if_pos hP.1, if_pos hP.2]
      exact NX.good hC hlo hM h2 (fun _ _ _ => rfl) i1 i2 i3 (Value.int.inj (Option.some.inj hr))
    · rcases hp with ⟨-, q⟩ | ⟨q, -⟩
      · have g : ¬ (recP (xs (i + 1)) ∧ inR (xs (i + 2)) 0 50) := fun z => q z.1
        simp only [if_neg g, if_neg q]
        exact NX.thr hC hlo hM h2 hI he (by decide)
      · exact absurd q (by decide)
    · rcases hp with ⟨q, -⟩ | ⟨-, q1, q2⟩
      · exact absurd q (by decide)
      · have g : ¬ (recP (xs (i + 1)) ∧ inR (xs (i + 2)) 0 50) := fun z => q2 z.2
        simp only [if_neg g, if_pos q1, if_neg q2]
        exact NX.thr hC hlo hM h2 hI he (by decide)
  obtain ⟨τ, bb, t1, ht1, hMet, n1, tq1, L1, c1, m1, e1, z1, x1, y1, k1, u1, w01, f91, hC1, hlo1, hM1, h21, ha1, hI1, he1, rfl, rfl, hcmp⟩ := hx
  refine g_widen (cells1 := cells + 100) (slots1 := slots + 4000) (Nat.add_le_add_left (by decide) _) (Nat.add_le_add_left (by decide) _) ?_
  refine g_st (st1 := [.int (τ 32 0)]) rfl ?_
  refine g_istore F (lv1 := [(5, .int (τ 32 0)), (0, .ref b), (1, .ref (ad 10 0)), (2, .ref (ad 0 0)), (3, .ref (ad 2 0)), (4, .int (nI i))]) dL_law_1078 (by decide) rfl ?_
  refine g_aload_n F 3 dL_law_1080 rfl rfl ?_
  refine la_arg F (jb := 1) (ji := 5) (j := 1) (v := 1) hX hbl hbA rfl rfl hL9 (by omega) (by decide) (by decide) dL_law_1081 dL_law_1082 dL_law_1084 dL_law_1085 dL_law_1086 ?_
  refine la_arg F (jb := 1) (ji := 5) (j := 2) (v := 2) hX hbl hbA rfl rfl hL9 (by omega) (by decide) (by decide) dL_law_1087 dL_law_1088 dL_law_1090 dL_law_1091 dL_law_1092 ?_
  refine g_st (st1 := [.int (xs (i + 2)), .int (xs (i + 1)), .ref (ad1 0 0)]) (by rw [ha1.2.1]) ?_
  refine g_callVi F (C := RX6) (k := 0) (i := 0) (ci := 6) (T := TX6) (N := 33) (rest := []) [.int (xs (i + 1)), .int (xs (i + 2))] (hMet _ hM1) (cwV 2 F.1.2.2.2.2 gL_law_X6_setRoom rfl rfl rfl (by decide +kernel) ⟨Nat.le_of_ble_eq_true rfl, Nat.le_of_ble_eq_true rfl⟩) rfl hM1.1 rfl rfl rfl rfl (Nat.le_of_ble_eq_true rfl) dL_law_1093 (show cells + 100 + 0 ≤ room_1.cells ∧ slots + 4000 + 0 ≤ room_1.slots from hc) ?_
  exact la_tail F (n := n1) (tq := tq1) (σ := σ) (t := t) hM1 h21 ha1 he1 hcmp hc dL_law_1096 dL_law_1098 dL_law_1099 dL_law_1102 dL_law_1104 dL_law_1109 dL_law_1111 dL_law_1114 dL_law_1115 dL_law_1116 dL_law_1117 dL_law_1119 dL_law_1120 dL_law_1121 dL_law_1126 (by decide) (kk t1 τ ad1 dm1 _ ht1 ⟨n1, tq1, L1, c1, m1, e1, z1, x1, y1, k1, u1, w01, f91, hC1, hlo1, hM1, h21, ha1, hI1, he1, rfl⟩)
set_option maxHeartbeats 8000000 in
set_option maxRecDepth 100000 in
theorem op_read {p : Program} {l : Launch} {e : Env} {s : State} {m : MethodId} {args : Array Value} {below : List Frame} {meth : Method} {c : Code} {cells slots : Nat} {Q : State → Prop} {D : va_G} {A : Nat → Prop} {cs : Nat → ClassId} {ad : Nat → Nat → Nat} {dm : Nat → Nat → Prop} (F : FX p s m args c cL_law 9 wsL_law RL D A (tysG cs)) {b L i x0 xm xo t : Nat} {xs : Nat → Int32} {σ : SG} {w : CF} (hX : va_X b L xs s s.heap) (hbl : b < s.heap.size) (hbA : ¬ A b) (hL9 : L ≤ 2560) (hi : i + 4 < L) (hfl : l.stackTraces = false) (ht : t < 900000) (hLI : LI D cs x0 xm xo t σ ad dm w) (hc : cells + 100 ≤ 601024 ∧ slots + 4000 ≤ 7293034) (kk : ∀ (t1 : Nat) (τ : SG) (ad1 : Nat → Nat → Nat) (dm1 : Nat → Nat → Prop) (w1 : CF), t1 ≤ t + 100 → LI D cs x0 xm xo t1 τ ad1 dm1 w1 → GG p l e room_1 s m args below meth c D A ad1 dm1 9 (cells + 100) (slots + 4000) Q w1 1645 [(0, .ref b), (1, .ref x0), (2, .ref xm), (3, .ref xo), (4, .int (nI i))] []) : GG p l e room_1 s m args below meth c D A ad dm 9 cells slots Q w 1129 [(0, .ref b), (1, .ref x0), (2, .ref xm), (3, .ref xo), (4, .int (nI i))] [] := by
  obtain ⟨n, tq, Lx, cap, mk, ev, zl, tx, mt, tn, tc, w0, f9, hC0, hlo, hM0, h20, ⟨rfl, rfl, rfl⟩, hI, he, rfl⟩ := hLI
  refine g_forget (dm1 := rs9 dm n tq) (ad1 := ad) (w1 := mw ad cs σ (cw D ad cs σ Lx cap mk ev zl tx mt tn tc w0)) (fun k i q => q.1) (fun _ _ _ => rfl) (fun _ _ _ => rfl) ?_
  have hC := rs9_CD hC0
  have hM := rs9_MD hM0 n tq
  have hub := rs9_UB dm n tq
  have h2 : rs9 dm n tq 2 0 := ⟨h20, .inl (by decide)⟩
  generalize rs9 dm n tq = d9 at hC hM hub h2 ⊢
  refine g_w (mw_cw D ad ad cs σ σ Lx cap mk ev zl tx mt tn tc w0 (fun _ => rfl)) ?_
  have hn40 := hI.1
  have hn := hI.2.1
  have hLV := hI.2.2.1
  have hL : Lx 0 = List.range n := hLV.2.1.1.1
  have hQ : ∀ r, r < 6 → Lx (5 + r) = qf σ n r := hLV.2.1.1.2
  have hIC : IC n σ Lx := hLV.2.1.2.1
  have hmm : ∀ j, j < n → okM σ j := hLV.2.2.2.2
  have hmt := hI.hmt
  have heC : (cw D ad cs σ Lx cap mk ev zl tx mt tn tc (mw ad cs σ w0)) 2 0 = .inl (cs 2, 1, .inr (.inl f9)) := (cw_lo (by decide) 0).trans ((mw_rest ad cs σ w0 (by decide) 0).trans he)
  refine g_aload_n F 1 dL_law_1129 rfl rfl ?_
  refine la_arg F (jb := 0) (ji := 4) (j := 1) (v := 1) hX hbl hbA rfl rfl hL9 (by omega) (by decide) (by decide) dL_law_1130 dL_law_1131 dL_law_1133 dL_law_1134 dL_law_1135 ?_
  refine la_arg F (jb := 0) (ji := 4) (j := 2) (v := 2) hX hbl hbA rfl rfl hL9 (by omega) (by decide) (by decide) dL_law_1136 dL_law_1137 dL_law_1139 dL_law_1140 dL_law_1141 ?_
  refine g_aload_n F 3 dL_law_1142 rfl rfl ?_
  refine q_callSW F (rest := []) [.ref (ad 10 0), .int (xs (i + 1)), .int (xs (i + 2)), .ref (ad 2 0)] (lh_read l D A cs ad d9 (cw D ad cs σ Lx cap mk ev zl tx mt tn tc (mw ad cs σ w0)) (xs (i + 1)) (xs (i + 2)) (cc_read l D A cs ad d9 σ Lx cap mk ev zl tx mt tn tc (mw ad cs σ w0) n tq hC (xs (i + 1)) (xs (i + 2)) hlo hfl) hC.1 rfl (fun v ad1 dm1 w1 h => by obtain ⟨-, rfl, rfl, rfl, rfl⟩ := h; exact ⟨⟨_, rfl⟩, h2, rfl, (cw_lo (by decide) 0).trans ((mw_rest ad cs σ w0 (by decide) 0).trans he)⟩) (fun E h => h.elim (fun q => .inl q.1) (fun q => .inr q.1))) (vx_cwSW 4 F.1.2.2.2.2 gL_law_L_read rfl rfl rfl (by decide +kernel) ⟨Nat.le_of_ble_eq_true rfl, Nat.le_of_ble_eq_true rfl⟩) rfl rfl (Nat.le_of_ble_eq_true rfl) dL_law_1143 ⟨Nat.le_trans (Nat.add_le_add_left (show 2 ≤ 100 by decide) cells) hc.1, Nat.le_trans (Nat.add_le_add_left (show 12 ≤ 4000 by decide) slots) hc.2⟩ (fun rz ad1 dm1 w1 hv => ?_)
  have hx : ∃ (τ : SG) (bb : Int32) (t1 : Nat), t1 ≤ t + 100 ∧ (∀ W : CF, MD dm1 → Met l yX6_read wsX6_read ({ frames := 3, cells := 0, slots := 0, locals := 66 }) (va_Pc [.ref (ad1 0 0), .int (xs (i + 1)), .int (xs (i + 2))] (PW D A (tysG cs) ad1 dm1 (mw ad1 cs σ W))) (va_Qi (fun r (_ : Unit) => r = bb) (fun _ t => PW D A (tysG cs) ad1 dm1 (mw ad1 cs τ W) t) A) 0 0 A) ∧ NX D cs (ad 10 0) (ad 0 0) (ad 2 0) t1 σ τ bb True rz ad1 dm1 w1 := by
    refine ⟨_, _, t, Nat.le_add_right _ _, fun W hM1 => (mc_read l D A cs ad1 dm1 W σ (xs (i + 1)) (xs (i + 2)) n hM1 hn hn40), ?_⟩
    rcases hv with ⟨v, w2, hp, rfl, rfl⟩ | ⟨hp, rfl, rfl, rfl, rfl⟩ | ⟨hp, rfl, rfl, rfl, rfl⟩
    · obtain ⟨hP, hr, rfl, rfl, rfl⟩ := hp
      obtain ⟨r1, r2⟩ := sm_read hI (ix_rec hP.1).2 hP.2
      obtain ⟨i1, i2, i3⟩ := sm_look hI (.inr rfl) hP.1 r2
      simp only [if_pos hP, if_pos hP.1, if_pos hP.2]
      rw [← r1]
      exact NX.good hC hlo hM h2 (fun _ _ _ => rfl) i1 i2 i3 ((Value.int.inj (Option.some.inj hr)).trans ((up2_self _ _ _ _).trans (r1.symm.trans (by rw [lkS_o (by decide) (by decide), up2_self]))))
    · rcases hp with ⟨-, q⟩ | ⟨q, -⟩
      · have g : ¬ (recP (xs (i + 1)) ∧ inR (xs (i + 2)) 1 50) := fun z => q z.1
        simp only [if_neg g, if_neg q]
        exact NX.thr hC hlo hM h2 hI he (by decide)
      · exact absurd q (by decide)
    · rcases hp with ⟨q, -⟩ | ⟨-, q1, q2⟩
      · exact absurd q (by decide)
      · have g : ¬ (recP (xs (i + 1)) ∧ inR (xs (i + 2)) 1 50) := fun z => q2 z.2
        simp only [if_neg g, if_pos q1, if_neg q2]
        exact NX.thr hC hlo hM h2 hI he (by decide)
  obtain ⟨τ, bb, t1, ht1, hMet, n1, tq1, L1, c1, m1, e1, z1, x1, y1, k1, u1, w01, f91, hC1, hlo1, hM1, h21, ha1, hI1, he1, rfl, rfl, hcmp⟩ := hx
  refine g_widen (cells1 := cells + 100) (slots1 := slots + 4000) (Nat.add_le_add_left (by decide) _) (Nat.add_le_add_left (by decide) _) ?_
  refine g_st (st1 := [.int (τ 32 0)]) rfl ?_
  refine g_istore F (lv1 := [(5, .int (τ 32 0)), (0, .ref b), (1, .ref (ad 10 0)), (2, .ref (ad 0 0)), (3, .ref (ad 2 0)), (4, .int (nI i))]) dL_law_1146 (by decide) rfl ?_
  refine g_aload_n F 3 dL_law_1148 rfl rfl ?_
  refine la_arg F (jb := 1) (ji := 5) (j := 1) (v := 1) hX hbl hbA rfl rfl hL9 (by omega) (by decide) (by decide) dL_law_1149 dL_law_1150 dL_law_1152 dL_law_1153 dL_law_1154 ?_
  refine la_arg F (jb := 1) (ji := 5) (j := 2) (v := 2) hX hbl hbA rfl rfl hL9 (by omega) (by decide) (by decide) dL_law_1155 dL_law_1156 dL_law_1158 dL_law_1159 dL_law_1160 ?_
  refine g_st (st1 := [.int (xs (i + 2)), .int (xs (i + 1)), .ref (ad1 0 0)]) (by rw [ha1.2.1]) ?_
  refine g_callVi F (C := RX6) (k := 0) (i := 0) (ci := 6) (T := TX6) (N := 33) (rest := []) [.int (xs (i + 1)), .int (xs (i + 2))] (hMet _ hM1) (cwV 2 F.1.2.2.2.2 gL_law_X6_read rfl rfl rfl (by decide +kernel) ⟨Nat.le_of_ble_eq_true rfl, Nat.le_of_ble_eq_true rfl⟩) rfl hM1.1 rfl rfl rfl rfl (Nat.le_of_ble_eq_true rfl) dL_law_1161 (show cells + 100 + 0 ≤ room_1.cells ∧ slots + 4000 + 0 ≤ room_1.slots from hc) ?_
  exact la_tail F (n := n1) (tq := tq1) (σ := σ) (t := t) hM1 h21 ha1 he1 hcmp hc dL_law_1164 dL_law_1166 dL_law_1167 dL_law_1170 dL_law_1172 dL_law_1177 dL_law_1179 dL_law_1182 dL_law_1183 dL_law_1184 dL_law_1185 dL_law_1187 dL_law_1188 dL_law_1189 dL_law_1194 (by decide) (kk t1 τ ad1 dm1 _ ht1 ⟨n1, tq1, L1, c1, m1, e1, z1, x1, y1, k1, u1, w01, f91, hC1, hlo1, hM1, h21, ha1, hI1, he1, rfl⟩)
set_option maxHeartbeats 8000000 in
set_option maxRecDepth 100000 in
theorem op_draft {p : Program} {l : Launch} {e : Env} {s : State} {m : MethodId} {args : Array Value} {below : List Frame} {meth : Method} {c : Code} {cells slots : Nat} {Q : State → Prop} {D : va_G} {A : Nat → Prop} {cs : Nat → ClassId} {ad : Nat → Nat → Nat} {dm : Nat → Nat → Prop} (F : FX p s m args c cL_law 9 wsL_law RL D A (tysG cs)) {b L i x0 xm xo t : Nat} {xs : Nat → Int32} {σ : SG} {w : CF} (hX : va_X b L xs s s.heap) (hbl : b < s.heap.size) (hbA : ¬ A b) (hL9 : L ≤ 2560) (hi : i + 4 < L) (hfl : l.stackTraces = false) (ht : t < 900000) (hLI : LI D cs x0 xm xo t σ ad dm w) (hc : cells + 100 ≤ 601024 ∧ slots + 4000 ≤ 7293034) (kk : ∀ (t1 : Nat) (τ : SG) (ad1 : Nat → Nat → Nat) (dm1 : Nat → Nat → Prop) (w1 : CF), t1 ≤ t + 100 → LI D cs x0 xm xo t1 τ ad1 dm1 w1 → GG p l e room_1 s m args below meth c D A ad1 dm1 9 (cells + 100) (slots + 4000) Q w1 1645 [(0, .ref b), (1, .ref x0), (2, .ref xm), (3, .ref xo), (4, .int (nI i))] []) : GG p l e room_1 s m args below meth c D A ad dm 9 cells slots Q w 152 [(0, .ref b), (1, .ref x0), (2, .ref xm), (3, .ref xo), (4, .int (nI i))] [] := by
  obtain ⟨n, tq, Lx, cap, mk, ev, zl, tx, mt, tn, tc, w0, f9, hC0, hlo, hM0, h20, ⟨rfl, rfl, rfl⟩, hI, he, rfl⟩ := hLI
  refine g_forget (dm1 := rs9 dm n tq) (ad1 := ad) (w1 := mw ad cs σ (cw D ad cs σ Lx cap mk ev zl tx mt tn tc w0)) (fun k i q => q.1) (fun _ _ _ => rfl) (fun _ _ _ => rfl) ?_
  have hC := rs9_CD hC0
  have hM := rs9_MD hM0 n tq
  have hub := rs9_UB dm n tq
  have h2 : rs9 dm n tq 2 0 := ⟨h20, .inl (by decide)⟩
  generalize rs9 dm n tq = d9 at hC hM hub h2 ⊢
  refine g_w (mw_cw D ad ad cs σ σ Lx cap mk ev zl tx mt tn tc w0 (fun _ => rfl)) ?_
  have hn40 := hI.1
  have hn := hI.2.1
  have hLV := hI.2.2.1
  have hL : Lx 0 = List.range n := hLV.2.1.1.1
  have hQ : ∀ r, r < 6 → Lx (5 + r) = qf σ n r := hLV.2.1.1.2
  have hIC : IC n σ Lx := hLV.2.1.2.1
  have hmm : ∀ j, j < n → okM σ j := hLV.2.2.2.2
  have hmt := hI.hmt
  have heC : (cw D ad cs σ Lx cap mk ev zl tx mt tn tc (mw ad cs σ w0)) 2 0 = .inl (cs 2, 1, .inr (.inl f9)) := (cw_lo (by decide) 0).trans ((mw_rest ad cs σ w0 (by decide) 0).trans he)
  refine g_aload_n F 1 dL_law_152 rfl rfl ?_
  refine la_arg F (jb := 0) (ji := 4) (j := 1) (v := 1) hX hbl hbA rfl rfl hL9 (by omega) (by decide) (by decide) dL_law_153 dL_law_154 dL_law_156 dL_law_157 dL_law_158 ?_
  refine la_arg F (jb := 0) (ji := 4) (j := 2) (v := 2) hX hbl hbA rfl rfl hL9 (by omega) (by decide) (by decide) dL_law_159 dL_law_160 dL_law_162 dL_law_163 dL_law_164 ?_
  refine la_arg F (jb := 0) (ji := 4) (j := 3) (v := 3) hX hbl hbA rfl rfl hL9 (by omega) (by decide) (by decide) dL_law_165 dL_law_166 dL_law_168 dL_law_169 dL_law_170 ?_
  refine la_arg F (jb := 0) (ji := 4) (j := 4) (v := 4) hX hbl hbA rfl rfl hL9 (by omega) (by decide) (by decide) dL_law_171 dL_law_172 dL_law_174 dL_law_175 dL_law_176 ?_
  refine la_bool F dL_law_177 dL_law_180 dL_law_181 dL_law_184 ?_
  refine g_aload_n F 3 dL_law_185 rfl rfl ?_
  refine q_callSW F (rest := []) [.ref (ad 10 0), .int (xs (i + 1)), .int (xs (i + 2)), .int (xs (i + 3)), .int (bi (¬ xs (i + 4) = 0)), .ref (ad 2 0)] (lh_draft l D A cs ad d9 (cw D ad cs σ Lx cap mk ev zl tx mt tn tc (mw ad cs σ w0)) (xs (i + 1)) (xs (i + 2)) (xs (i + 3)) (bi (¬ xs (i + 4) = 0)) (cc_draft l D A cs ad d9 σ Lx cap mk ev zl tx mt tn tc (mw ad cs σ w0) n tq hC (xs (i + 1)) (xs (i + 2)) (xs (i + 3)) (¬ xs (i + 4) = 0) hub (fun i hi => (hI.2.2.2.1 i hi).2.1) (fun j hj => (hmt j hj).1) hfl) hC.1 rfl (fun v ad1 dm1 w1 h => by obtain ⟨-, rfl, q, rfl, rfl, rfl⟩ := h; exact ⟨⟨_, rfl⟩, .inl h2, up2_k (by decide) 0, (cw_lo (by decide) 0).trans ((mw_rest ad cs σ w0 (by decide) 0).trans he)⟩) (fun E h => h.elim (fun q => .inl q.1) (fun q => .inr q.1))) (vx_cwSW 6 F.1.2.2.2.2 gL_law_L_draft rfl rfl rfl (by decide +kernel) ⟨Nat.le_of_ble_eq_true rfl, Nat.le_of_ble_eq_true rfl⟩) rfl rfl (Nat.le_of_ble_eq_true rfl) dL_law_186 ⟨Nat.le_trans (Nat.add_le_add_left (show 5 ≤ 100 by decide) cells) hc.1, Nat.le_trans (Nat.add_le_add_left (show 34 ≤ 4000 by decide) slots) hc.2⟩ (fun rz ad1 dm1 w1 hv => ?_)
  have hx : ∃ (τ : SG) (bb : Int32) (t1 : Nat), t1 ≤ t + 100 ∧ (∀ W : CF, MD dm1 → Met l yX6_draft wsX6_draft ({ frames := 2, cells := 0, slots := 0, locals := 53 }) (va_Pc [.ref (ad1 0 0), .int (xs (i + 1)), .int (xs (i + 2)), .int (xs (i + 3)), .int (bi (¬ xs (i + 4) = 0))] (PW D A (tysG cs) ad1 dm1 (mw ad1 cs σ W))) (va_Qi (fun r (_ : Unit) => r = bb) (fun _ t => PW D A (tysG cs) ad1 dm1 (mw ad1 cs τ W) t) A) 0 0 A) ∧ NX D cs (ad 10 0) (ad 0 0) (ad 2 0) t1 σ τ bb True rz ad1 dm1 w1 := by
    refine ⟨_, _, t, Nat.le_add_right _ _, fun W hM1 => (mc_draft l D A cs ad1 dm1 W σ (xs (i + 1)) (xs (i + 2)) (xs (i + 3)) (¬ xs (i + 4) = 0) hM1), ?_⟩
    rcases hv with ⟨v, w2, hp, rfl, rfl⟩ | ⟨hp, rfl, rfl, rfl, rfl⟩ | ⟨hp, rfl, rfl, rfl, rfl⟩
    · obtain ⟨hP, hr, q9, rfl, rfl, rfl⟩ := hp
      obtain ⟨b1, b2⟩ := ix_in (n := 500) rfl (show inR (xs (i + 2)) 0 500 from ⟨fun z => hP.2.1.1 (Int32.lt_trans z (by decide)), hP.2.1.2⟩)
      have b3 : 0 < ix (xs (i + 2)) := Nat.pos_of_ne_zero (fun z => hP.2.1.1 (by rw [b1, z]; decide))
      obtain ⟨c1, c2⟩ := ix_in (n := 50) rfl hP.2.2
      simp only [if_pos hP, if_pos hP.1, if_pos hP.2]
      exact NX.good hC.text hlo ⟨.inl hM.1, fun f hf => .inl (hM.2 f hf)⟩ (.inl h2) (fun k i hk => up2_k (by omega) i) ((hI.up 0).draft (ix_acc hP.1).2 (¬ xs (i + 4) = 0) ⟨b1, b3, by omega⟩ ⟨c1, by omega⟩) (((((AG.id σ).upl n32 0 0).upl (show ¬ cfd 1 by unfold cfd; omega) _ _).upl (show ¬ cfd 2 by unfold cfd; omega) _ _).upl (show ¬ cfd 3 by unfold cfd; omega) _ _) (by rw [up2_k (by decide), up2_k (by decide), up2_k (by decide), up2_self]) (Value.int.inj (Option.some.inj hr))
    · rcases hp with ⟨-, q⟩ | ⟨q, -⟩
      · have g : ¬ (accP (xs (i + 1)) ∧ (inR (xs (i + 2)) 1 500 ∧ inR (xs (i + 3)) 0 50)) := fun z => q z.1
        simp only [if_neg g, if_neg q]
        exact NX.thr hC hlo hM h2 hI he (by decide)
      · exact absurd q (by decide)
    · rcases hp with ⟨q, -⟩ | ⟨-, q1, q2⟩
      · exact absurd q (by decide)
      · have g : ¬ (accP (xs (i + 1)) ∧ (inR (xs (i + 2)) 1 500 ∧ inR (xs (i + 3)) 0 50)) := fun z => q2 z.2
        simp only [if_neg g, if_pos q1, if_neg q2]
        exact NX.thr hC hlo hM h2 hI he (by decide)
  obtain ⟨τ, bb, t1, ht1, hMet, n1, tq1, L1, c1, m1, e1, z1, x1, y1, k1, u1, w01, f91, hC1, hlo1, hM1, h21, ha1, hI1, he1, rfl, rfl, hcmp⟩ := hx
  refine g_widen (cells1 := cells + 100) (slots1 := slots + 4000) (Nat.add_le_add_left (by decide) _) (Nat.add_le_add_left (by decide) _) ?_
  refine g_st (st1 := [.int (τ 32 0)]) rfl ?_
  refine g_istore F (lv1 := [(5, .int (τ 32 0)), (0, .ref b), (1, .ref (ad 10 0)), (2, .ref (ad 0 0)), (3, .ref (ad 2 0)), (4, .int (nI i))]) dL_law_189 (by decide) rfl ?_
  refine g_aload_n F 3 dL_law_191 rfl rfl ?_
  refine la_arg F (jb := 1) (ji := 5) (j := 1) (v := 1) hX hbl hbA rfl rfl hL9 (by omega) (by decide) (by decide) dL_law_192 dL_law_193 dL_law_195 dL_law_196 dL_law_197 ?_
  refine la_arg F (jb := 1) (ji := 5) (j := 2) (v := 2) hX hbl hbA rfl rfl hL9 (by omega) (by decide) (by decide) dL_law_198 dL_law_199 dL_law_201 dL_law_202 dL_law_203 ?_
  refine la_arg F (jb := 1) (ji := 5) (j := 3) (v := 3) hX hbl hbA rfl rfl hL9 (by omega) (by decide) (by decide) dL_law_204 dL_law_205 dL_law_207 dL_law_208 dL_law_209 ?_
  refine la_arg F (jb := 1) (ji := 5) (j := 4) (v := 4) hX hbl hbA rfl rfl hL9 (by omega) (by decide) (by decide) dL_law_210 dL_law_211 dL_law_213 dL_law_214 dL_law_215 ?_
  refine la_bool F dL_law_216 dL_law_219 dL_law_220 dL_law_223 ?_
  refine g_st (st1 := [.int (bi (¬ xs (i + 4) = 0)), .int (xs (i + 3)), .int (xs (i + 2)), .int (xs (i + 1)), .ref (ad1 0 0)]) (by rw [ha1.2.1]) ?_
  refine g_callVi F (C := RX6) (k := 0) (i := 0) (ci := 6) (T := TX6) (N := 33) (rest := []) [.int (xs (i + 1)), .int (xs (i + 2)), .int (xs (i + 3)), .int (bi (¬ xs (i + 4) = 0))] (hMet _ hM1) (cwV 4 F.1.2.2.2.2 gL_law_X6_draft rfl rfl rfl (by decide +kernel) ⟨Nat.le_of_ble_eq_true rfl, Nat.le_of_ble_eq_true rfl⟩) rfl hM1.1 rfl rfl rfl rfl (Nat.le_of_ble_eq_true rfl) dL_law_224 (show cells + 100 + 0 ≤ room_1.cells ∧ slots + 4000 + 0 ≤ room_1.slots from hc) ?_
  exact la_tail F (n := n1) (tq := tq1) (σ := σ) (t := t) hM1 h21 ha1 he1 hcmp hc dL_law_227 dL_law_229 dL_law_230 dL_law_233 dL_law_235 dL_law_240 dL_law_242 dL_law_245 dL_law_246 dL_law_247 dL_law_248 dL_law_250 dL_law_251 dL_law_252 dL_law_257 (by decide) (kk t1 τ ad1 dm1 _ ht1 ⟨n1, tq1, L1, c1, m1, e1, z1, x1, y1, k1, u1, w01, f91, hC1, hlo1, hM1, h21, ha1, hI1, he1, rfl⟩)
set_option maxHeartbeats 8000000 in
set_option maxRecDepth 100000 in
theorem op_setOptions {p : Program} {l : Launch} {e : Env} {s : State} {m : MethodId} {args : Array Value} {below : List Frame} {meth : Method} {c : Code} {cells slots : Nat} {Q : State → Prop} {D : va_G} {A : Nat → Prop} {cs : Nat → ClassId} {ad : Nat → Nat → Nat} {dm : Nat → Nat → Prop} (F : FX p s m args c cL_law 9 wsL_law RL D A (tysG cs)) {b L i x0 xm xo t : Nat} {xs : Nat → Int32} {σ : SG} {w : CF} (hX : va_X b L xs s s.heap) (hbl : b < s.heap.size) (hbA : ¬ A b) (hL9 : L ≤ 2560) (hi : i + 4 < L) (hfl : l.stackTraces = false) (ht : t < 900000) (hLI : LI D cs x0 xm xo t σ ad dm w) (hc : cells + 100 ≤ 601024 ∧ slots + 4000 ≤ 7293034) (kk : ∀ (t1 : Nat) (τ : SG) (ad1 : Nat → Nat → Nat) (dm1 : Nat → Nat → Prop) (w1 : CF), t1 ≤ t + 100 → LI D cs x0 xm xo t1 τ ad1 dm1 w1 → GG p l e room_1 s m args below meth c D A ad1 dm1 9 (cells + 100) (slots + 4000) Q w1 1645 [(0, .ref b), (1, .ref x0), (2, .ref xm), (3, .ref xo), (4, .int (nI i))] []) : GG p l e room_1 s m args below meth c D A ad dm 9 cells slots Q w 260 [(0, .ref b), (1, .ref x0), (2, .ref xm), (3, .ref xo), (4, .int (nI i))] [] := by
  obtain ⟨n, tq, Lx, cap, mk, ev, zl, tx, mt, tn, tc, w0, f9, hC0, hlo, hM0, h20, ⟨rfl, rfl, rfl⟩, hI, he, rfl⟩ := hLI
  refine g_forget (dm1 := rs9 dm n tq) (ad1 := ad) (w1 := mw ad cs σ (cw D ad cs σ Lx cap mk ev zl tx mt tn tc w0)) (fun k i q => q.1) (fun _ _ _ => rfl) (fun _ _ _ => rfl) ?_
  have hC := rs9_CD hC0
  have hM := rs9_MD hM0 n tq
  have hub := rs9_UB dm n tq
  have h2 : rs9 dm n tq 2 0 := ⟨h20, .inl (by decide)⟩
  generalize rs9 dm n tq = d9 at hC hM hub h2 ⊢
  refine g_w (mw_cw D ad ad cs σ σ Lx cap mk ev zl tx mt tn tc w0 (fun _ => rfl)) ?_
  have hn40 := hI.1
  have hn := hI.2.1
  have hLV := hI.2.2.1
  have hL : Lx 0 = List.range n := hLV.2.1.1.1
  have hQ : ∀ r, r < 6 → Lx (5 + r) = qf σ n r := hLV.2.1.1.2
  have hIC : IC n σ Lx := hLV.2.1.2.1
  have hmm : ∀ j, j < n → okM σ j := hLV.2.2.2.2
  have hmt := hI.hmt
  have heC : (cw D ad cs σ Lx cap mk ev zl tx mt tn tc (mw ad cs σ w0)) 2 0 = .inl (cs 2, 1, .inr (.inl f9)) := (cw_lo (by decide) 0).trans ((mw_rest ad cs σ w0 (by decide) 0).trans he)
  refine g_aload_n F 1 dL_law_260 rfl rfl ?_
  refine la_arg F (jb := 0) (ji := 4) (j := 1) (v := 1) hX hbl hbA rfl rfl hL9 (by omega) (by decide) (by decide) dL_law_261 dL_law_262 dL_law_264 dL_law_265 dL_law_266 ?_
  refine la_arg F (jb := 0) (ji := 4) (j := 2) (v := 2) hX hbl hbA rfl rfl hL9 (by omega) (by decide) (by decide) dL_law_267 dL_law_268 dL_law_270 dL_law_271 dL_law_272 ?_
  refine la_arg F (jb := 0) (ji := 4) (j := 3) (v := 3) hX hbl hbA rfl rfl hL9 (by omega) (by decide) (by decide) dL_law_273 dL_law_274 dL_law_276 dL_law_277 dL_law_278 ?_
  refine la_arg F (jb := 0) (ji := 4) (j := 4) (v := 4) hX hbl hbA rfl rfl hL9 (by omega) (by decide) (by decide) dL_law_279 dL_law_280 dL_law_282 dL_law_283 dL_law_284 ?_
  refine la_bool F dL_law_285 dL_law_288 dL_law_289 dL_law_292 ?_
  refine q_callSW F (rest := []) [.ref (ad 10 0), .int (xs (i + 1)), .int (xs (i + 2)), .int (xs (i + 3)), .int (bi (¬ xs (i + 4) = 0))] (lh_setOptions (f9 := f9) l D A cs ad d9 (cw D ad cs σ Lx cap mk ev zl tx mt tn tc (mw ad cs σ w0)) (xs (i + 1)) (xs (i + 2)) (xs (i + 3)) (bi (¬ xs (i + 4) = 0)) (cc_setOptions l D A cs ad d9 σ Lx cap mk ev zl tx mt tn tc (mw ad cs σ w0) n tq hC (xs (i + 1)) (xs (i + 2)) (xs (i + 3)) (¬ xs (i + 4) = 0) hfl) hC.1 rfl (fun v ad1 dm1 w1 h => by obtain ⟨-, rfl, -, -, -⟩ := h; rfl) (fun E h => h.elim (fun q => .inl q.1) (fun q => .inr q.1))) (vx_cwSW 5 F.1.2.2.2.2 gL_law_L_setOptions rfl rfl rfl (by decide +kernel) ⟨Nat.le_of_ble_eq_true rfl, Nat.le_of_ble_eq_true rfl⟩) rfl rfl (Nat.le_of_ble_eq_true rfl) dL_law_293 ⟨Nat.le_trans (Nat.add_le_add_left (show 3 ≤ 100 by decide) cells) hc.1, Nat.le_trans (Nat.add_le_add_left (show 18 ≤ 4000 by decide) slots) hc.2⟩ (fun rz ad1 dm1 w1 hv => ?_)
  have hx : ∃ (τ : SG) (bb : Int32) (t1 : Nat), t1 ≤ t + 100 ∧ (∀ W : CF, MD dm1 → Met l yX6_setOptions wsX6_setOptions ({ frames := 2, cells := 0, slots := 0, locals := 42 }) (va_Pc [.ref (ad1 0 0), .int (xs (i + 1)), .int (xs (i + 2)), .int (xs (i + 3)), .int (bi (¬ xs (i + 4) = 0))] (PW D A (tysG cs) ad1 dm1 (mw ad1 cs σ W))) (va_Qv (fun (_ : Unit) => True) (fun _ t => PW D A (tysG cs) ad1 dm1 (mw ad1 cs τ W) t) A) 0 0 A) ∧ NX D cs (ad 10 0) (ad 0 0) (ad 2 0) t1 σ τ bb False rz ad1 dm1 w1 := by
    refine ⟨_, 0, t, Nat.le_add_right _ _, fun W hM1 => (mc_setOptions l D A cs ad1 dm1 W σ (xs (i + 1)) (xs (i + 2)) (xs (i + 3)) (¬ xs (i + 4) = 0) hM1), ?_⟩
    rcases hv with ⟨hp, rfl⟩ | ⟨hp, rfl, rfl, rfl, rfl⟩ | ⟨hp, rfl, rfl, rfl, rfl⟩
    · obtain ⟨hP, -, rfl, rfl, rfl⟩ := hp
      have g : accP (xs (i + 1)) ∧ (inR (xs (i + 2)) 0 7 ∧ inR (xs (i + 3)) (-1) 99) := ⟨hP.1, hP.2.1, in_m1.mpr hP.2.2⟩
      simp only [if_pos g, if_pos g.1, if_pos g.2]
      exact NX.good0 hC hlo hM h2 (fun _ _ _ => rfl) ((((hI.up 0).opt (.inl rfl) _ _).opt (.inr (.inl rfl)) _ _).wants _ (¬ xs (i + 4) = 0)) (((((AG.id σ).upl n32 0 0).up 4 _ _).up 5 _ _).up 6 _ _) (by rw [up2_k (by decide), up2_k (by decide), up2_k (by decide), up2_self]) he
    · rcases hp with ⟨-, q⟩ | ⟨q, -⟩
      · have g : ¬ (accP (xs (i + 1)) ∧ (inR (xs (i + 2)) 0 7 ∧ inR (xs (i + 3)) (-1) 99)) := fun z => q z.1
        simp only [if_neg g, if_neg q]
        exact NX.thr hC hlo hM h2 hI he (by decide)
      · exact absurd q (by decide)
    · rcases hp with ⟨q, -⟩ | ⟨-, q1, q2⟩
      · exact absurd q (by decide)
      · have q3 : ¬ (inR (xs (i + 2)) 0 7 ∧ inR (xs (i + 3)) (-1) 99) := fun z => q2 ⟨z.1, in_m1.mp z.2⟩
        have g : ¬ (accP (xs (i + 1)) ∧ (inR (xs (i + 2)) 0 7 ∧ inR (xs (i + 3)) (-1) 99)) := fun z => q3 z.2
        simp only [if_neg g, if_pos q1, if_neg q3]
        exact NX.thr hC hlo hM h2 hI he (by decide)
  obtain ⟨τ, bb, t1, ht1, hMet, n1, tq1, L1, c1, m1, e1, z1, x1, y1, k1, u1, w01, f91, hC1, hlo1, hM1, h21, ha1, hI1, he1, rfl, rfl, hcmp⟩ := hx
  refine g_widen (cells1 := cells + 100) (slots1 := slots + 4000) (Nat.add_le_add_left (by decide) _) (Nat.add_le_add_left (by decide) _) ?_
  refine g_st (st1 := [.int (τ 32 0)]) rfl ?_
  refine g_istore F (lv1 := [(5, .int (τ 32 0)), (0, .ref b), (1, .ref (ad 10 0)), (2, .ref (ad 0 0)), (3, .ref (ad 2 0)), (4, .int (nI i))]) dL_law_296 (by decide) rfl ?_
  refine g_aload_n F 3 dL_law_298 rfl rfl ?_
  refine la_arg F (jb := 1) (ji := 5) (j := 1) (v := 1) hX hbl hbA rfl rfl hL9 (by omega) (by decide) (by decide) dL_law_299 dL_law_300 dL_law_302 dL_law_303 dL_law_304 ?_
  refine la_arg F (jb := 1) (ji := 5) (j := 2) (v := 2) hX hbl hbA rfl rfl hL9 (by omega) (by decide) (by decide) dL_law_305 dL_law_306 dL_law_308 dL_law_309 dL_law_310 ?_
  refine la_arg F (jb := 1) (ji := 5) (j := 3) (v := 3) hX hbl hbA rfl rfl hL9 (by omega) (by decide) (by decide) dL_law_311 dL_law_312 dL_law_314 dL_law_315 dL_law_316 ?_
  refine la_arg F (jb := 1) (ji := 5) (j := 4) (v := 4) hX hbl hbA rfl rfl hL9 (by omega) (by decide) (by decide) dL_law_317 dL_law_318 dL_law_320 dL_law_321 dL_law_322 ?_
  refine la_bool F dL_law_323 dL_law_326 dL_law_327 dL_law_330 ?_
  refine g_st (st1 := [.int (bi (¬ xs (i + 4) = 0)), .int (xs (i + 3)), .int (xs (i + 2)), .int (xs (i + 1)), .ref (ad1 0 0)]) (by rw [ha1.2.1]) ?_
  refine g_callVv F (C := RX6) (k := 0) (i := 0) (ci := 6) (T := TX6) (N := 33) (rest := []) [.int (xs (i + 1)), .int (xs (i + 2)), .int (xs (i + 3)), .int (bi (¬ xs (i + 4) = 0))] (hMet _ hM1) (cwV 4 F.1.2.2.2.2 gL_law_X6_setOptions rfl rfl rfl (by decide +kernel) ⟨Nat.le_of_ble_eq_true rfl, Nat.le_of_ble_eq_true rfl⟩) rfl hM1.1 rfl rfl rfl rfl (Nat.le_of_ble_eq_true rfl) dL_law_331 (show cells + 100 + 0 ≤ room_1.cells ∧ slots + 4000 + 0 ≤ room_1.slots from hc) ?_
  exact la_tail0 F (n := n1) (tq := tq1) (σ := σ) (t := t) hM1 h21 ha1 he1 hc dL_law_334 dL_law_335 dL_law_338 dL_law_340 dL_law_345 (by decide) (kk t1 τ ad1 dm1 _ ht1 ⟨n1, tq1, L1, c1, m1, e1, z1, x1, y1, k1, u1, w01, f91, hC1, hlo1, hM1, h21, ha1, hI1, he1, rfl⟩)
set_option maxHeartbeats 8000000 in
set_option maxRecDepth 100000 in
theorem op_delete {p : Program} {l : Launch} {e : Env} {s : State} {m : MethodId} {args : Array Value} {below : List Frame} {meth : Method} {c : Code} {cells slots : Nat} {Q : State → Prop} {D : va_G} {A : Nat → Prop} {cs : Nat → ClassId} {ad : Nat → Nat → Nat} {dm : Nat → Nat → Prop} (F : FX p s m args c cL_law 9 wsL_law RL D A (tysG cs)) {b L i x0 xm xo t : Nat} {xs : Nat → Int32} {σ : SG} {w : CF} (hX : va_X b L xs s s.heap) (hbl : b < s.heap.size) (hbA : ¬ A b) (hL9 : L ≤ 2560) (hi : i + 4 < L) (hfl : l.stackTraces = false) (ht : t < 900000) (hLI : LI D cs x0 xm xo t σ ad dm w) (hc : cells + 100 ≤ 601024 ∧ slots + 4000 ≤ 7293034) (kk : ∀ (t1 : Nat) (τ : SG) (ad1 : Nat → Nat → Nat) (dm1 : Nat → Nat → Prop) (w1 : CF), t1 ≤ t + 100 → LI D cs x0 xm xo t1 τ ad1 dm1 w1 → GG p l e room_1 s m args below meth c D A ad1 dm1 9 (cells + 100) (slots + 4000) Q w1 1645 [(0, .ref b), (1, .ref x0), (2, .ref xm), (3, .ref xo), (4, .int (nI i))] []) : GG p l e room_1 s m args below meth c D A ad dm 9 cells slots Q w 520 [(0, .ref b), (1, .ref x0), (2, .ref xm), (3, .ref xo), (4, .int (nI i))] [] := by
  obtain ⟨n, tq, Lx, cap, mk, ev, zl, tx, mt, tn, tc, w0, f9, hC0, hlo, hM0, h20, ⟨rfl, rfl, rfl⟩, hI, he, rfl⟩ := hLI
  refine g_forget (dm1 := rs9 dm n tq) (ad1 := ad) (w1 := mw ad cs σ (cw D ad cs σ Lx cap mk ev zl tx mt tn tc w0)) (fun k i q => q.1) (fun _ _ _ => rfl) (fun _ _ _ => rfl) ?_
  have hC := rs9_CD hC0
  have hM := rs9_MD hM0 n tq
  have hub := rs9_UB dm n tq
  have h2 : rs9 dm n tq 2 0 := ⟨h20, .inl (by decide)⟩
  generalize rs9 dm n tq = d9 at hC hM hub h2 ⊢
  refine g_w (mw_cw D ad ad cs σ σ Lx cap mk ev zl tx mt tn tc w0 (fun _ => rfl)) ?_
  have hn40 := hI.1
  have hn := hI.2.1
  have hLV := hI.2.2.1
  have hL : Lx 0 = List.range n := hLV.2.1.1.1
  have hQ : ∀ r, r < 6 → Lx (5 + r) = qf σ n r := hLV.2.1.1.2
  have hIC : IC n σ Lx := hLV.2.1.2.1
  have hmm : ∀ j, j < n → okM σ j := hLV.2.2.2.2
  have hmt := hI.hmt
  have heC : (cw D ad cs σ Lx cap mk ev zl tx mt tn tc (mw ad cs σ w0)) 2 0 = .inl (cs 2, 1, .inr (.inl f9)) := (cw_lo (by decide) 0).trans ((mw_rest ad cs σ w0 (by decide) 0).trans he)
  refine g_aload_n F 1 dL_law_520 rfl rfl ?_
  refine la_arg F (jb := 0) (ji := 4) (j := 1) (v := 1) hX hbl hbA rfl rfl hL9 (by omega) (by decide) (by decide) dL_law_521 dL_law_522 dL_law_524 dL_law_525 dL_law_526 ?_
  refine g_aload_n F 3 dL_law_527 rfl rfl ?_
  refine q_callSW F (rest := []) [.ref (ad 10 0), .int (xs (i + 1)), .ref (ad 2 0)] (lh_delete l D A cs ad d9 (cw D ad cs σ Lx cap mk ev zl tx mt tn tc (mw ad cs σ w0)) (xs (i + 1)) (cc_delete l D A cs ad d9 σ Lx cap mk ev zl tx mt tn tc (mw ad cs σ w0) n tq hC (xs (i + 1)) hn40 hL hlo (hub.no22 0) (fun j hj hw => ⟨(hLV.dok hn40 hmt hj hw).1, (hLV.dok hn40 hmt hj hw).2.1⟩) hfl) hC.1 rfl (fun v ad1 dm1 w1 h => by obtain ⟨-, rfl, g, d, cp, mq, rfl, rfl, -, -, rfl⟩ := h; exact ⟨⟨_, rfl⟩, by rw [r16_ne (by decide)]; exact h2, r16_ne (by decide) 0, (cw_lo (by decide) 0).trans ((mw_rest ad cs σ w0 (by decide) 0).trans he)⟩) (fun E h => h.elim (fun q => .inl q.1) (fun q => .inr q.1))) (vx_cwSW 3 F.1.2.2.2.2 gL_law_L_delete rfl rfl rfl (by decide +kernel) ⟨Nat.le_of_ble_eq_true rfl, Nat.le_of_ble_eq_true rfl⟩) rfl rfl (Nat.le_of_ble_eq_true rfl) dL_law_528 ⟨Nat.le_trans (Nat.add_le_add_left (show 4 ≤ 100 by decide) cells) hc.1, Nat.le_trans (Nat.add_le_add_left (show 90 ≤ 4000 by decide) slots) hc.2⟩ (fun rz ad1 dm1 w1 hv => ?_)
  have hx : ∃ (τ : SG) (bb : Int32) (t1 : Nat), t1 ≤ t + 100 ∧ (∀ W : CF, MD dm1 → Met l yX6_delete wsX6_delete ({ frames := 2, cells := 0, slots := 0, locals := 43 }) (va_Pc [.ref (ad1 0 0), .int (xs (i + 1))] (PW D A (tysG cs) ad1 dm1 (mw ad1 cs σ W))) (va_Qi (fun r (_ : Unit) => r = bb) (fun _ t => PW D A (tysG cs) ad1 dm1 (mw ad1 cs τ W) t) A) 0 0 A) ∧ NX D cs (ad 10 0) (ad 0 0) (ad 2 0) t1 σ τ bb True rz ad1 dm1 w1 := by
    refine ⟨_, _, t, Nat.le_add_right _ _, fun W hM1 => (mc_delete l D A cs ad1 dm1 W σ (xs (i + 1)) n hM1 hn hn40 (fun j hj hw => (hIC.en hn40 (hmm j hj) hj hw).1)), ?_⟩
    rcases hv with ⟨v, w2, hp, rfl, rfl⟩ | ⟨hp, rfl, rfl, rfl, rfl⟩ | ⟨hp, rfl, rfl, rfl, rfl⟩
    · obtain ⟨hP, hr, g, d, cp, mq, rfl, rfl, hC1, hlo1, rfl⟩ := hp
      obtain ⟨eV, hj⟩ := ix_mg (Nat.le_trans hn40 (by decide)) hP.1
      obtain ⟨i1, i2⟩ := sm_del hI hj hP.2 0
      rw [← eV] at i1 i2
      have h1 : inR (xs (i + 1)) 0 ((σ 11 0) - 1) := by rw [hn]; exact hP.1
      have h12 : inR (xs (i + 1)) 0 ((σ 11 0) - 1) ∧ σ 23 (ix (xs (i + 1))) = 0 := ⟨h1, hP.2⟩
      simp only [if_pos h12, if_pos h1, if_pos hP.2]
      exact NX.good hC1 hlo1 (r16_MD hM) (by rw [r16_ne (by decide)]; exact h2) (fun k i hk => r16_ne (by omega) i) i1 i2 (by rw [enS_o (by decide), up2_self]) ((Value.int.inj (Option.some.inj hr)).trans (by rw [enS_o (by decide), up2_k (by decide)]))
    · rcases hp with ⟨-, q⟩ | ⟨q, -⟩
      · have h1 : ¬ inR (xs (i + 1)) 0 ((σ 11 0) - 1) := fun z => q (by rw [hn] at z; exact z)
        have h12 : ¬ (inR (xs (i + 1)) 0 ((σ 11 0) - 1) ∧ σ 23 (ix (xs (i + 1))) = 0) := fun z => h1 z.1
        simp only [if_neg h12, if_neg h1]
        exact NX.thr hC hlo hM h2 hI he (by decide)
      · exact absurd q (by decide)
    · rcases hp with ⟨q, -⟩ | ⟨-, q1, q2⟩
      · exact absurd q (by decide)
      · have h1 : inR (xs (i + 1)) 0 ((σ 11 0) - 1) := by rw [hn]; exact q1
        have h12 : ¬ (inR (xs (i + 1)) 0 ((σ 11 0) - 1) ∧ σ 23 (ix (xs (i + 1))) = 0) := fun z => q2 z.2
        simp only [if_neg h12, if_pos h1, if_neg q2]
        exact NX.thr hC hlo hM h2 hI he (by decide)
  obtain ⟨τ, bb, t1, ht1, hMet, n1, tq1, L1, c1, m1, e1, z1, x1, y1, k1, u1, w01, f91, hC1, hlo1, hM1, h21, ha1, hI1, he1, rfl, rfl, hcmp⟩ := hx
  refine g_widen (cells1 := cells + 100) (slots1 := slots + 4000) (Nat.add_le_add_left (by decide) _) (Nat.add_le_add_left (by decide) _) ?_
  refine g_st (st1 := [.int (τ 32 0)]) rfl ?_
  refine g_istore F (lv1 := [(5, .int (τ 32 0)), (0, .ref b), (1, .ref (ad 10 0)), (2, .ref (ad 0 0)), (3, .ref (ad 2 0)), (4, .int (nI i))]) dL_law_531 (by decide) rfl ?_
  refine g_aload_n F 3 dL_law_533 rfl rfl ?_
  refine la_arg F (jb := 1) (ji := 5) (j := 1) (v := 1) hX hbl hbA rfl rfl hL9 (by omega) (by decide) (by decide) dL_law_534 dL_law_535 dL_law_537 dL_law_538 dL_law_539 ?_
  refine g_st (st1 := [.int (xs (i + 1)), .ref (ad1 0 0)]) (by rw [ha1.2.1]) ?_
  refine g_callVi F (C := RX6) (k := 0) (i := 0) (ci := 6) (T := TX6) (N := 33) (rest := []) [.int (xs (i + 1))] (hMet _ hM1) (cwV 1 F.1.2.2.2.2 gL_law_X6_delete rfl rfl rfl (by decide +kernel) ⟨Nat.le_of_ble_eq_true rfl, Nat.le_of_ble_eq_true rfl⟩) rfl hM1.1 rfl rfl rfl rfl (Nat.le_of_ble_eq_true rfl) dL_law_540 (show cells + 100 + 0 ≤ room_1.cells ∧ slots + 4000 + 0 ≤ room_1.slots from hc) ?_
  exact la_tail F (n := n1) (tq := tq1) (σ := σ) (t := t) hM1 h21 ha1 he1 hcmp hc dL_law_543 dL_law_545 dL_law_546 dL_law_549 dL_law_551 dL_law_556 dL_law_558 dL_law_561 dL_law_562 dL_law_563 dL_law_564 dL_law_566 dL_law_567 dL_law_568 dL_law_573 (by decide) (kk t1 τ ad1 dm1 _ ht1 ⟨n1, tq1, L1, c1, m1, e1, z1, x1, y1, k1, u1, w01, f91, hC1, hlo1, hM1, h21, ha1, hI1, he1, rfl⟩)
set_option maxHeartbeats 8000000 in
set_option maxRecDepth 100000 in
theorem op_takeReceipt {p : Program} {l : Launch} {e : Env} {s : State} {m : MethodId} {args : Array Value} {below : List Frame} {meth : Method} {c : Code} {cells slots : Nat} {Q : State → Prop} {D : va_G} {A : Nat → Prop} {cs : Nat → ClassId} {ad : Nat → Nat → Nat} {dm : Nat → Nat → Prop} (F : FX p s m args c cL_law 9 wsL_law RL D A (tysG cs)) {b L i x0 xm xo t : Nat} {xs : Nat → Int32} {σ : SG} {w : CF} (hX : va_X b L xs s s.heap) (hbl : b < s.heap.size) (hbA : ¬ A b) (hL9 : L ≤ 2560) (hi : i + 4 < L) (hfl : l.stackTraces = false) (ht : t < 900000) (hLI : LI D cs x0 xm xo t σ ad dm w) (hc : cells + 100 ≤ 601024 ∧ slots + 4000 ≤ 7293034) (kk : ∀ (t1 : Nat) (τ : SG) (ad1 : Nat → Nat → Nat) (dm1 : Nat → Nat → Prop) (w1 : CF), t1 ≤ t + 100 → LI D cs x0 xm xo t1 τ ad1 dm1 w1 → GG p l e room_1 s m args below meth c D A ad1 dm1 9 (cells + 100) (slots + 4000) Q w1 1645 [(0, .ref b), (1, .ref x0), (2, .ref xm), (3, .ref xo), (4, .int (nI i))] []) : GG p l e room_1 s m args below meth c D A ad dm 9 cells slots Q w 1546 [(0, .ref b), (1, .ref x0), (2, .ref xm), (3, .ref xo), (4, .int (nI i))] [] := by
  obtain ⟨n, tq, Lx, cap, mk, ev, zl, tx, mt, tn, tc, w0, f9, hC0, hlo, hM0, h20, ⟨rfl, rfl, rfl⟩, hI, he, rfl⟩ := hLI
  refine g_forget (dm1 := rs9 dm n tq) (ad1 := ad) (w1 := mw ad cs σ (cw D ad cs σ Lx cap mk ev zl tx mt tn tc w0)) (fun k i q => q.1) (fun _ _ _ => rfl) (fun _ _ _ => rfl) ?_
  have hC := rs9_CD hC0
  have hM := rs9_MD hM0 n tq
  have hub := rs9_UB dm n tq
  have h2 : rs9 dm n tq 2 0 := ⟨h20, .inl (by decide)⟩
  generalize rs9 dm n tq = d9 at hC hM hub h2 ⊢
  refine g_w (mw_cw D ad ad cs σ σ Lx cap mk ev zl tx mt tn tc w0 (fun _ => rfl)) ?_
  have hn40 := hI.1
  have hn := hI.2.1
  have hLV := hI.2.2.1
  have hL : Lx 0 = List.range n := hLV.2.1.1.1
  have hQ : ∀ r, r < 6 → Lx (5 + r) = qf σ n r := hLV.2.1.1.2
  have hIC : IC n σ Lx := hLV.2.1.2.1
  have hmm : ∀ j, j < n → okM σ j := hLV.2.2.2.2
  have hmt := hI.hmt
  have heC : (cw D ad cs σ Lx cap mk ev zl tx mt tn tc (mw ad cs σ w0)) 2 0 = .inl (cs 2, 1, .inr (.inl f9)) := (cw_lo (by decide) 0).trans ((mw_rest ad cs σ w0 (by decide) 0).trans he)
  refine g_aload_n F 1 dL_law_1546 rfl rfl ?_
  refine la_arg F (jb := 0) (ji := 4) (j := 1) (v := 1) hX hbl hbA rfl rfl hL9 (by omega) (by decide) (by decide) dL_law_1547 dL_law_1548 dL_law_1550 dL_law_1551 dL_law_1552 ?_
  refine g_aload_n F 3 dL_law_1553 rfl rfl ?_
  refine q_callSW F (rest := []) [.ref (ad 10 0), .int (xs (i + 1)), .ref (ad 2 0)] (lh_takeReceipt l D A cs ad d9 (cw D ad cs σ Lx cap mk ev zl tx mt tn tc (mw ad cs σ w0)) (xs (i + 1)) (cc_takeReceipt l D A cs ad d9 σ Lx cap mk ev zl tx mt tn tc (mw ad cs σ w0) n tq hC (xs (i + 1)) hlo hfl) hC.1 rfl (fun v ad1 dm1 w1 h => by obtain ⟨-, rfl, rfl, rfl, rfl⟩ := h; exact ⟨⟨_, rfl⟩, h2, rfl, (cw_lo (by decide) 0).trans ((mw_rest ad cs σ w0 (by decide) 0).trans he)⟩) (fun E h => h.elim (fun q => .inl q.1) (fun q => .inr q.1))) (vx_cwSW 3 F.1.2.2.2.2 gL_law_L_takeReceipt rfl rfl rfl (by decide +kernel) ⟨Nat.le_of_ble_eq_true rfl, Nat.le_of_ble_eq_true rfl⟩) rfl rfl (Nat.le_of_ble_eq_true rfl) dL_law_1554 ⟨Nat.le_trans (Nat.add_le_add_left (show 2 ≤ 100 by decide) cells) hc.1, Nat.le_trans (Nat.add_le_add_left (show 12 ≤ 4000 by decide) slots) hc.2⟩ (fun rz ad1 dm1 w1 hv => ?_)
  have hx : ∃ (τ : SG) (bb : Int32) (t1 : Nat), t1 ≤ t + 100 ∧ (∀ W : CF, MD dm1 → Met l yX6_takeReceipt wsX6_takeReceipt ({ frames := 2, cells := 0, slots := 0, locals := 42 }) (va_Pc [.ref (ad1 0 0), .int (xs (i + 1))] (PW D A (tysG cs) ad1 dm1 (mw ad1 cs σ W))) (va_Qi (fun r (_ : Unit) => r = bb) (fun _ t => PW D A (tysG cs) ad1 dm1 (mw ad1 cs τ W) t) A) 0 0 A) ∧ NX D cs (ad 10 0) (ad 0 0) (ad 2 0) t1 σ τ bb True rz ad1 dm1 w1 := by
    refine ⟨_, _, t, Nat.le_add_right _ _, fun W hM1 => (mc_takeReceipt l D A cs ad1 dm1 W σ (xs (i + 1)) (if accP (xs (i + 1)) then (Lx (1 + ix (xs (i + 1)))).length else 0) hM1 (fun q => by rw [if_pos q]; exact (hIC _ (ix_acc q).2).1) (Classical.byCases (fun q : accP (xs (i + 1)) => by rw [if_pos q]; exact Nat.le_trans (hIC.len0 (ix_acc q).2) hn40) (fun q : ¬ accP (xs (i + 1)) => by rw [if_neg q]; exact Nat.zero_le _))), ?_⟩
    rcases hv with ⟨v, w2, hp, rfl, rfl⟩ | ⟨hp, rfl, rfl, rfl, rfl⟩ | ⟨hp, rfl, rfl, rfl, rfl⟩
    · obtain ⟨hP, hr, rfl, rfl, rfl⟩ := hp
      have e9 : σ 9 (ix (xs (i + 1))) = nI (Lx (1 + ix (xs (i + 1)))).length := (hIC _ (ix_acc hP.1).2).1
      have g : accP (xs (i + 1)) ∧ ¬ σ 9 (ix (xs (i + 1))) = 0 := ⟨hP.1, by rw [e9]; exact hP.2⟩
      obtain ⟨i1, i2, i3, i4⟩ := sm_take hI (ix_acc hP.1).2 (fun z => hP.2 (by rw [z]; rfl))
      simp only [if_pos g, if_pos g.1, if_neg g.2]
      exact NX.good hC (hlo.rm (1 + ix (xs (i + 1))) 0) hM h2 (fun _ _ _ => rfl) i1 i2 i3 ((Value.int.inj (Option.some.inj hr)).trans i4)
    · rcases hp with ⟨-, q⟩ | ⟨q, -⟩
      · have g : ¬ (accP (xs (i + 1)) ∧ ¬ σ 9 (ix (xs (i + 1))) = 0) := fun z => q z.1
        simp only [if_neg g, if_neg q]
        exact NX.thr hC hlo hM h2 hI he (by decide)
      · exact absurd q (by decide)
    · rcases hp with ⟨q, -⟩ | ⟨-, q1, q2⟩
      · exact absurd q (by decide)
      · have e9 : σ 9 (ix (xs (i + 1))) = 0 := (hIC _ (ix_acc q1).2).1.trans q2
        have g : ¬ (accP (xs (i + 1)) ∧ ¬ σ 9 (ix (xs (i + 1))) = 0) := fun z => z.2 e9
        simp only [if_neg g, if_pos q1, if_pos e9]
        exact NX.thr hC hlo hM h2 hI he (by decide)
  obtain ⟨τ, bb, t1, ht1, hMet, n1, tq1, L1, c1, m1, e1, z1, x1, y1, k1, u1, w01, f91, hC1, hlo1, hM1, h21, ha1, hI1, he1, rfl, rfl, hcmp⟩ := hx
  refine g_widen (cells1 := cells + 100) (slots1 := slots + 4000) (Nat.add_le_add_left (by decide) _) (Nat.add_le_add_left (by decide) _) ?_
  refine g_st (st1 := [.int (τ 32 0)]) rfl ?_
  refine g_istore F (lv1 := [(5, .int (τ 32 0)), (0, .ref b), (1, .ref (ad 10 0)), (2, .ref (ad 0 0)), (3, .ref (ad 2 0)), (4, .int (nI i))]) dL_law_1557 (by decide) rfl ?_
  refine g_aload_n F 3 dL_law_1559 rfl rfl ?_
  refine la_arg F (jb := 1) (ji := 5) (j := 1) (v := 1) hX hbl hbA rfl rfl hL9 (by omega) (by decide) (by decide) dL_law_1560 dL_law_1561 dL_law_1563 dL_law_1564 dL_law_1565 ?_
  refine g_st (st1 := [.int (xs (i + 1)), .ref (ad1 0 0)]) (by rw [ha1.2.1]) ?_
  refine g_callVi F (C := RX6) (k := 0) (i := 0) (ci := 6) (T := TX6) (N := 33) (rest := []) [.int (xs (i + 1))] (hMet _ hM1) (cwV 1 F.1.2.2.2.2 gL_law_X6_takeReceipt rfl rfl rfl (by decide +kernel) ⟨Nat.le_of_ble_eq_true rfl, Nat.le_of_ble_eq_true rfl⟩) rfl hM1.1 rfl rfl rfl rfl (Nat.le_of_ble_eq_true rfl) dL_law_1566 (show cells + 100 + 0 ≤ room_1.cells ∧ slots + 4000 + 0 ≤ room_1.slots from hc) ?_
  exact la_tail F (n := n1) (tq := tq1) (σ := σ) (t := t) hM1 h21 ha1 he1 hcmp hc dL_law_1569 dL_law_1571 dL_law_1572 dL_law_1575 dL_law_1577 dL_law_1582 dL_law_1584 dL_law_1587 dL_law_1588 dL_law_1589 dL_law_1590 dL_law_1592 dL_law_1593 dL_law_1594 dL_law_1599 (by decide) (kk t1 τ ad1 dm1 _ ht1 ⟨n1, tq1, L1, c1, m1, e1, z1, x1, y1, k1, u1, w01, f91, hC1, hlo1, hM1, h21, ha1, hI1, he1, rfl⟩)
