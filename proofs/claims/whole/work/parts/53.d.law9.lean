set_option maxHeartbeats 8000000 in
set_option maxRecDepth 100000 in
theorem op_pass {p : Program} {l : Launch} {e : Env} {s : State} {m : MethodId} {args : Array Value} {below : List Frame} {meth : Method} {c : Code} {cells slots : Nat} {Q : State → Prop} {D : va_G} {A : Nat → Prop} {cs : Nat → ClassId} {ad : Nat → Nat → Nat} {dm : Nat → Nat → Prop} (F : FX p s m args c cL_law 9 wsL_law RL D A (tysG cs)) {b L i x0 xm xo t : Nat} {xs : Nat → Int32} {σ : SG} {w : CF} (hX : va_X b L xs s s.heap) (hbl : b < s.heap.size) (hbA : ¬ A b) (hL9 : L ≤ 2560) (hi : i + 4 < L) (hfl : l.stackTraces = false) (ht : t < 900000) (hLI : LI D cs x0 xm xo t σ ad dm w) (hc : cells + 100 ≤ 601024 ∧ slots + 4000 ≤ 7293034) (kk : ∀ (t1 : Nat) (τ : SG) (ad1 : Nat → Nat → Nat) (dm1 : Nat → Nat → Prop) (w1 : CF), t1 ≤ t + 100 → LI D cs x0 xm xo t1 τ ad1 dm1 w1 → GG p l e room_1 s m args below meth c D A ad1 dm1 9 (cells + 100) (slots + 4000) Q w1 1645 [(0, .ref b), (1, .ref x0), (2, .ref xm), (3, .ref xo), (4, .int (nI i))] []) : GG p l e room_1 s m args below meth c D A ad dm 9 cells slots Q w 1421 [(0, .ref b), (1, .ref x0), (2, .ref xm), (3, .ref xo), (4, .int (nI i))] [] := by
  obtain ⟨n, tq, Lx, cap, mk, ev, zl, tx, mt, tn, tc, w0, f9, hC0, hlo, hM0, h20, ⟨rfl, rfl, rfl⟩, hI, he, rfl⟩ := hLI
  refine g_forget (dm1 := rs9 dm n tq) (ad1 := ad) (w1 := mw ad cs σ (cw D ad cs σ Lx cap mk ev zl tx mt tn tc w0)) (fun k i q => q.1) (fun _ _ _ => rfl) (fun _ _ _ => rfl) ?_
  have hC := rs9_CD hC0
  have hM := rs9_MD hM0 n tq
  have hub := rs9_UB dm n tq
  have h2 : rs9 dm n tq 2 0 := ⟨h20, .inl (by decide)⟩
  generalize rs9 dm n tq = d9 at hC hM hub h2 ⊢
  refine g_w (mw_cw D ad ad cs σ σ Lx cap mk ev zl tx mt tn tc w0 (fun _ => rfl)) ?_
  have hn40 := hI.1
  have hn := hI.2.1
  have hLV := hI.2.2.1
  have hL : Lx 0 = List.range n := hLV.2.1.1.1
  have hQ : ∀ r, r < 6 → Lx (5 + r) = qf σ n r := hLV.2.1.1.2
  have hIC : IC n σ Lx := hLV.2.1.2.1
  have hmm : ∀ j, j < n → okM σ j := hLV.2.2.2.2
  have hmt := hI.hmt
  have heC : (cw D ad cs σ Lx cap mk ev zl tx mt tn tc (mw ad cs σ w0)) 2 0 = .inl (cs 2, 1, .inr (.inl f9)) := (cw_lo (by decide) 0).trans ((mw_rest ad cs σ w0 (by decide) 0).trans he)
  by_cases hV : inR (xs (i + 1)) 1 100
  · refine g_aload_n F 1 dL_law_1421 rfl rfl ?_
    refine la_arg F (jb := 0) (ji := 4) (j := 1) (v := 1) hX hbl hbA rfl rfl hL9 (by omega) (by decide) (by decide) dL_law_1422 dL_law_1423 dL_law_1425 dL_law_1426 dL_law_1427 ?_
    refine g_aload_n F 3 dL_law_1428 rfl rfl ?_
    obtain ⟨ev9, h100⟩ := ix_in (n := 100) rfl (show inR (xs (i + 1)) 0 100 from ⟨fun q => hV.1 (Int32.lt_trans q (by decide)), hV.2⟩)
    have hcost := (sm_pass hI ht 0 (k := ix (xs (i + 1))) (by omega)).2.2.2
    have hcA : 1 + (psT (fun j => nI (tn (mt j))) n (σ, Lx, ev, zl) (ix (xs (i + 1)))).2.1 ≤ 100 := by omega
    have hcB : 6 + 60 * (psT (fun j => nI (tn (mt j))) n (σ, Lx, ev, zl) (ix (xs (i + 1)))).2.1 ≤ 4000 := by omega
    refine q_callSW F (rest := []) [.ref (ad 10 0), .int (xs (i + 1)), .ref (ad 2 0)] (lh_pass (f9 := f9) l D A cs ad d9 (cw D ad cs σ Lx cap mk ev zl tx mt tn tc (mw ad cs σ w0)) (xs (i + 1)) (cc_pass l D A cs ad d9 σ Lx cap mk ev zl tx mt tn tc (mw ad cs σ w0) n tq hC (xs (i + 1)) hn40 hL hlo (hub.no22 0) (fun k hk j hj => (sm_tick hI ht 0 (show k < 100 by omega)).1 j hj) (fun k hk r hr => (sm_tick hI ht 0 (show k < 100 by omega)).2.1 r hr) hfl) hC.1 rfl (fun v ad1 dm1 w1 h => by obtain ⟨-, rfl, g, d, cp, mq, rfl, rfl, -, -, rfl⟩ := h; exact ⟨⟨_, rfl⟩, by rw [r16_ne (by decide)]; exact h2, r16_ne (by decide) 0, (cw_lo (by decide) 0).trans ((mw_rest ad cs σ w0 (by decide) 0).trans he)⟩) (fun E h => h.1)) (vx_cwSW 3 F.1.2.2.2.2 gL_law_L_pass rfl rfl rfl (by decide +kernel) ⟨Nat.le_of_ble_eq_true rfl, Nat.le_of_ble_eq_true rfl⟩) rfl rfl (Nat.le_of_ble_eq_true rfl) dL_law_1429 ⟨Nat.le_trans (Nat.add_le_add_left hcA cells) hc.1, Nat.le_trans (Nat.add_le_add_left hcB slots) hc.2⟩ (fun rz ad1 dm1 w1 hv => ?_)
    have hx : ∃ (τ : SG) (bb : Int32) (t1 : Nat), t1 ≤ t + 100 ∧ (∀ W : CF, MD dm1 → Met l yX6_pass wsX6_pass ({ frames := 4, cells := 0, slots := 0, locals := 97 }) (va_Pc [.ref (ad1 0 0), .int (xs (i + 1))] (PW D A (tysG cs) ad1 dm1 (mw ad1 cs σ W))) (va_Qi (fun r (_ : Unit) => r = bb) (fun _ t => PW D A (tysG cs) ad1 dm1 (mw ad1 cs τ W) t) A) 0 0 A) ∧ NX D cs (ad 10 0) (ad 0 0) (ad 2 0) t1 σ τ bb True rz ad1 dm1 w1 := by
      refine ⟨_, _, (t + ix (xs (i + 1))), by omega, fun W hM1 => (mc_pass l D A cs ad1 dm1 W σ (xs (i + 1)) n hM1 hn hn40 (fun k hk j hj => (sm_tick hI ht _ (show k < 100 by omega)).2.2.1 j hj) (fun k hk r hr => (sm_tick hI ht _ (show k < 100 by omega)).2.2.2 r hr)), ?_⟩
      rcases hv with ⟨v, w2, hp, rfl, rfl⟩ | ⟨hp, rfl, rfl, rfl, rfl⟩
      · obtain ⟨hP, hr, g, d, cp, mq, rfl, rfl, hC1, hlo1, rfl⟩ := hp
        have e0 : bi (¬ inR (xs (i + 1)) 1 100) = 0 := bi_f (fun q => q hV)
        obtain ⟨i1, i2, i3, i4⟩ := sm_pass hI ht 0 (k := ix (xs (i + 1))) (by omega)
        simp only [if_pos hV, e0]
        exact NX.good hC1 hlo1 (r16_MD hM) (by rw [r16_ne (by decide)]; exact h2) (fun k i hk => r16_ne (by omega) i) i1 i2 (by rw [psF_f (by omega), up2_self]) ((Value.int.inj (Option.some.inj hr)).trans i3)
      · exact absurd hV hp.2
    obtain ⟨τ, bb, t1, ht1, hMet, n1, tq1, L1, c1, m1, e1, z1, x1, y1, k1, u1, w01, f91, hC1, hlo1, hM1, h21, ha1, hI1, he1, rfl, rfl, hcmp⟩ := hx
    refine g_widen (cells1 := cells + 100) (slots1 := slots + 4000) (Nat.add_le_add_left hcA _) (Nat.add_le_add_left hcB _) ?_
    refine g_st (st1 := [.int (τ 32 0)]) rfl ?_
    refine g_istore F (lv1 := [(5, .int (τ 32 0)), (0, .ref b), (1, .ref (ad 10 0)), (2, .ref (ad 0 0)), (3, .ref (ad 2 0)), (4, .int (nI i))]) dL_law_1432 (by decide) rfl ?_
    refine g_aload_n F 3 dL_law_1434 rfl rfl ?_
    refine la_arg F (jb := 1) (ji := 5) (j := 1) (v := 1) hX hbl hbA rfl rfl hL9 (by omega) (by decide) (by decide) dL_law_1435 dL_law_1436 dL_law_1438 dL_law_1439 dL_law_1440 ?_
    refine g_st (st1 := [.int (xs (i + 1)), .ref (ad1 0 0)]) (by rw [ha1.2.1]) ?_
    refine g_callVi F (C := RX6) (k := 0) (i := 0) (ci := 6) (T := TX6) (N := 33) (rest := []) [.int (xs (i + 1))] (hMet _ hM1) (cwV 1 F.1.2.2.2.2 gL_law_X6_pass rfl rfl rfl (by decide +kernel) ⟨Nat.le_of_ble_eq_true rfl, Nat.le_of_ble_eq_true rfl⟩) rfl hM1.1 rfl rfl rfl rfl (Nat.le_of_ble_eq_true rfl) dL_law_1441 (show cells + 100 + 0 ≤ room_1.cells ∧ slots + 4000 + 0 ≤ room_1.slots from hc) ?_
    exact la_tail F (n := n1) (tq := tq1) (σ := σ) (t := t) hM1 h21 ha1 he1 hcmp hc dL_law_1444 dL_law_1446 dL_law_1447 dL_law_1450 dL_law_1452 dL_law_1457 dL_law_1459 dL_law_1462 dL_law_1463 dL_law_1464 dL_law_1465 dL_law_1467 dL_law_1468 dL_law_1469 dL_law_1474 (by decide) (kk t1 τ ad1 dm1 _ ht1 ⟨n1, tq1, L1, c1, m1, e1, z1, x1, y1, k1, u1, w01, f91, hC1, hlo1, hM1, h21, ha1, hI1, he1, rfl⟩)
  · refine g_aload_n F 1 dL_law_1421 rfl rfl ?_
    refine la_arg F (jb := 0) (ji := 4) (j := 1) (v := 1) hX hbl hbA rfl rfl hL9 (by omega) (by decide) (by decide) dL_law_1422 dL_law_1423 dL_law_1425 dL_law_1426 dL_law_1427 ?_
    refine g_aload_n F 3 dL_law_1428 rfl rfl ?_
    refine q_callSW F (rest := []) [.ref (ad 10 0), .int (xs (i + 1)), .ref (ad 2 0)] (lh_pass (f9 := f9) l D A cs ad d9 (cw D ad cs σ Lx cap mk ev zl tx mt tn tc (mw ad cs σ w0)) (xs (i + 1)) (cc_passN l D A cs ad d9 σ Lx cap mk ev zl tx mt tn tc (mw ad cs σ w0) n tq hC (xs (i + 1)) hV hfl) hC.1 rfl (fun v ad1 dm1 w1 h => by obtain ⟨q, -⟩ := h; exact q.elim) (fun E h => h.1)) (vx_cwSW 3 F.1.2.2.2.2 gL_law_L_pass rfl rfl rfl (by decide +kernel) ⟨Nat.le_of_ble_eq_true rfl, Nat.le_of_ble_eq_true rfl⟩) rfl rfl (Nat.le_of_ble_eq_true rfl) dL_law_1429 ⟨Nat.le_trans (Nat.add_le_add_left (show 1 ≤ 100 by decide) cells) hc.1, Nat.le_trans (Nat.add_le_add_left (show 6 ≤ 4000 by decide) slots) hc.2⟩ (fun rz ad1 dm1 w1 hv => ?_)
    have hx : ∃ (τ : SG) (bb : Int32) (t1 : Nat), t1 ≤ t + 100 ∧ (∀ W : CF, MD dm1 → Met l yX6_pass wsX6_pass ({ frames := 4, cells := 0, slots := 0, locals := 97 }) (va_Pc [.ref (ad1 0 0), .int (xs (i + 1))] (PW D A (tysG cs) ad1 dm1 (mw ad1 cs σ W))) (va_Qi (fun r (_ : Unit) => r = bb) (fun _ t => PW D A (tysG cs) ad1 dm1 (mw ad1 cs τ W) t) A) 0 0 A) ∧ NX D cs (ad 10 0) (ad 0 0) (ad 2 0) t1 σ τ bb True rz ad1 dm1 w1 := by
      refine ⟨_, _, t, Nat.le_add_right _ _, fun W hM1 => (mc_passN l D A cs ad1 dm1 W σ (xs (i + 1)) n hM1 hn hn40 hV), ?_⟩
      rcases hv with ⟨v, w2, hp, rfl, rfl⟩ | ⟨hp, rfl, rfl, rfl, rfl⟩
      · exact hp.1.elim
      · have e1 : bi (¬ inR (xs (i + 1)) 1 100) = 1 := bi_t hV
        simp only [if_neg hV, e1]
        exact NX.thr hC hlo hM h2 hI he (by decide)
    obtain ⟨τ, bb, t1, ht1, hMet, n1, tq1, L1, c1, m1, e1, z1, x1, y1, k1, u1, w01, f91, hC1, hlo1, hM1, h21, ha1, hI1, he1, rfl, rfl, hcmp⟩ := hx
    refine g_widen (cells1 := cells + 100) (slots1 := slots + 4000) (Nat.add_le_add_left (by decide) _) (Nat.add_le_add_left (by decide) _) ?_
    refine g_st (st1 := [.int (τ 32 0)]) rfl ?_
    refine g_istore F (lv1 := [(5, .int (τ 32 0)), (0, .ref b), (1, .ref (ad 10 0)), (2, .ref (ad 0 0)), (3, .ref (ad 2 0)), (4, .int (nI i))]) dL_law_1432 (by decide) rfl ?_
    refine g_aload_n F 3 dL_law_1434 rfl rfl ?_
    refine la_arg F (jb := 1) (ji := 5) (j := 1) (v := 1) hX hbl hbA rfl rfl hL9 (by omega) (by decide) (by decide) dL_law_1435 dL_law_1436 dL_law_1438 dL_law_1439 dL_law_1440 ?_
    refine g_st (st1 := [.int (xs (i + 1)), .ref (ad1 0 0)]) (by rw [ha1.2.1]) ?_
    refine g_callVi F (C := RX6) (k := 0) (i := 0) (ci := 6) (T := TX6) (N := 33) (rest := []) [.int (xs (i + 1))] (hMet _ hM1) (cwV 1 F.1.2.2.2.2 gL_law_X6_pass rfl rfl rfl (by decide +kernel) ⟨Nat.le_of_ble_eq_true rfl, Nat.le_of_ble_eq_true rfl⟩) rfl hM1.1 rfl rfl rfl rfl (Nat.le_of_ble_eq_true rfl) dL_law_1441 (show cells + 100 + 0 ≤ room_1.cells ∧ slots + 4000 + 0 ≤ room_1.slots from hc) ?_
    exact la_tail F (n := n1) (tq := tq1) (σ := σ) (t := t) hM1 h21 ha1 he1 hcmp hc dL_law_1444 dL_law_1446 dL_law_1447 dL_law_1450 dL_law_1452 dL_law_1457 dL_law_1459 dL_law_1462 dL_law_1463 dL_law_1464 dL_law_1465 dL_law_1467 dL_law_1468 dL_law_1469 dL_law_1474 (by decide) (kk t1 τ ad1 dm1 _ ht1 ⟨n1, tq1, L1, c1, m1, e1, z1, x1, y1, k1, u1, w01, f91, hC1, hlo1, hM1, h21, ha1, hI1, he1, rfl⟩)
set_option maxHeartbeats 8000000 in
set_option maxRecDepth 100000 in
theorem op_submit {p : Program} {l : Launch} {e : Env} {s : State} {m : MethodId} {args : Array Value} {below : List Frame} {meth : Method} {c : Code} {cells slots : Nat} {Q : State → Prop} {D : va_G} {A : Nat → Prop} {cs : Nat → ClassId} {ad : Nat → Nat → Nat} {dm : Nat → Nat → Prop} (F : FX p s m args c cL_law 9 wsL_law RL D A (tysG cs)) {b L i x0 xm xo t : Nat} {xs : Nat → Int32} {σ : SG} {w : CF} (hX : va_X b L xs s s.heap) (hbl : b < s.heap.size) (hbA : ¬ A b) (hL9 : L ≤ 2560) (hi : i + 4 < L) (hfl : l.stackTraces = false) (ht : t < 900000) (hLI : LI D cs x0 xm xo t σ ad dm w) (hc : cells + 100 ≤ 601024 ∧ slots + 4000 ≤ 7293034) (kk : ∀ (t1 : Nat) (τ : SG) (ad1 : Nat → Nat → Nat) (dm1 : Nat → Nat → Prop) (w1 : CF), t1 ≤ t + 100 → LI D cs x0 xm xo t1 τ ad1 dm1 w1 → GG p l e room_1 s m args below meth c D A ad1 dm1 9 (cells + 100) (slots + 4000) Q w1 1645 [(0, .ref b), (1, .ref x0), (2, .ref xm), (3, .ref xo), (4, .int (nI i))] []) : GG p l e room_1 s m args below meth c D A ad dm 9 cells slots Q w 428 [(0, .ref b), (1, .ref x0), (2, .ref xm), (3, .ref xo), (4, .int (nI i))] [] := by
  obtain ⟨n, tq, Lx, cap, mk, ev, zl, tx, mt, tn, tc, w0, f9, hC0, hlo, hM0, h20, ⟨rfl, rfl, rfl⟩, hI, he, rfl⟩ := hLI
  refine g_forget (dm1 := rs9 dm n tq) (ad1 := ad) (w1 := mw ad cs σ (cw D ad cs σ Lx cap mk ev zl tx mt tn tc w0)) (fun k i q => q.1) (fun _ _ _ => rfl) (fun _ _ _ => rfl) ?_
  have hC := rs9_CD hC0
  have hM := rs9_MD hM0 n tq
  have hub := rs9_UB dm n tq
  have h2 : rs9 dm n tq 2 0 := ⟨h20, .inl (by decide)⟩
  generalize rs9 dm n tq = d9 at hC hM hub h2 ⊢
  refine g_w (mw_cw D ad ad cs σ σ Lx cap mk ev zl tx mt tn tc w0 (fun _ => rfl)) ?_
  have hn40 := hI.1
  have hn := hI.2.1
  have hLV := hI.2.2.1
  have hL : Lx 0 = List.range n := hLV.2.1.1.1
  have hQ : ∀ r, r < 6 → Lx (5 + r) = qf σ n r := hLV.2.1.1.2
  have hIC : IC n σ Lx := hLV.2.1.2.1
  have hmm : ∀ j, j < n → okM σ j := hLV.2.2.2.2
  have hmt := hI.hmt
  have heC : (cw D ad cs σ Lx cap mk ev zl tx mt tn tc (mw ad cs σ w0)) 2 0 = .inl (cs 2, 1, .inr (.inl f9)) := (cw_lo (by decide) 0).trans ((mw_rest ad cs σ w0 (by decide) 0).trans he)
  refine g_aload_n F 1 dL_law_428 rfl rfl ?_
  refine la_arg F (jb := 0) (ji := 4) (j := 1) (v := 1) hX hbl hbA rfl rfl hL9 (by omega) (by decide) (by decide) dL_law_429 dL_law_430 dL_law_432 dL_law_433 dL_law_434 ?_
  refine la_arg F (jb := 0) (ji := 4) (j := 2) (v := 2) hX hbl hbA rfl rfl hL9 (by omega) (by decide) (by decide) dL_law_435 dL_law_436 dL_law_438 dL_law_439 dL_law_440 ?_
  refine la_arg F (jb := 0) (ji := 4) (j := 3) (v := 3) hX hbl hbA rfl rfl hL9 (by omega) (by decide) (by decide) dL_law_441 dL_law_442 dL_law_444 dL_law_445 dL_law_446 ?_
  refine la_arg F (jb := 0) (ji := 4) (j := 4) (v := 4) hX hbl hbA rfl rfl hL9 (by omega) (by decide) (by decide) dL_law_447 dL_law_448 dL_law_450 dL_law_451 dL_law_452 ?_
  refine g_aload_n F 3 dL_law_453 rfl rfl ?_
  have hcA : (dqA n ((nwS σ σ (ix (xs (i + 1))) n (xs (i + 1)) (xs (i + 2)) (xs (i + 3)) (xs (i + 4))), (va_up (va_up Lx 0 (Lx 0 ++ [n])) (5 + (ix (xs (i + 2)))) ((va_up Lx 0 (Lx 0 ++ [n])) (5 + (ix (xs (i + 2)))) ++ [n])), (va_up ev n (fun _ => 0)), (va_up zl n 1))).2 + 10 ≤ 100 := by have := dqA_cost (j0 := n) (s := ((nwS σ σ (ix (xs (i + 1))) n (xs (i + 1)) (xs (i + 2)) (xs (i + 3)) (xs (i + 4))), (va_up (va_up Lx 0 (Lx 0 ++ [n])) (5 + (ix (xs (i + 2)))) ((va_up Lx 0 (Lx 0 ++ [n])) (5 + (ix (xs (i + 2)))) ++ [n])), (va_up ev n (fun _ => 0)), (va_up zl n 1))); omega
  have hcB : 60 * (dqA n ((nwS σ σ (ix (xs (i + 1))) n (xs (i + 1)) (xs (i + 2)) (xs (i + 3)) (xs (i + 4))), (va_up (va_up Lx 0 (Lx 0 ++ [n])) (5 + (ix (xs (i + 2)))) ((va_up Lx 0 (Lx 0 ++ [n])) (5 + (ix (xs (i + 2)))) ++ [n])), (va_up ev n (fun _ => 0)), (va_up zl n 1))).2 + 766 ≤ 4000 := by have := dqA_cost (j0 := n) (s := ((nwS σ σ (ix (xs (i + 1))) n (xs (i + 1)) (xs (i + 2)) (xs (i + 3)) (xs (i + 4))), (va_up (va_up Lx 0 (Lx 0 ++ [n])) (5 + (ix (xs (i + 2)))) ((va_up Lx 0 (Lx 0 ++ [n])) (5 + (ix (xs (i + 2)))) ++ [n])), (va_up ev n (fun _ => 0)), (va_up zl n 1))); omega
  have v5 : inR (xs (i + 4)) 1 500 → (xs (i + 4)) = nI (ix (xs (i + 4))) ∧ 1 ≤ ix (xs (i + 4)) ∧ ix (xs (i + 4)) ≤ 500 := fun q => by
    obtain ⟨b1, b2⟩ := ix_in (n := 500) rfl (show inR (xs (i + 4)) 0 500 from ⟨fun z => q.1 (Int32.lt_trans z (by decide)), q.2⟩)
    exact ⟨b1, Nat.pos_of_ne_zero (fun z => q.1 (by rw [b1, z]; decide)), by omega⟩
  have key := fun (hAR : accP (xs (i + 1)) ∧ recP (xs (i + 2))) (hB : inR (xs (i + 3)) 0 3 ∧ inR (xs (i + 4)) 1 500) (h4 : n < 40) => sub_new hI (show t < 2000000 by omega) h4 (ix_acc hAR.1).2 (ix_rec hAR.2).2 (rank := (xs (i + 3))) (v5 hB.2) 0
  have hz := hLV.2.1.2.2.1 n (Nat.le_refl _)
  have hK0 : accP (xs (i + 1)) ∧ recP (xs (i + 2)) → (if (accP (xs (i + 1)) ∧ recP (xs (i + 2))) then (knG σ (ix (xs (i + 1))) (xs (i + 1)) (xs (i + 2)) n) else (-1) : Int32) = ovN (knO σ (ix (xs (i + 1))) (ix (xs (i + 2))) n) := fun hAR => by
    have z := kn_eq (ix_acc hAR.1).2 (ix_rec hAR.2).2 n hmm
    rw [← (ix_acc hAR.1).1, ← (ix_rec hAR.2).1] at z
    rw [if_pos hAR]
    exact z
  have hT0 : accP (xs (i + 1)) → thF σ (ix (xs (i + 1))) (xs (i + 1)) n = thH σ (ix (xs (i + 1))) n := fun hA => by
    have z := th_eq (ix_acc hA).2 n hmm
    rw [← (ix_acc hA).1] at z
    exact z
  refine q_callSW F (rest := []) [.ref (ad 10 0), .int (xs (i + 1)), .int (xs (i + 2)), .int (xs (i + 3)), .int (xs (i + 4)), .ref (ad 2 0)] (lh_submit (f9 := f9) l D A cs ad d9 (cw D ad cs σ Lx cap mk ev zl tx mt tn tc (mw ad cs σ w0)) (xs (i + 1)) (xs (i + 2)) (xs (i + 3)) (xs (i + 4)) (cc_submit l D A cs ad d9 σ Lx cap mk ev zl tx mt tn tc (mw ad cs σ w0) n tq hC (xs (i + 1)) (xs (i + 2)) (xs (i + 3)) (xs (i + 4)) hn40 hL hlo hub (fun j hj => ⟨(hmm j hj).1.2, (hmm j hj).2.1.2⟩) (fun r hr => by rw [hQ r hr]; exact qf_len σ n r) (fun q => (hI.2.2.2.1 _ (ix_acc q).2).1.2.1) ⟨hz.1, hz.2.1, hz.2.2.1⟩ (fun x hx => hz.2.2.2 (2 - x) (by omega)) (fun hAR hB hk0 h4 k hk => by have z := key hAR hB h4; rw [← (ix_acc hAR.1).1, ← (ix_rec hAR.2).1] at z; unfold sbL at z; exact (z.1 k (by omega)).wok (by omega) z.2.2.hmt) hfl) hC.1 rfl (fun v ad1 dm1 w1 h => by obtain ⟨-, hd⟩ := h; rcases hd with ⟨j, -, rfl, rfl, rfl, rfl⟩ | ⟨-, -, -, rfl, q17, q18, q19, q20, g, d, cp, mq, rfl, rfl, -, -, rfl⟩; exact ⟨⟨_, rfl⟩, h2, rfl, (cw_lo (by decide) 0).trans ((mw_rest ad cs σ w0 (by decide) 0).trans he)⟩; exact ⟨⟨_, rfl⟩, by rw [r16_ne (by decide)]; exact .inl (.inl (.inl (.inl h2))), by rw [r16_ne (by decide), up2_k (by decide), up2_k (by decide), up2_k (by decide), up2_k (by decide)], (cw_lo (by decide) 0).trans ((mw_rest ad cs σ w0 (by decide) 0).trans he)⟩) (fun E h => h.elim (fun q => .inl q.1) (fun q => .inr (q.elim (fun q => .inl q.1) (fun q => .inr q.1))))) (vx_cwSW 6 F.1.2.2.2.2 gL_law_L_submit rfl rfl rfl (by decide +kernel) ⟨Nat.le_of_ble_eq_true rfl, Nat.le_of_ble_eq_true rfl⟩) rfl rfl (Nat.le_of_ble_eq_true rfl) dL_law_454 ⟨Nat.le_trans (Nat.add_le_add_left hcA cells) hc.1, Nat.le_trans (Nat.add_le_add_left hcB slots) hc.2⟩ (fun rz ad1 dm1 w1 hv => ?_)
  have hx : ∃ (τ : SG) (bb : Int32) (t1 : Nat), t1 ≤ t + 100 ∧ (∀ W : CF, MD dm1 → Met l yX6_submit wsX6_submit ({ frames := 2, cells := 0, slots := 0, locals := 42 }) (va_Pc [.ref (ad1 0 0), .int (xs (i + 1)), .int (xs (i + 2)), .int (xs (i + 3)), .int (xs (i + 4))] (PW D A (tysG cs) ad1 dm1 (mw ad1 cs σ W))) (va_Qi (fun r (_ : Unit) => r = bb) (fun _ t => PW D A (tysG cs) ad1 dm1 (mw ad1 cs τ W) t) A) 0 0 A) ∧ NX D cs (ad 10 0) (ad 0 0) (ad 2 0) t1 σ τ bb True rz ad1 dm1 w1 := by
    refine ⟨_, _, t, Nat.le_add_right _ _, fun W hM1 => (mc_submit l D A cs ad1 dm1 W σ (xs (i + 1)) (xs (i + 2)) (xs (i + 3)) (xs (i + 4)) n hM1 hn hn40 (fun q => (hI.2.2.2.1 _ (ix_acc q).2).1.1) (fun q => (hI.2.2.2.1 _ (ix_acc q).2).1.2.1) (sm_dl hI _ _ _ _ _ _)), ?_⟩
    generalize (if (accP (xs (i + 1)) ∧ recP (xs (i + 2))) then (knG σ (ix (xs (i + 1))) (xs (i + 1)) (xs (i + 2)) n) else (-1) : Int32) = K at hK0 ⊢
    rcases hv with ⟨v, w2, hp, rfl, rfl⟩ | ⟨hp, rfl, rfl, rfl, rfl⟩ | ⟨hp, rfl, rfl, rfl, rfl⟩ | ⟨hp, rfl, rfl, rfl, rfl⟩
    · obtain ⟨⟨hAR, hB⟩, hd⟩ := hp
      have eK := hK0 hAR
      rcases hd with ⟨j, hk, hr, rfl, rfl, rfl⟩ | ⟨hk, hth, h4, hr, q17, q18, q19, q20, g, d, cp, mq, rfl, rfl, hC1, hlo1, rfl⟩
      · rw [hk] at eK
        have hj := knO_lt hk
        have hne : ¬ K = (-1) := by rw [eK]; exact nI_n1 (by omega)
        have g9 : (((accP (xs (i + 1)) ∧ recP (xs (i + 2))) ∧ (inR (xs (i + 3)) 0 3 ∧ inR (xs (i + 4)) 1 500)) ∧ (K = (-1) → ((thF σ (ix (xs (i + 1))) (xs (i + 1)) n) < (σ 7 (ix (xs (i + 1)))) ∧ ¬ (nI n) = 40))) := ⟨⟨hAR, hB⟩, fun q => absurd q hne⟩
        simp only [if_pos g9, if_neg hne, if_pos hAR, if_pos hB]
        exact NX.good hC hlo hM h2 (fun _ _ _ => rfl) (hI.up 0) ((AG.id σ).upl n32 0 0) (up2_self _ _ _ _) ((Value.int.inj (Option.some.inj hr)).trans eK.symm)
      · rw [hk] at eK
        have hpo : K = (-1) := eK
        have h40 : ¬ (nI n) = 40 := fun q => by have := (nI_eqE (show nI n = nI n from rfl) (show (40 : Int32) = nI 40 by decide) (by omega) (by decide)).mp q; omega
        have ht9 : (thF σ (ix (xs (i + 1))) (xs (i + 1)) n) < (σ 7 (ix (xs (i + 1)))) := by rw [hT0 hAR.1]; exact hth
        have g9 : (((accP (xs (i + 1)) ∧ recP (xs (i + 2))) ∧ (inR (xs (i + 3)) 0 3 ∧ inR (xs (i + 4)) 1 500)) ∧ (K = (-1) → ((thF σ (ix (xs (i + 1))) (xs (i + 1)) n) < (σ 7 (ix (xs (i + 1)))) ∧ ¬ (nI n) = 40))) := ⟨⟨hAR, hB⟩, fun _ => ⟨ht9, h40⟩⟩
        have z := key hAR hB h4
        rw [← (ix_acc hAR.1).1, ← (ix_rec hAR.2).1] at z
        unfold sbL at z
        simp only [if_pos g9, if_pos hpo, if_pos hAR, if_pos hB, if_pos ht9, if_neg h40]
        refine NX.good hC1 hlo1 (r16_MD ⟨.inl (.inl (.inl (.inl hM.1))), fun f hf => .inl (.inl (.inl (.inl (hM.2 f hf))))⟩) (by rw [r16_ne (by decide)]; exact .inl (.inl (.inl (.inl h2)))) (fun k i hk => by rw [r16_ne (by omega), up2_k (by omega), up2_k (by omega), up2_k (by omega), up2_k (by omega)]) z.2.2 z.2.1 ?_ (Value.int.inj (Option.some.inj hr))
        unfold dlG
        split
        · rw [nwS_f (by omega), up2_self]
        · rw [dlF_o (by omega), nwS_f (by omega), up2_self]
    · rcases hp with ⟨-, q⟩ | ⟨q, -⟩ | ⟨q, -⟩
      · have g9 : ¬ (((accP (xs (i + 1)) ∧ recP (xs (i + 2))) ∧ (inR (xs (i + 3)) 0 3 ∧ inR (xs (i + 4)) 1 500)) ∧ (K = (-1) → ((thF σ (ix (xs (i + 1))) (xs (i + 1)) n) < (σ 7 (ix (xs (i + 1)))) ∧ ¬ (nI n) = 40))) := fun z => q z.1.1
        simp only [if_neg g9, if_neg q]
        exact NX.thr hC hlo hM h2 hI he (by decide)
      · exact absurd q (by decide)
      · exact absurd q (by decide)
    · rcases hp with ⟨q, -⟩ | ⟨-, q1, q2⟩ | ⟨q, -⟩
      · exact absurd q (by decide)
      · have g9 : ¬ (((accP (xs (i + 1)) ∧ recP (xs (i + 2))) ∧ (inR (xs (i + 3)) 0 3 ∧ inR (xs (i + 4)) 1 500)) ∧ (K = (-1) → ((thF σ (ix (xs (i + 1))) (xs (i + 1)) n) < (σ 7 (ix (xs (i + 1)))) ∧ ¬ (nI n) = 40))) := fun z => q2 z.1.2
        simp only [if_neg g9, if_pos q1, if_neg q2]
        exact NX.thr hC hlo hM h2 hI he (by decide)
      · exact absurd q (by decide)
    · rcases hp with ⟨q, -⟩ | ⟨q, -⟩ | ⟨-, q1, q2, q3, q4⟩
      · exact absurd q (by decide)
      · exact absurd q (by decide)
      · have eK := hK0 q1
        rw [q3] at eK
        have hpo : K = (-1) := eK
        have g9 : ¬ (((accP (xs (i + 1)) ∧ recP (xs (i + 2))) ∧ (inR (xs (i + 3)) 0 3 ∧ inR (xs (i + 4)) 1 500)) ∧ (K = (-1) → ((thF σ (ix (xs (i + 1))) (xs (i + 1)) n) < (σ 7 (ix (xs (i + 1)))) ∧ ¬ (nI n) = 40))) := fun z => by
          obtain ⟨z1, z2⟩ := z.2 hpo
          rw [hT0 q1.1] at z1
          rcases q4 with q4 | q4
          · exact q4 z1
          · exact z2 ((nI_eqE (show nI n = nI n from rfl) (show (40 : Int32) = nI 40 by decide) (by omega) (by decide)).mpr (by omega))
        have eX : (if (thF σ (ix (xs (i + 1))) (xs (i + 1)) n) < (σ 7 (ix (xs (i + 1)))) then (if (nI n) = 40 then 3 else 0) else 3 : Int32) = 3 := by
          rcases q4 with q4 | q4
          · rw [if_neg (by rw [hT0 q1.1]; exact q4)]
          · rw [if_pos ((nI_eqE (show nI n = nI n from rfl) (show (40 : Int32) = nI 40 by decide) (by omega) (by decide)).mpr (by omega))]
            split <;> rfl
        simp only [if_neg g9, if_pos q1, if_pos q2, if_pos hpo, eX]
        exact NX.thr hC hlo hM h2 hI he (by decide)
  obtain ⟨τ, bb, t1, ht1, hMet, n1, tq1, L1, c1, m1, e1, z1, x1, y1, k1, u1, w01, f91, hC1, hlo1, hM1, h21, ha1, hI1, he1, rfl, rfl, hcmp⟩ := hx
  refine g_widen (cells1 := cells + 100) (slots1 := slots + 4000) (Nat.add_le_add_left hcA _) (Nat.add_le_add_left hcB _) ?_
  refine g_st (st1 := [.int (τ 32 0)]) rfl ?_
  refine g_istore F (lv1 := [(5, .int (τ 32 0)), (0, .ref b), (1, .ref (ad 10 0)), (2, .ref (ad 0 0)), (3, .ref (ad 2 0)), (4, .int (nI i))]) dL_law_457 (by decide) rfl ?_
  refine g_aload_n F 3 dL_law_459 rfl rfl ?_
  refine la_arg F (jb := 1) (ji := 5) (j := 1) (v := 1) hX hbl hbA rfl rfl hL9 (by omega) (by decide) (by decide) dL_law_460 dL_law_461 dL_law_463 dL_law_464 dL_law_465 ?_
  refine la_arg F (jb := 1) (ji := 5) (j := 2) (v := 2) hX hbl hbA rfl rfl hL9 (by omega) (by decide) (by decide) dL_law_466 dL_law_467 dL_law_469 dL_law_470 dL_law_471 ?_
  refine la_arg F (jb := 1) (ji := 5) (j := 3) (v := 3) hX hbl hbA rfl rfl hL9 (by omega) (by decide) (by decide) dL_law_472 dL_law_473 dL_law_475 dL_law_476 dL_law_477 ?_
  refine la_arg F (jb := 1) (ji := 5) (j := 4) (v := 4) hX hbl hbA rfl rfl hL9 (by omega) (by decide) (by decide) dL_law_478 dL_law_479 dL_law_481 dL_law_482 dL_law_483 ?_
  refine g_st (st1 := [.int (xs (i + 4)), .int (xs (i + 3)), .int (xs (i + 2)), .int (xs (i + 1)), .ref (ad1 0 0)]) (by rw [ha1.2.1]) ?_
  refine g_callVi F (C := RX6) (k := 0) (i := 0) (ci := 6) (T := TX6) (N := 33) (rest := []) [.int (xs (i + 1)), .int (xs (i + 2)), .int (xs (i + 3)), .int (xs (i + 4))] (hMet _ hM1) (cwV 4 F.1.2.2.2.2 gL_law_X6_submit rfl rfl rfl (by decide +kernel) ⟨Nat.le_of_ble_eq_true rfl, Nat.le_of_ble_eq_true rfl⟩) rfl hM1.1 rfl rfl rfl rfl (Nat.le_of_ble_eq_true rfl) dL_law_484 (show cells + 100 + 0 ≤ room_1.cells ∧ slots + 4000 + 0 ≤ room_1.slots from hc) ?_
  exact la_tail F (n := n1) (tq := tq1) (σ := σ) (t := t) hM1 h21 ha1 he1 hcmp hc dL_law_487 dL_law_489 dL_law_490 dL_law_493 dL_law_495 dL_law_500 dL_law_502 dL_law_505 dL_law_506 dL_law_507 dL_law_508 dL_law_510 dL_law_511 dL_law_512 dL_law_517 (by decide) (kk t1 τ ad1 dm1 _ ht1 ⟨n1, tq1, L1, c1, m1, e1, z1, x1, y1, k1, u1, w01, f91, hC1, hlo1, hM1, h21, ha1, hI1, he1, rfl⟩)
