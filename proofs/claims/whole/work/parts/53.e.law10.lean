set_option maxHeartbeats 8000000 in
set_option maxRecDepth 100000 in
theorem op_messages {p : Program} {l : Launch} {e : Env} {s : State} {m : MethodId} {args : Array Value} {below : List Frame} {meth : Method} {c : Code} {cells slots : Nat} {Q : State → Prop} {D : va_G} {A : Nat → Prop} {cs : Nat → ClassId} {ad : Nat → Nat → Nat} {dm : Nat → Nat → Prop} (F : FX p s m args c cL_law 9 wsL_law RL D A (tysG cs)) {b L i x0 xm xo t : Nat} {xs : Nat → Int32} {σ : SG} {w : CF} (hX : va_X b L xs s s.heap) (hbl : b < s.heap.size) (hbA : ¬ A b) (hL9 : L ≤ 2560) (hi : i + 4 < L) (hfl : l.stackTraces = false) (ht : t < 900000) (hLI : LI D cs x0 xm xo t σ ad dm w) (hc : cells + 100 ≤ 601024 ∧ slots + 4000 ≤ 7293034) (kk : ∀ (t1 : Nat) (τ : SG) (ad1 : Nat → Nat → Nat) (dm1 : Nat → Nat → Prop) (w1 : CF), t1 ≤ t + 100 → LI D cs x0 xm xo t1 τ ad1 dm1 w1 → GG p l e room_1 s m args below meth c D A ad1 dm1 9 (cells + 100) (slots + 4000) Q w1 1645 [(0, .ref b), (1, .ref x0), (2, .ref xm), (3, .ref xo), (4, .int (nI i))] []) : GG p l e room_1 s m args below meth c D A ad dm 9 cells slots Q w 576 [(0, .ref b), (1, .ref x0), (2, .ref xm), (3, .ref xo), (4, .int (nI i))] [] := by
  obtain ⟨n, tq, Lx, cap, mk, ev, zl, tx, mt, tn, tc, w0, f9, hC0, hlo, hM0, h20, ⟨rfl, rfl, rfl⟩, hI, he, rfl⟩ := hLI
  refine g_forget (dm1 := rs9 dm n tq) (ad1 := ad) (w1 := mw ad cs σ (cw D ad cs σ Lx cap mk ev zl tx mt tn tc w0)) (fun k i q => q.1) (fun _ _ _ => rfl) (fun _ _ _ => rfl) ?_
  have hC := rs9_CD hC0
  have hM := rs9_MD hM0 n tq
  have hub := rs9_UB dm n tq
  have h2 : rs9 dm n tq 2 0 := ⟨h20, .inl (by decide)⟩
  generalize rs9 dm n tq = d9 at hC hM hub h2 ⊢
  refine g_w (mw_cw D ad ad cs σ σ Lx cap mk ev zl tx mt tn tc w0 (fun _ => rfl)) ?_
  have hn40 := hI.1
  have hn := hI.2.1
  have hLV := hI.2.2.1
  have hL : Lx 0 = List.range n := hLV.2.1.1.1
  have hQ : ∀ r, r < 6 → Lx (5 + r) = qf σ n r := hLV.2.1.1.2
  have hIC : IC n σ Lx := hLV.2.1.2.1
  have hmm : ∀ j, j < n → okM σ j := hLV.2.2.2.2
  have hmt := hI.hmt
  have heC : (cw D ad cs σ Lx cap mk ev zl tx mt tn tc (mw ad cs σ w0)) 2 0 = .inl (cs 2, 1, .inr (.inl f9)) := (cw_lo (by decide) 0).trans ((mw_rest ad cs σ w0 (by decide) 0).trans he)
  refine g_aload_n F 1 dL_law_576 rfl rfl ?_
  refine q_callV F (C := RX5) (k := 10) (i := 0) (ci := 5) (T := TX5) (N := 4) (rest := []) [] (cc_messages l D A cs ad d9 σ Lx cap mk ev zl tx mt tn tc (mw ad cs σ w0) n tq hC hn40 hL hlo) (cwV 0 F.1.2.2.2.2 gL_law_X5_messages rfl rfl rfl (by decide +kernel) ⟨Nat.le_of_ble_eq_true rfl, Nat.le_of_ble_eq_true rfl⟩) rfl hC.1 rfl rfl rfl rfl (Nat.le_of_ble_eq_true rfl) dL_law_577 (show cells + 0 ≤ room_1.cells ∧ slots + 0 ≤ room_1.slots from ⟨Nat.le_trans (Nat.add_le_add_left (Nat.zero_le 100) cells) hc.1, Nat.le_trans (Nat.add_le_add_left (Nat.zero_le 4000) slots) hc.2⟩) (fun rz ad1 dm1 w1 hv => ?_)
  obtain ⟨rfl, rfl, rfl, rfl⟩ := hv
  have k9 : GG p l e room_1 s m args below meth c D A ad d9 9 cells slots Q (mw ad cs (up2 σ 32 0 0) (cw D ad cs σ Lx cap mk ev zl tx mt tn tc w0)) 1645 [(0, .ref b), (1, .ref (ad 10 0)), (2, .ref (ad 0 0)), (3, .ref (ad 2 0)), (4, .int (nI i))] [] := by
    refine g_w (w1 := mw ad cs (up2 σ 32 0 0) (cw D ad cs (up2 σ 32 0 0) Lx cap mk ev zl tx mt tn tc w0)) (by rw [AG_cw ((AG.id σ).upl n32 0 0 : AG (up2 σ 32 0 0) σ)]) ?_
    refine g_widen (cells1 := cells + 100) (slots1 := slots + 4000) (Nat.le_add_right _ _) (Nat.le_add_right _ _) ?_
    exact kk t (up2 σ 32 0 0) ad d9 _ (Nat.le_add_right _ _) ⟨n, tq, Lx, cap, mk, ev, zl, tx, mt, tn, tc, w0, f9, hC, hlo, hM, h2, ⟨rfl, rfl, rfl⟩, hI.up 0, he, rfl⟩
  refine g_w (mw_cw D ad ad cs σ σ Lx cap mk ev zl tx mt tn tc w0 (fun _ => rfl)).symm ?_
  refine g_st (st1 := [.int (nI n)]) rfl ?_
  refine g_aload_n F 2 dL_law_580 rfl rfl ?_
  refine g_callVi F (C := RX6) (k := 0) (i := 0) (ci := 6) (T := TX6) (N := 33) (rest := [.int (nI n)]) [] (mc_messages l D A cs ad d9 _ σ hM) (cwV 0 F.1.2.2.2.2 gL_law_X6_messages rfl rfl rfl (by decide +kernel) ⟨Nat.le_of_ble_eq_true rfl, Nat.le_of_ble_eq_true rfl⟩) rfl hM.1 rfl rfl rfl rfl (Nat.le_of_ble_eq_true rfl) dL_law_581 (show cells + 0 ≤ room_1.cells ∧ slots + 0 ≤ room_1.slots from ⟨Nat.le_trans (Nat.add_le_add_left (Nat.zero_le 100) cells) hc.1, Nat.le_trans (Nat.add_le_add_left (Nat.zero_le 4000) slots) hc.2⟩) ?_
  exact g_icmp_eq F (tgt := 1645) dL_law_584 (by decide) (fun _ => k9) (fun q => absurd hn.symm q)
set_option maxHeartbeats 8000000 in
set_option maxRecDepth 100000 in
theorem op_now {p : Program} {l : Launch} {e : Env} {s : State} {m : MethodId} {args : Array Value} {below : List Frame} {meth : Method} {c : Code} {cells slots : Nat} {Q : State → Prop} {D : va_G} {A : Nat → Prop} {cs : Nat → ClassId} {ad : Nat → Nat → Nat} {dm : Nat → Nat → Prop} (F : FX p s m args c cL_law 9 wsL_law RL D A (tysG cs)) {b L i x0 xm xo t : Nat} {xs : Nat → Int32} {σ : SG} {w : CF} (hX : va_X b L xs s s.heap) (hbl : b < s.heap.size) (hbA : ¬ A b) (hL9 : L ≤ 2560) (hi : i + 4 < L) (hfl : l.stackTraces = false) (ht : t < 900000) (hLI : LI D cs x0 xm xo t σ ad dm w) (hc : cells + 100 ≤ 601024 ∧ slots + 4000 ≤ 7293034) (kk : ∀ (t1 : Nat) (τ : SG) (ad1 : Nat → Nat → Nat) (dm1 : Nat → Nat → Prop) (w1 : CF), t1 ≤ t + 100 → LI D cs x0 xm xo t1 τ ad1 dm1 w1 → GG p l e room_1 s m args below meth c D A ad1 dm1 9 (cells + 100) (slots + 4000) Q w1 1645 [(0, .ref b), (1, .ref x0), (2, .ref xm), (3, .ref xo), (4, .int (nI i))] []) : GG p l e room_1 s m args below meth c D A ad dm 9 cells slots Q w 1477 [(0, .ref b), (1, .ref x0), (2, .ref xm), (3, .ref xo), (4, .int (nI i))] [] := by
  obtain ⟨n, tq, Lx, cap, mk, ev, zl, tx, mt, tn, tc, w0, f9, hC0, hlo, hM0, h20, ⟨rfl, rfl, rfl⟩, hI, he, rfl⟩ := hLI
  refine g_forget (dm1 := rs9 dm n tq) (ad1 := ad) (w1 := mw ad cs σ (cw D ad cs σ Lx cap mk ev zl tx mt tn tc w0)) (fun k i q => q.1) (fun _ _ _ => rfl) (fun _ _ _ => rfl) ?_
  have hC := rs9_CD hC0
  have hM := rs9_MD hM0 n tq
  have hub := rs9_UB dm n tq
  have h2 : rs9 dm n tq 2 0 := ⟨h20, .inl (by decide)⟩
  generalize rs9 dm n tq = d9 at hC hM hub h2 ⊢
  refine g_w (mw_cw D ad ad cs σ σ Lx cap mk ev zl tx mt tn tc w0 (fun _ => rfl)) ?_
  have hn40 := hI.1
  have hn := hI.2.1
  have hLV := hI.2.2.1
  have hL : Lx 0 = List.range n := hLV.2.1.1.1
  have hQ : ∀ r, r < 6 → Lx (5 + r) = qf σ n r := hLV.2.1.1.2
  have hIC : IC n σ Lx := hLV.2.1.2.1
  have hmm : ∀ j, j < n → okM σ j := hLV.2.2.2.2
  have hmt := hI.hmt
  have heC : (cw D ad cs σ Lx cap mk ev zl tx mt tn tc (mw ad cs σ w0)) 2 0 = .inl (cs 2, 1, .inr (.inl f9)) := (cw_lo (by decide) 0).trans ((mw_rest ad cs σ w0 (by decide) 0).trans he)
  refine g_aload_n F 1 dL_law_1477 rfl rfl ?_
  refine q_callV F (C := RX5) (k := 10) (i := 0) (ci := 5) (T := TX5) (N := 4) (rest := []) [] (cc_now l D A cs ad d9 σ Lx cap mk ev zl tx mt tn tc (mw ad cs σ w0) n tq hC ) (cwV 0 F.1.2.2.2.2 gL_law_X5_now rfl rfl rfl (by decide +kernel) ⟨Nat.le_of_ble_eq_true rfl, Nat.le_of_ble_eq_true rfl⟩) rfl hC.1 rfl rfl rfl rfl (Nat.le_of_ble_eq_true rfl) dL_law_1478 (show cells + 0 ≤ room_1.cells ∧ slots + 0 ≤ room_1.slots from ⟨Nat.le_trans (Nat.add_le_add_left (Nat.zero_le 100) cells) hc.1, Nat.le_trans (Nat.add_le_add_left (Nat.zero_le 4000) slots) hc.2⟩) (fun rz ad1 dm1 w1 hv => ?_)
  obtain ⟨rfl, rfl, rfl, rfl⟩ := hv
  have k9 : GG p l e room_1 s m args below meth c D A ad d9 9 cells slots Q (mw ad cs (up2 σ 32 0 0) (cw D ad cs σ Lx cap mk ev zl tx mt tn tc w0)) 1645 [(0, .ref b), (1, .ref (ad 10 0)), (2, .ref (ad 0 0)), (3, .ref (ad 2 0)), (4, .int (nI i))] [] := by
    refine g_w (w1 := mw ad cs (up2 σ 32 0 0) (cw D ad cs (up2 σ 32 0 0) Lx cap mk ev zl tx mt tn tc w0)) (by rw [AG_cw ((AG.id σ).upl n32 0 0 : AG (up2 σ 32 0 0) σ)]) ?_
    refine g_widen (cells1 := cells + 100) (slots1 := slots + 4000) (Nat.le_add_right _ _) (Nat.le_add_right _ _) ?_
    exact kk t (up2 σ 32 0 0) ad d9 _ (Nat.le_add_right _ _) ⟨n, tq, Lx, cap, mk, ev, zl, tx, mt, tn, tc, w0, f9, hC, hlo, hM, h2, ⟨rfl, rfl, rfl⟩, hI.up 0, he, rfl⟩
  refine g_w (mw_cw D ad ad cs σ σ Lx cap mk ev zl tx mt tn tc w0 (fun _ => rfl)).symm ?_
  refine g_st (st1 := [.int (σ 0 0)]) rfl ?_
  refine g_aload_n F 2 dL_law_1481 rfl rfl ?_
  refine g_callVi F (C := RX6) (k := 0) (i := 0) (ci := 6) (T := TX6) (N := 33) (rest := [.int (σ 0 0)]) [] (mc_now l D A cs ad d9 _ σ hM) (cwV 0 F.1.2.2.2.2 gL_law_X6_now rfl rfl rfl (by decide +kernel) ⟨Nat.le_of_ble_eq_true rfl, Nat.le_of_ble_eq_true rfl⟩) rfl hM.1 rfl rfl rfl rfl (Nat.le_of_ble_eq_true rfl) dL_law_1482 (show cells + 0 ≤ room_1.cells ∧ slots + 0 ≤ room_1.slots from ⟨Nat.le_trans (Nat.add_le_add_left (Nat.zero_le 100) cells) hc.1, Nat.le_trans (Nat.add_le_add_left (Nat.zero_le 4000) slots) hc.2⟩) ?_
  exact g_icmp_eq F (tgt := 1645) dL_law_1485 (by decide) (fun _ => k9) (fun q => absurd rfl q)
set_option maxHeartbeats 8000000 in
set_option maxRecDepth 100000 in
theorem op_share {p : Program} {l : Launch} {e : Env} {s : State} {m : MethodId} {args : Array Value} {below : List Frame} {meth : Method} {c : Code} {cells slots : Nat} {Q : State → Prop} {D : va_G} {A : Nat → Prop} {cs : Nat → ClassId} {ad : Nat → Nat → Nat} {dm : Nat → Nat → Prop} (F : FX p s m args c cL_law 9 wsL_law RL D A (tysG cs)) {b L i x0 xm xo t : Nat} {xs : Nat → Int32} {σ : SG} {w : CF} (hX : va_X b L xs s s.heap) (hbl : b < s.heap.size) (hbA : ¬ A b) (hL9 : L ≤ 2560) (hi : i + 4 < L) (hfl : l.stackTraces = false) (ht : t < 900000) (hLI : LI D cs x0 xm xo t σ ad dm w) (hc : cells + 100 ≤ 601024 ∧ slots + 4000 ≤ 7293034) (kk : ∀ (t1 : Nat) (τ : SG) (ad1 : Nat → Nat → Nat) (dm1 : Nat → Nat → Prop) (w1 : CF), t1 ≤ t + 100 → LI D cs x0 xm xo t1 τ ad1 dm1 w1 → GG p l e room_1 s m args below meth c D A ad1 dm1 9 (cells + 100) (slots + 4000) Q w1 1645 [(0, .ref b), (1, .ref x0), (2, .ref xm), (3, .ref xo), (4, .int (nI i))] []) : GG p l e room_1 s m args below meth c D A ad dm 9 cells slots Q w 1602 [(0, .ref b), (1, .ref x0), (2, .ref xm), (3, .ref xo), (4, .int (nI i))] [] := by
  obtain ⟨n, tq, Lx, cap, mk, ev, zl, tx, mt, tn, tc, w0, f9, hC0, hlo, hM0, h20, ⟨rfl, rfl, rfl⟩, hI, he, rfl⟩ := hLI
  refine g_forget (dm1 := rs9 dm n tq) (ad1 := ad) (w1 := mw ad cs σ (cw D ad cs σ Lx cap mk ev zl tx mt tn tc w0)) (fun k i q => q.1) (fun _ _ _ => rfl) (fun _ _ _ => rfl) ?_
  have hC := rs9_CD hC0
  have hM := rs9_MD hM0 n tq
  have hub := rs9_UB dm n tq
  have h2 : rs9 dm n tq 2 0 := ⟨h20, .inl (by decide)⟩
  generalize rs9 dm n tq = d9 at hC hM hub h2 ⊢
  refine g_w (mw_cw D ad ad cs σ σ Lx cap mk ev zl tx mt tn tc w0 (fun _ => rfl)) ?_
  have hn40 := hI.1
  have hn := hI.2.1
  have hLV := hI.2.2.1
  have hL : Lx 0 = List.range n := hLV.2.1.1.1
  have hQ : ∀ r, r < 6 → Lx (5 + r) = qf σ n r := hLV.2.1.1.2
  have hIC : IC n σ Lx := hLV.2.1.2.1
  have hmm : ∀ j, j < n → okM σ j := hLV.2.2.2.2
  have hmt := hI.hmt
  have heC : (cw D ad cs σ Lx cap mk ev zl tx mt tn tc (mw ad cs σ w0)) 2 0 = .inl (cs 2, 1, .inr (.inl f9)) := (cw_lo (by decide) 0).trans ((mw_rest ad cs σ w0 (by decide) 0).trans he)
  refine g_aload_n F 1 dL_law_1602 rfl rfl ?_
  refine q_callV F (C := RX5) (k := 10) (i := 0) (ci := 5) (T := TX5) (N := 4) (rest := []) [] (cc_share l D A cs ad d9 σ Lx cap mk ev zl tx mt tn tc (mw ad cs σ w0) n tq hC hn40 hL hlo) (cwV 0 F.1.2.2.2.2 gL_law_X5_share rfl rfl rfl (by decide +kernel) ⟨Nat.le_of_ble_eq_true rfl, Nat.le_of_ble_eq_true rfl⟩) rfl hC.1 rfl rfl rfl rfl (Nat.le_of_ble_eq_true rfl) dL_law_1603 (show cells + 0 ≤ room_1.cells ∧ slots + 0 ≤ room_1.slots from ⟨Nat.le_trans (Nat.add_le_add_left (Nat.zero_le 100) cells) hc.1, Nat.le_trans (Nat.add_le_add_left (Nat.zero_le 4000) slots) hc.2⟩) (fun rz ad1 dm1 w1 hv => ?_)
  obtain ⟨rfl, rfl, rfl, rfl⟩ := hv
  have k9 : GG p l e room_1 s m args below meth c D A ad d9 9 cells slots Q (mw ad cs (up2 σ 32 0 0) (cw D ad cs σ Lx cap mk ev zl tx mt tn tc w0)) 1645 [(0, .ref b), (1, .ref (ad 10 0)), (2, .ref (ad 0 0)), (3, .ref (ad 2 0)), (4, .int (nI i))] [] := by
    refine g_w (w1 := mw ad cs (up2 σ 32 0 0) (cw D ad cs (up2 σ 32 0 0) Lx cap mk ev zl tx mt tn tc w0)) (by rw [AG_cw ((AG.id σ).upl n32 0 0 : AG (up2 σ 32 0 0) σ)]) ?_
    refine g_widen (cells1 := cells + 100) (slots1 := slots + 4000) (Nat.le_add_right _ _) (Nat.le_add_right _ _) ?_
    exact kk t (up2 σ 32 0 0) ad d9 _ (Nat.le_add_right _ _) ⟨n, tq, Lx, cap, mk, ev, zl, tx, mt, tn, tc, w0, f9, hC, hlo, hM, h2, ⟨rfl, rfl, rfl⟩, hI.up 0, he, rfl⟩
  obtain ⟨g1, g2⟩ := sh_dbl (ed_le σ n hn40).1 (ed_le σ n hn40).2
  refine g_w (mw_cw D ad ad cs σ σ Lx cap mk ev zl tx mt tn tc w0 (fun _ => rfl)).symm ?_
  refine g_st (st1 := [.float (shV (dvN σ n) (edN σ n))]) rfl ?_
  refine g_f2d F dL_law_1606 g1 ?_
  refine g_dstore F (lv1 := (5, .double (FP.f2d (shV (dvN σ n) (edN σ n)))) :: [(0, .ref b), (1, .ref (ad 10 0)), (2, .ref (ad 0 0)), (3, .ref (ad 2 0)), (4, .int (nI i))]) dL_law_1607 (by decide) rfl ?_
  refine g_aload_n F 3 dL_law_1609 rfl rfl ?_
  refine q_callV F (C := RX6) (k := 0) (i := 0) (ci := 6) (T := TX6) (N := 33) (rest := []) [] (mc_share l D A cs ad d9 _ σ n hM hn hn40) (cwV 0 F.1.2.2.2.2 gL_law_X6_share rfl rfl rfl (by decide +kernel) ⟨Nat.le_of_ble_eq_true rfl, Nat.le_of_ble_eq_true rfl⟩) rfl hM.1 rfl rfl rfl rfl (Nat.le_of_ble_eq_true rfl) dL_law_1610 (show cells + 0 ≤ room_1.cells ∧ slots + 0 ≤ room_1.slots from ⟨Nat.le_trans (Nat.add_le_add_left (Nat.zero_le 100) cells) hc.1, Nat.le_trans (Nat.add_le_add_left (Nat.zero_le 4000) slots) hc.2⟩) (fun rz ad1 dm1 w1 hv => ?_)
  obtain ⟨rfl, rfl, rfl, rfl⟩ := hv
  refine g_st (st1 := [.float (shV (dvN σ n) (edN σ n))]) rfl ?_
  refine g_f2d F dL_law_1613 g1 ?_
  refine g_dstore F (lv1 := (7, .double (FP.f2d (shV (dvN σ n) (edN σ n)))) :: (5, .double (FP.f2d (shV (dvN σ n) (edN σ n)))) :: [(0, .ref b), (1, .ref (ad 10 0)), (2, .ref (ad 0 0)), (3, .ref (ad 2 0)), (4, .int (nI i))]) dL_law_1614 (by decide) rfl ?_
  refine g_dload F 1 dL_law_1616 rfl ?_
  refine g_dload F 0 dL_law_1618 rfl ?_
  refine g_dcmp F dL_law_1620 ?_
  refine g_if_eq F (tgt := 1642) dL_law_1621 (by decide) (fun _ => ?_) (fun q => absurd g2 q)
  refine g_goto F (tgt := 1645) dL_law_1642 (by decide) ?_
  exact g_lv [2, 3, 4, 5, 6] rfl k9
