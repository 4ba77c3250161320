set_option maxHeartbeats 8000000 in
set_option maxRecDepth 100000 in
theorem op_state {p : Program} {l : Launch} {e : Env} {s : State} {m : MethodId} {args : Array Value} {below : List Frame} {meth : Method} {c : Code} {cells slots : Nat} {Q : State → Prop} {D : va_G} {A : Nat → Prop} {cs : Nat → ClassId} {ad : Nat → Nat → Nat} {dm : Nat → Nat → Prop} (F : FX p s m args c cL_law 9 wsL_law RL D A (tysG cs)) {b L i x0 xm xo t : Nat} {xs : Nat → Int32} {σ : SG} {w : CF} (hX : va_X b L xs s s.heap) (hbl : b < s.heap.size) (hbA : ¬ A b) (hL9 : L ≤ 2560) (hi : i + 4 < L) (hfl : l.stackTraces = false) (ht : t < 900000) (hLI : LI D cs x0 xm xo t σ ad dm w) (hc : cells + 100 ≤ 601024 ∧ slots + 4000 ≤ 7293034) (kk : ∀ (t1 : Nat) (τ : SG) (ad1 : Nat → Nat → Nat) (dm1 : Nat → Nat → Prop) (w1 : CF), t1 ≤ t + 100 → LI D cs x0 xm xo t1 τ ad1 dm1 w1 → GG p l e room_1 s m args below meth c D A ad1 dm1 9 (cells + 100) (slots + 4000) Q w1 1645 [(0, .ref b), (1, .ref x0), (2, .ref xm), (3, .ref xo), (4, .int (nI i))] []) : GG p l e room_1 s m args below meth c D A ad dm 9 cells slots Q w 589 [(0, .ref b), (1, .ref x0), (2, .ref xm), (3, .ref xo), (4, .int (nI i))] [] := by
  obtain ⟨n, tq, Lx, cap, mk, ev, zl, tx, mt, tn, tc, w0, f9, hC0, hlo, hM0, h20, ⟨rfl, rfl, rfl⟩, hI, he, rfl⟩ := hLI
  refine g_forget (dm1 := rs9 dm n tq) (ad1 := ad) (w1 := mw ad cs σ (cw D ad cs σ Lx cap mk ev zl tx mt tn tc w0)) (fun k i q => q.1) (fun _ _ _ => rfl) (fun _ _ _ => rfl) ?_
  have hC := rs9_CD hC0
  have hM := rs9_MD hM0 n tq
  have hub := rs9_UB dm n tq
  have h2 : rs9 dm n tq 2 0 := ⟨h20, .inl (by decide)⟩
  generalize rs9 dm n tq = d9 at hC hM hub h2 ⊢
  refine g_w (mw_cw D ad ad cs σ σ Lx cap mk ev zl tx mt tn tc w0 (fun _ => rfl)) ?_
  have hn40 := hI.1
  have hn := hI.2.1
  have hLV := hI.2.2.1
  have hL : Lx 0 = List.range n := hLV.2.1.1.1
  have hQ : ∀ r, r < 6 → Lx (5 + r) = qf σ n r := hLV.2.1.1.2
  have hIC : IC n σ Lx := hLV.2.1.2.1
  have hmm : ∀ j, j < n → okM σ j := hLV.2.2.2.2
  have hmt := hI.hmt
  have heC : (cw D ad cs σ Lx cap mk ev zl tx mt tn tc (mw ad cs σ w0)) 2 0 = .inl (cs 2, 1, .inr (.inl f9)) := (cw_lo (by decide) 0).trans ((mw_rest ad cs σ w0 (by decide) 0).trans he)
  refine g_aload_n F 1 dL_law_589 rfl rfl ?_
  refine la_arg F (jb := 0) (ji := 4) (j := 1) (v := 1) hX hbl hbA rfl rfl hL9 (by omega) (by decide) (by decide) dL_law_590 dL_law_591 dL_law_593 dL_law_594 dL_law_595 ?_
  refine g_aload_n F 3 dL_law_596 rfl rfl ?_
  refine q_callSW F (rest := []) [.ref (ad 10 0), .int (xs (i + 1)), .ref (ad 2 0)] (lh_state l D A cs ad d9 (cw D ad cs σ Lx cap mk ev zl tx mt tn tc (mw ad cs σ w0)) (xs (i + 1)) (cc_state l D A cs ad d9 σ Lx cap mk ev zl tx mt tn tc (mw ad cs σ w0) n tq hC (xs (i + 1)) hn40 hL hlo hfl) hC.1 rfl (fun v ad1 dm1 w1 h => by obtain ⟨-, rfl, rfl, rfl, rfl⟩ := h; exact ⟨⟨_, rfl⟩, h2, rfl, (cw_lo (by decide) 0).trans ((mw_rest ad cs σ w0 (by decide) 0).trans he)⟩) (fun E h => h.1)) (vx_cwSW 3 F.1.2.2.2.2 gL_law_L_state rfl rfl rfl (by decide +kernel) ⟨Nat.le_of_ble_eq_true rfl, Nat.le_of_ble_eq_true rfl⟩) rfl rfl (Nat.le_of_ble_eq_true rfl) dL_law_597 ⟨Nat.le_trans (Nat.add_le_add_left (show 1 ≤ 100 by decide) cells) hc.1, Nat.le_trans (Nat.add_le_add_left (show 6 ≤ 4000 by decide) slots) hc.2⟩ (fun rz ad1 dm1 w1 hv => ?_)
  have hx : ∃ (τ : SG) (bb : Int32) (t1 : Nat), t1 ≤ t + 100 ∧ (∀ W : CF, MD dm1 → Met l yX6_state wsX6_state ({ frames := 3, cells := 0, slots := 0, locals := 65 }) (va_Pc [.ref (ad1 0 0), .int (xs (i + 1))] (PW D A (tysG cs) ad1 dm1 (mw ad1 cs σ W))) (va_Qi (fun r (_ : Unit) => r = bb) (fun _ t => PW D A (tysG cs) ad1 dm1 (mw ad1 cs τ W) t) A) 0 0 A) ∧ NX D cs (ad 10 0) (ad 0 0) (ad 2 0) t1 σ τ bb True rz ad1 dm1 w1 := by
    refine ⟨_, _, t, Nat.le_add_right _ _, fun W hM1 => (mc_state l D A cs ad1 dm1 W σ (xs (i + 1)) n hM1 hn hn40), ?_⟩
    rcases hv with ⟨v, w2, hp, rfl, rfl⟩ | ⟨hp, rfl, rfl, rfl, rfl⟩
    · obtain ⟨hP, hr, rfl, rfl, rfl⟩ := hp
      have hP1 : inR (xs (i + 1)) 0 ((σ 11 0) - 1) := (by rw [hn]; exact hP)
      have e0 : bi (¬ inR (xs (i + 1)) 0 ((σ 11 0) - 1)) = 0 := bi_f (fun q => q hP1)
      simp only [if_pos hP1, e0]
      exact NX.good hC hlo hM h2 (fun _ _ _ => rfl) (hI.up 0) ((AG.id σ).upl n32 0 0) (up2_self _ _ _ _) ((Value.int.inj (Option.some.inj hr)).trans rfl)
    · have hP1 : ¬ inR (xs (i + 1)) 0 ((σ 11 0) - 1) := fun q => hp.2 (by rw [hn] at q; exact q)
      have e1 : bi (¬ inR (xs (i + 1)) 0 ((σ 11 0) - 1)) = 1 := bi_t hP1
      simp only [if_neg hP1, e1]
      exact NX.thr hC hlo hM h2 hI he (by decide)
  obtain ⟨τ, bb, t1, ht1, hMet, n1, tq1, L1, c1, m1, e1, z1, x1, y1, k1, u1, w01, f91, hC1, hlo1, hM1, h21, ha1, hI1, he1, rfl, rfl, hcmp⟩ := hx
  refine g_widen (cells1 := cells + 100) (slots1 := slots + 4000) (Nat.add_le_add_left (by decide) _) (Nat.add_le_add_left (by decide) _) ?_
  refine g_st (st1 := [.int (τ 32 0)]) rfl ?_
  refine g_istore F (lv1 := [(5, .int (τ 32 0)), (0, .ref b), (1, .ref (ad 10 0)), (2, .ref (ad 0 0)), (3, .ref (ad 2 0)), (4, .int (nI i))]) dL_law_600 (by decide) rfl ?_
  refine g_aload_n F 3 dL_law_602 rfl rfl ?_
  refine la_arg F (jb := 1) (ji := 5) (j := 1) (v := 1) hX hbl hbA rfl rfl hL9 (by omega) (by decide) (by decide) dL_law_603 dL_law_604 dL_law_606 dL_law_607 dL_law_608 ?_
  refine g_st (st1 := [.int (xs (i + 1)), .ref (ad1 0 0)]) (by rw [ha1.2.1]) ?_
  refine g_callVi F (C := RX6) (k := 0) (i := 0) (ci := 6) (T := TX6) (N := 33) (rest := []) [.int (xs (i + 1))] (hMet _ hM1) (cwV 1 F.1.2.2.2.2 gL_law_X6_state rfl rfl rfl (by decide +kernel) ⟨Nat.le_of_ble_eq_true rfl, Nat.le_of_ble_eq_true rfl⟩) rfl hM1.1 rfl rfl rfl rfl (Nat.le_of_ble_eq_true rfl) dL_law_609 (show cells + 100 + 0 ≤ room_1.cells ∧ slots + 4000 + 0 ≤ room_1.slots from hc) ?_
  exact la_tail F (n := n1) (tq := tq1) (σ := σ) (t := t) hM1 h21 ha1 he1 hcmp hc dL_law_612 dL_law_614 dL_law_615 dL_law_618 dL_law_620 dL_law_625 dL_law_627 dL_law_630 dL_law_631 dL_law_632 dL_law_633 dL_law_635 dL_law_636 dL_law_637 dL_law_642 (by decide) (kk t1 τ ad1 dm1 _ ht1 ⟨n1, tq1, L1, c1, m1, e1, z1, x1, y1, k1, u1, w01, f91, hC1, hlo1, hM1, h21, ha1, hI1, he1, rfl⟩)
set_option maxHeartbeats 8000000 in
set_option maxRecDepth 100000 in
theorem op_stateByLog {p : Program} {l : Launch} {e : Env} {s : State} {m : MethodId} {args : Array Value} {below : List Frame} {meth : Method} {c : Code} {cells slots : Nat} {Q : State → Prop} {D : va_G} {A : Nat → Prop} {cs : Nat → ClassId} {ad : Nat → Nat → Nat} {dm : Nat → Nat → Prop} (F : FX p s m args c cL_law 9 wsL_law RL D A (tysG cs)) {b L i x0 xm xo t : Nat} {xs : Nat → Int32} {σ : SG} {w : CF} (hX : va_X b L xs s s.heap) (hbl : b < s.heap.size) (hbA : ¬ A b) (hL9 : L ≤ 2560) (hi : i + 4 < L) (hfl : l.stackTraces = false) (ht : t < 900000) (hLI : LI D cs x0 xm xo t σ ad dm w) (hc : cells + 100 ≤ 601024 ∧ slots + 4000 ≤ 7293034) (kk : ∀ (t1 : Nat) (τ : SG) (ad1 : Nat → Nat → Nat) (dm1 : Nat → Nat → Prop) (w1 : CF), t1 ≤ t + 100 → LI D cs x0 xm xo t1 τ ad1 dm1 w1 → GG p l e room_1 s m args below meth c D A ad1 dm1 9 (cells + 100) (slots + 4000) Q w1 1645 [(0, .ref b), (1, .ref x0), (2, .ref xm), (3, .ref xo), (4, .int (nI i))] []) : GG p l e room_1 s m args below meth c D A ad dm 9 cells slots Q w 645 [(0, .ref b), (1, .ref x0), (2, .ref xm), (3, .ref xo), (4, .int (nI i))] [] := by
  obtain ⟨n, tq, Lx, cap, mk, ev, zl, tx, mt, tn, tc, w0, f9, hC0, hlo, hM0, h20, ⟨rfl, rfl, rfl⟩, hI, he, rfl⟩ := hLI
  refine g_forget (dm1 := rs9 dm n tq) (ad1 := ad) (w1 := mw ad cs σ (cw D ad cs σ Lx cap mk ev zl tx mt tn tc w0)) (fun k i q => q.1) (fun _ _ _ => rfl) (fun _ _ _ => rfl) ?_
  have hC := rs9_CD hC0
  have hM := rs9_MD hM0 n tq
  have hub := rs9_UB dm n tq
  have h2 : rs9 dm n tq 2 0 := ⟨h20, .inl (by decide)⟩
  generalize rs9 dm n tq = d9 at hC hM hub h2 ⊢
  refine g_w (mw_cw D ad ad cs σ σ Lx cap mk ev zl tx mt tn tc w0 (fun _ => rfl)) ?_
  have hn40 := hI.1
  have hn := hI.2.1
  have hLV := hI.2.2.1
  have hL : Lx 0 = List.range n := hLV.2.1.1.1
  have hQ : ∀ r, r < 6 → Lx (5 + r) = qf σ n r := hLV.2.1.1.2
  have hIC : IC n σ Lx := hLV.2.1.2.1
  have hmm : ∀ j, j < n → okM σ j := hLV.2.2.2.2
  have hmt := hI.hmt
  have heC : (cw D ad cs σ Lx cap mk ev zl tx mt tn tc (mw ad cs σ w0)) 2 0 = .inl (cs 2, 1, .inr (.inl f9)) := (cw_lo (by decide) 0).trans ((mw_rest ad cs σ w0 (by decide) 0).trans he)
  refine g_aload_n F 1 dL_law_645 rfl rfl ?_
  refine la_arg F (jb := 0) (ji := 4) (j := 1) (v := 1) hX hbl hbA rfl rfl hL9 (by omega) (by decide) (by decide) dL_law_646 dL_law_647 dL_law_649 dL_law_650 dL_law_651 ?_
  refine g_aload_n F 3 dL_law_652 rfl rfl ?_
  refine q_callSW F (rest := []) [.ref (ad 10 0), .int (xs (i + 1)), .ref (ad 2 0)] (lh_stateByLog l D A cs ad d9 (cw D ad cs σ Lx cap mk ev zl tx mt tn tc (mw ad cs σ w0)) (xs (i + 1)) (cc_stateByLog l D A cs ad d9 σ Lx cap mk ev zl tx mt tn tc (mw ad cs σ w0) n tq hC (xs (i + 1)) hn40 hL hlo hmt (fun j hj => ⟨(hLV.2.2.1 j hj).2.2.2, by have := (hmm j hj).2.2.2.2.2; unfold elen; omega⟩) hfl) hC.1 rfl (fun v ad1 dm1 w1 h => by obtain ⟨-, rfl, rfl, rfl, rfl⟩ := h; exact ⟨⟨_, rfl⟩, h2, rfl, (cw_lo (by decide) 0).trans ((mw_rest ad cs σ w0 (by decide) 0).trans he)⟩) (fun E h => h.1)) (vx_cwSW 3 F.1.2.2.2.2 gL_law_L_stateByLog rfl rfl rfl (by decide +kernel) ⟨Nat.le_of_ble_eq_true rfl, Nat.le_of_ble_eq_true rfl⟩) rfl rfl (Nat.le_of_ble_eq_true rfl) dL_law_653 ⟨Nat.le_trans (Nat.add_le_add_left (show 1 ≤ 100 by decide) cells) hc.1, Nat.le_trans (Nat.add_le_add_left (show 6 ≤ 4000 by decide) slots) hc.2⟩ (fun rz ad1 dm1 w1 hv => ?_)
  have hx : ∃ (τ : SG) (bb : Int32) (t1 : Nat), t1 ≤ t + 100 ∧ (∀ W : CF, MD dm1 → Met l yX6_stateByLog wsX6_stateByLog ({ frames := 3, cells := 0, slots := 0, locals := 65 }) (va_Pc [.ref (ad1 0 0), .int (xs (i + 1))] (PW D A (tysG cs) ad1 dm1 (mw ad1 cs σ W))) (va_Qi (fun r (_ : Unit) => r = bb) (fun _ t => PW D A (tysG cs) ad1 dm1 (mw ad1 cs τ W) t) A) 0 0 A) ∧ NX D cs (ad 10 0) (ad 0 0) (ad 2 0) t1 σ τ bb True rz ad1 dm1 w1 := by
    refine ⟨_, _, t, Nat.le_add_right _ _, fun W hM1 => (mc_stateByLog l D A cs ad1 dm1 W σ (xs (i + 1)) n hM1 hn hn40), ?_⟩
    rcases hv with ⟨v, w2, hp, rfl, rfl⟩ | ⟨hp, rfl, rfl, rfl, rfl⟩
    · obtain ⟨hP, hr, rfl, rfl, rfl⟩ := hp
      have hP1 : inR (xs (i + 1)) 0 ((σ 11 0) - 1) := (by rw [hn]; exact hP)
      have e0 : bi (¬ inR (xs (i + 1)) 0 ((σ 11 0) - 1)) = 0 := bi_f (fun q => q hP1)
      simp only [if_pos hP1, e0]
      exact NX.good hC hlo hM h2 (fun _ _ _ => rfl) (hI.up 0) ((AG.id σ).upl n32 0 0) (up2_self _ _ _ _) ((Value.int.inj (Option.some.inj hr)).trans (sm_log hI (ix_mg (Nat.le_trans hn40 (by decide)) hP).2))
    · have hP1 : ¬ inR (xs (i + 1)) 0 ((σ 11 0) - 1) := fun q => hp.2 (by rw [hn] at q; exact q)
      have e1 : bi (¬ inR (xs (i + 1)) 0 ((σ 11 0) - 1)) = 1 := bi_t hP1
      simp only [if_neg hP1, e1]
      exact NX.thr hC hlo hM h2 hI he (by decide)
  obtain ⟨τ, bb, t1, ht1, hMet, n1, tq1, L1, c1, m1, e1, z1, x1, y1, k1, u1, w01, f91, hC1, hlo1, hM1, h21, ha1, hI1, he1, rfl, rfl, hcmp⟩ := hx
  refine g_widen (cells1 := cells + 100) (slots1 := slots + 4000) (Nat.add_le_add_left (by decide) _) (Nat.add_le_add_left (by decide) _) ?_
  refine g_st (st1 := [.int (τ 32 0)]) rfl ?_
  refine g_istore F (lv1 := [(5, .int (τ 32 0)), (0, .ref b), (1, .ref (ad 10 0)), (2, .ref (ad 0 0)), (3, .ref (ad 2 0)), (4, .int (nI i))]) dL_law_656 (by decide) rfl ?_
  refine g_aload_n F 3 dL_law_658 rfl rfl ?_
  refine la_arg F (jb := 1) (ji := 5) (j := 1) (v := 1) hX hbl hbA rfl rfl hL9 (by omega) (by decide) (by decide) dL_law_659 dL_law_660 dL_law_662 dL_law_663 dL_law_664 ?_
  refine g_st (st1 := [.int (xs (i + 1)), .ref (ad1 0 0)]) (by rw [ha1.2.1]) ?_
  refine g_callVi F (C := RX6) (k := 0) (i := 0) (ci := 6) (T := TX6) (N := 33) (rest := []) [.int (xs (i + 1))] (hMet _ hM1) (cwV 1 F.1.2.2.2.2 gL_law_X6_stateByLog rfl rfl rfl (by decide +kernel) ⟨Nat.le_of_ble_eq_true rfl, Nat.le_of_ble_eq_true rfl⟩) rfl hM1.1 rfl rfl rfl rfl (Nat.le_of_ble_eq_true rfl) dL_law_665 (show cells + 100 + 0 ≤ room_1.cells ∧ slots + 4000 + 0 ≤ room_1.slots from hc) ?_
  exact la_tail F (n := n1) (tq := tq1) (σ := σ) (t := t) hM1 h21 ha1 he1 hcmp hc dL_law_668 dL_law_670 dL_law_671 dL_law_674 dL_law_676 dL_law_681 dL_law_683 dL_law_686 dL_law_687 dL_law_688 dL_law_689 dL_law_691 dL_law_692 dL_law_693 dL_law_698 (by decide) (kk t1 τ ad1 dm1 _ ht1 ⟨n1, tq1, L1, c1, m1, e1, z1, x1, y1, k1, u1, w01, f91, hC1, hlo1, hM1, h21, ha1, hI1, he1, rfl⟩)
set_option maxHeartbeats 8000000 in
set_option maxRecDepth 100000 in
theorem op_parts {p : Program} {l : Launch} {e : Env} {s : State} {m : MethodId} {args : Array Value} {below : List Frame} {meth : Method} {c : Code} {cells slots : Nat} {Q : State → Prop} {D : va_G} {A : Nat → Prop} {cs : Nat → ClassId} {ad : Nat → Nat → Nat} {dm : Nat → Nat → Prop} (F : FX p s m args c cL_law 9 wsL_law RL D A (tysG cs)) {b L i x0 xm xo t : Nat} {xs : Nat → Int32} {σ : SG} {w : CF} (hX : va_X b L xs s s.heap) (hbl : b < s.heap.size) (hbA : ¬ A b) (hL9 : L ≤ 2560) (hi : i + 4 < L) (hfl : l.stackTraces = false) (ht : t < 900000) (hLI : LI D cs x0 xm xo t σ ad dm w) (hc : cells + 100 ≤ 601024 ∧ slots + 4000 ≤ 7293034) (kk : ∀ (t1 : Nat) (τ : SG) (ad1 : Nat → Nat → Nat) (dm1 : Nat → Nat → Prop) (w1 : CF), t1 ≤ t + 100 → LI D cs x0 xm xo t1 τ ad1 dm1 w1 → GG p l e room_1 s m args below meth c D A ad1 dm1 9 (cells + 100) (slots + 4000) Q w1 1645 [(0, .ref b), (1, .ref x0), (2, .ref xm), (3, .ref xo), (4, .int (nI i))] []) : GG p l e room_1 s m args below meth c D A ad dm 9 cells slots Q w 701 [(0, .ref b), (1, .ref x0), (2, .ref xm), (3, .ref xo), (4, .int (nI i))] [] := by
  obtain ⟨n, tq, Lx, cap, mk, ev, zl, tx, mt, tn, tc, w0, f9, hC0, hlo, hM0, h20, ⟨rfl, rfl, rfl⟩, hI, he, rfl⟩ := hLI
  refine g_forget (dm1 := rs9 dm n tq) (ad1 := ad) (w1 := mw ad cs σ (cw D ad cs σ Lx cap mk ev zl tx mt tn tc w0)) (fun k i q => q.1) (fun _ _ _ => rfl) (fun _ _ _ => rfl) ?_
  have hC := rs9_CD hC0
  have hM := rs9_MD hM0 n tq
  have hub := rs9_UB dm n tq
  have h2 : rs9 dm n tq 2 0 := ⟨h20, .inl (by decide)⟩
  generalize rs9 dm n tq = d9 at hC hM hub h2 ⊢
  refine g_w (mw_cw D ad ad cs σ σ Lx cap mk ev zl tx mt tn tc w0 (fun _ => rfl)) ?_
  have hn40 := hI.1
  have hn := hI.2.1
  have hLV := hI.2.2.1
  have hL : Lx 0 = List.range n := hLV.2.1.1.1
  have hQ : ∀ r, r < 6 → Lx (5 + r) = qf σ n r := hLV.2.1.1.2
  have hIC : IC n σ Lx := hLV.2.1.2.1
  have hmm : ∀ j, j < n → okM σ j := hLV.2.2.2.2
  have hmt := hI.hmt
  have heC : (cw D ad cs σ Lx cap mk ev zl tx mt tn tc (mw ad cs σ w0)) 2 0 = .inl (cs 2, 1, .inr (.inl f9)) := (cw_lo (by decide) 0).trans ((mw_rest ad cs σ w0 (by decide) 0).trans he)
  refine g_aload_n F 1 dL_law_701 rfl rfl ?_
  refine la_arg F (jb := 0) (ji := 4) (j := 1) (v := 1) hX hbl hbA rfl rfl hL9 (by omega) (by decide) (by decide) dL_law_702 dL_law_703 dL_law_705 dL_law_706 dL_law_707 ?_
  refine g_aload_n F 3 dL_law_708 rfl rfl ?_
  refine q_callSW F (rest := []) [.ref (ad 10 0), .int (xs (i + 1)), .ref (ad 2 0)] (lh_parts l D A cs ad d9 (cw D ad cs σ Lx cap mk ev zl tx mt tn tc (mw ad cs σ w0)) (xs (i + 1)) (cc_parts l D A cs ad d9 σ Lx cap mk ev zl tx mt tn tc (mw ad cs σ w0) n tq hC (xs (i + 1)) hn40 hL hlo hmt hfl) hC.1 rfl (fun v ad1 dm1 w1 h => by obtain ⟨-, rfl, rfl, rfl, rfl⟩ := h; exact ⟨⟨_, rfl⟩, h2, rfl, (cw_lo (by decide) 0).trans ((mw_rest ad cs σ w0 (by decide) 0).trans he)⟩) (fun E h => h.1)) (vx_cwSW 3 F.1.2.2.2.2 gL_law_L_parts rfl rfl rfl (by decide +kernel) ⟨Nat.le_of_ble_eq_true rfl, Nat.le_of_ble_eq_true rfl⟩) rfl rfl (Nat.le_of_ble_eq_true rfl) dL_law_709 ⟨Nat.le_trans (Nat.add_le_add_left (show 1 ≤ 100 by decide) cells) hc.1, Nat.le_trans (Nat.add_le_add_left (show 6 ≤ 4000 by decide) slots) hc.2⟩ (fun rz ad1 dm1 w1 hv => ?_)
  have hx : ∃ (τ : SG) (bb : Int32) (t1 : Nat), t1 ≤ t + 100 ∧ (∀ W : CF, MD dm1 → Met l yX6_parts wsX6_parts ({ frames := 3, cells := 0, slots := 0, locals := 74 }) (va_Pc [.ref (ad1 0 0), .int (xs (i + 1))] (PW D A (tysG cs) ad1 dm1 (mw ad1 cs σ W))) (va_Qi (fun r (_ : Unit) => r = bb) (fun _ t => PW D A (tysG cs) ad1 dm1 (mw ad1 cs τ W) t) A) 0 0 A) ∧ NX D cs (ad 10 0) (ad 0 0) (ad 2 0) t1 σ τ bb True rz ad1 dm1 w1 := by
    refine ⟨_, _, t, Nat.le_add_right _ _, fun W hM1 => (mc_parts l D A cs ad1 dm1 W σ (xs (i + 1)) n hM1 hn hn40 (fun j hj => (hmm j hj).2.2.1)), ?_⟩
    rcases hv with ⟨v, w2, hp, rfl, rfl⟩ | ⟨hp, rfl, rfl, rfl, rfl⟩
    · obtain ⟨hP, hr, rfl, rfl, rfl⟩ := hp
      have hP1 : inR (xs (i + 1)) 0 ((σ 11 0) - 1) := (by rw [hn]; exact hP)
      have e0 : bi (¬ inR (xs (i + 1)) 0 ((σ 11 0) - 1)) = 0 := bi_f (fun q => q hP1)
      simp only [if_pos hP1, e0]
      exact NX.good hC hlo hM h2 (fun _ _ _ => rfl) (hI.up 0) ((AG.id σ).upl n32 0 0) (up2_self _ _ _ _) ((Value.int.inj (Option.some.inj hr)).trans (congrArg nI (((hI.2.2.2.2 _ (ix_mg (Nat.le_trans hn40 (by decide)) hP).2).2.1).trans (ptM_c (fun f hf => up2_k (by omega) _)).symm)))
    · have hP1 : ¬ inR (xs (i + 1)) 0 ((σ 11 0) - 1) := fun q => hp.2 (by rw [hn] at q; exact q)
      have e1 : bi (¬ inR (xs (i + 1)) 0 ((σ 11 0) - 1)) = 1 := bi_t hP1
      simp only [if_neg hP1, e1]
      exact NX.thr hC hlo hM h2 hI he (by decide)
  obtain ⟨τ, bb, t1, ht1, hMet, n1, tq1, L1, c1, m1, e1, z1, x1, y1, k1, u1, w01, f91, hC1, hlo1, hM1, h21, ha1, hI1, he1, rfl, rfl, hcmp⟩ := hx
  refine g_widen (cells1 := cells + 100) (slots1 := slots + 4000) (Nat.add_le_add_left (by decide) _) (Nat.add_le_add_left (by decide) _) ?_
  refine g_st (st1 := [.int (τ 32 0)]) rfl ?_
  refine g_istore F (lv1 := [(5, .int (τ 32 0)), (0, .ref b), (1, .ref (ad 10 0)), (2, .ref (ad 0 0)), (3, .ref (ad 2 0)), (4, .int (nI i))]) dL_law_712 (by decide) rfl ?_
  refine g_aload_n F 3 dL_law_714 rfl rfl ?_
  refine la_arg F (jb := 1) (ji := 5) (j := 1) (v := 1) hX hbl hbA rfl rfl hL9 (by omega) (by decide) (by decide) dL_law_715 dL_law_716 dL_law_718 dL_law_719 dL_law_720 ?_
  refine g_st (st1 := [.int (xs (i + 1)), .ref (ad1 0 0)]) (by rw [ha1.2.1]) ?_
  refine g_callVi F (C := RX6) (k := 0) (i := 0) (ci := 6) (T := TX6) (N := 33) (rest := []) [.int (xs (i + 1))] (hMet _ hM1) (cwV 1 F.1.2.2.2.2 gL_law_X6_parts rfl rfl rfl (by decide +kernel) ⟨Nat.le_of_ble_eq_true rfl, Nat.le_of_ble_eq_true rfl⟩) rfl hM1.1 rfl rfl rfl rfl (Nat.le_of_ble_eq_true rfl) dL_law_721 (show cells + 100 + 0 ≤ room_1.cells ∧ slots + 4000 + 0 ≤ room_1.slots from hc) ?_
  exact la_tail F (n := n1) (tq := tq1) (σ := σ) (t := t) hM1 h21 ha1 he1 hcmp hc dL_law_724 dL_law_726 dL_law_727 dL_law_730 dL_law_732 dL_law_737 dL_law_739 dL_law_742 dL_law_743 dL_law_744 dL_law_745 dL_law_747 dL_law_748 dL_law_749 dL_law_754 (by decide) (kk t1 τ ad1 dm1 _ ht1 ⟨n1, tq1, L1, c1, m1, e1, z1, x1, y1, k1, u1, w01, f91, hC1, hlo1, hM1, h21, ha1, hI1, he1, rfl⟩)
set_option maxHeartbeats 8000000 in
set_option maxRecDepth 100000 in
theorem op_lettersIn {p : Program} {l : Launch} {e : Env} {s : State} {m : MethodId} {args : Array Value} {below : List Frame} {meth : Method} {c : Code} {cells slots : Nat} {Q : State → Prop} {D : va_G} {A : Nat → Prop} {cs : Nat → ClassId} {ad : Nat → Nat → Nat} {dm : Nat → Nat → Prop} (F : FX p s m args c cL_law 9 wsL_law RL D A (tysG cs)) {b L i x0 xm xo t : Nat} {xs : Nat → Int32} {σ : SG} {w : CF} (hX : va_X b L xs s s.heap) (hbl : b < s.heap.size) (hbA : ¬ A b) (hL9 : L ≤ 2560) (hi : i + 4 < L) (hfl : l.stackTraces = false) (ht : t < 900000) (hLI : LI D cs x0 xm xo t σ ad dm w) (hc : cells + 100 ≤ 601024 ∧ slots + 4000 ≤ 7293034) (kk : ∀ (t1 : Nat) (τ : SG) (ad1 : Nat → Nat → Nat) (dm1 : Nat → Nat → Prop) (w1 : CF), t1 ≤ t + 100 → LI D cs x0 xm xo t1 τ ad1 dm1 w1 → GG p l e room_1 s m args below meth c D A ad1 dm1 9 (cells + 100) (slots + 4000) Q w1 1645 [(0, .ref b), (1, .ref x0), (2, .ref xm), (3, .ref xo), (4, .int (nI i))] []) : GG p l e room_1 s m args below meth c D A ad dm 9 cells slots Q w 757 [(0, .ref b), (1, .ref x0), (2, .ref xm), (3, .ref xo), (4, .int (nI i))] [] := by
  obtain ⟨n, tq, Lx, cap, mk, ev, zl, tx, mt, tn, tc, w0, f9, hC0, hlo, hM0, h20, ⟨rfl, rfl, rfl⟩, hI, he, rfl⟩ := hLI
  refine g_forget (dm1 := rs9 dm n tq) (ad1 := ad) (w1 := mw ad cs σ (cw D ad cs σ Lx cap mk ev zl tx mt tn tc w0)) (fun k i q => q.1) (fun _ _ _ => rfl) (fun _ _ _ => rfl) ?_
  have hC := rs9_CD hC0
  have hM := rs9_MD hM0 n tq
  have hub := rs9_UB dm n tq
  have h2 : rs9 dm n tq 2 0 := ⟨h20, .inl (by decide)⟩
  generalize rs9 dm n tq = d9 at hC hM hub h2 ⊢
  refine g_w (mw_cw D ad ad cs σ σ Lx cap mk ev zl tx mt tn tc w0 (fun _ => rfl)) ?_
  have hn40 := hI.1
  have hn := hI.2.1
  have hLV := hI.2.2.1
  have hL : Lx 0 = List.range n := hLV.2.1.1.1
  have hQ : ∀ r, r < 6 → Lx (5 + r) = qf σ n r := hLV.2.1.1.2
  have hIC : IC n σ Lx := hLV.2.1.2.1
  have hmm : ∀ j, j < n → okM σ j := hLV.2.2.2.2
  have hmt := hI.hmt
  have heC : (cw D ad cs σ Lx cap mk ev zl tx mt tn tc (mw ad cs σ w0)) 2 0 = .inl (cs 2, 1, .inr (.inl f9)) := (cw_lo (by decide) 0).trans ((mw_rest ad cs σ w0 (by decide) 0).trans he)
  refine g_aload_n F 1 dL_law_757 rfl rfl ?_
  refine la_arg F (jb := 0) (ji := 4) (j := 1) (v := 1) hX hbl hbA rfl rfl hL9 (by omega) (by decide) (by decide) dL_law_758 dL_law_759 dL_law_761 dL_law_762 dL_law_763 ?_
  refine la_arg F (jb := 0) (ji := 4) (j := 2) (v := 2) hX hbl hbA rfl rfl hL9 (by omega) (by decide) (by decide) dL_law_764 dL_law_765 dL_law_767 dL_law_768 dL_law_769 ?_
  refine g_aload_n F 3 dL_law_770 rfl rfl ?_
  refine q_callSW F (rest := []) [.ref (ad 10 0), .int (xs (i + 1)), .int (xs (i + 2)), .ref (ad 2 0)] (lh_lettersIn l D A cs ad d9 (cw D ad cs σ Lx cap mk ev zl tx mt tn tc (mw ad cs σ w0)) (xs (i + 1)) (xs (i + 2)) (cc_lettersIn l D A cs ad d9 σ Lx cap mk ev zl tx mt tn tc (mw ad cs σ w0) n tq hC (xs (i + 1)) (xs (i + 2)) hn40 hL hlo hmt hfl) hC.1 rfl (fun v ad1 dm1 w1 h => by obtain ⟨-, rfl, rfl, rfl, rfl⟩ := h; exact ⟨⟨_, rfl⟩, h2, rfl, (cw_lo (by decide) 0).trans ((mw_rest ad cs σ w0 (by decide) 0).trans he)⟩) (fun E h => h.1)) (vx_cwSW 4 F.1.2.2.2.2 gL_law_L_lettersIn rfl rfl rfl (by decide +kernel) ⟨Nat.le_of_ble_eq_true rfl, Nat.le_of_ble_eq_true rfl⟩) rfl rfl (Nat.le_of_ble_eq_true rfl) dL_law_771 ⟨Nat.le_trans (Nat.add_le_add_left (show 2 ≤ 100 by decide) cells) hc.1, Nat.le_trans (Nat.add_le_add_left (show 12 ≤ 4000 by decide) slots) hc.2⟩ (fun rz ad1 dm1 w1 hv => ?_)
  have hx : ∃ (τ : SG) (bb : Int32) (t1 : Nat), t1 ≤ t + 100 ∧ (∀ W : CF, MD dm1 → Met l yX6_lettersIn wsX6_lettersIn ({ frames := 3, cells := 0, slots := 0, locals := 74 }) (va_Pc [.ref (ad1 0 0), .int (xs (i + 1)), .int (xs (i + 2))] (PW D A (tysG cs) ad1 dm1 (mw ad1 cs σ W))) (va_Qi (fun r (_ : Unit) => r = bb) (fun _ t => PW D A (tysG cs) ad1 dm1 (mw ad1 cs τ W) t) A) 0 0 A) ∧ NX D cs (ad 10 0) (ad 0 0) (ad 2 0) t1 σ τ bb True rz ad1 dm1 w1 := by
    refine ⟨_, _, t, Nat.le_add_right _ _, fun W hM1 => (mc_lettersIn l D A cs ad1 dm1 W σ (xs (i + 1)) (xs (i + 2)) n hM1 hn hn40 (fun j hj => (hmm j hj).2.2.1)), ?_⟩
    have hPP : ((inR (xs (i + 1)) 0 ((σ 11 0) - 1)) ∧ ((¬ (xs (i + 2)) < 0) ∧ (¬ (nI (ptM σ (ix (xs (i + 1))))) ≤ (xs (i + 2))))) ↔ (inR (xs (i + 1)) 0 (nI n - 1) ∧ inR (xs (i + 2)) 0 (nI (tn (mt (ix (xs (i + 1))))) - 1)) := by
      rw [hn]
      refine and_congr_right (fun q => ?_)
      have hj := (ix_mg (Nat.le_trans hn40 (by decide)) q).2
      rw [(hI.2.2.2.2 _ hj).2.1]
      exact in_lt (Nat.le_trans (ptM_le (hmm _ hj).2.2.1) (by decide))
    rcases hv with ⟨v, w2, hp, rfl, rfl⟩ | ⟨hp, rfl, rfl, rfl, rfl⟩
    · obtain ⟨hP, hr, rfl, rfl, rfl⟩ := hp
      have hP1 : ((inR (xs (i + 1)) 0 ((σ 11 0) - 1)) ∧ ((¬ (xs (i + 2)) < 0) ∧ (¬ (nI (ptM σ (ix (xs (i + 1))))) ≤ (xs (i + 2))))) := (hPP.mpr hP)
      have e0 : bi (¬ ((inR (xs (i + 1)) 0 ((σ 11 0) - 1)) ∧ ((¬ (xs (i + 2)) < 0) ∧ (¬ (nI (ptM σ (ix (xs (i + 1))))) ≤ (xs (i + 2)))))) = 0 := bi_f (fun q => q hP1)
      simp only [if_pos hP1, e0]
      exact NX.good hC hlo hM h2 (fun _ _ _ => rfl) (hI.up 0) ((AG.id σ).upl n32 0 0) (up2_self _ _ _ _) ((Value.int.inj (Option.some.inj hr)).trans ((hI.2.2.2.2 _ (ix_mg (Nat.le_trans hn40 (by decide)) hP.1).2).2.2 _ (ix_mg (Nat.le_trans (hmt _ (ix_mg (Nat.le_trans hn40 (by decide)) hP.1).2).2 (by decide)) hP.2).2))
    · have hP1 : ¬ ((inR (xs (i + 1)) 0 ((σ 11 0) - 1)) ∧ ((¬ (xs (i + 2)) < 0) ∧ (¬ (nI (ptM σ (ix (xs (i + 1))))) ≤ (xs (i + 2))))) := fun q => hp.2 (hPP.mp q)
      have e1 : bi (¬ ((inR (xs (i + 1)) 0 ((σ 11 0) - 1)) ∧ ((¬ (xs (i + 2)) < 0) ∧ (¬ (nI (ptM σ (ix (xs (i + 1))))) ≤ (xs (i + 2)))))) = 1 := bi_t hP1
      simp only [if_neg hP1, e1]
      exact NX.thr hC hlo hM h2 hI he (by decide)
  obtain ⟨τ, bb, t1, ht1, hMet, n1, tq1, L1, c1, m1, e1, z1, x1, y1, k1, u1, w01, f91, hC1, hlo1, hM1, h21, ha1, hI1, he1, rfl, rfl, hcmp⟩ := hx
  refine g_widen (cells1 := cells + 100) (slots1 := slots + 4000) (Nat.add_le_add_left (by decide) _) (Nat.add_le_add_left (by decide) _) ?_
  refine g_st (st1 := [.int (τ 32 0)]) rfl ?_
  refine g_istore F (lv1 := [(5, .int (τ 32 0)), (0, .ref b), (1, .ref (ad 10 0)), (2, .ref (ad 0 0)), (3, .ref (ad 2 0)), (4, .int (nI i))]) dL_law_774 (by decide) rfl ?_
  refine g_aload_n F 3 dL_law_776 rfl rfl ?_
  refine la_arg F (jb := 1) (ji := 5) (j := 1) (v := 1) hX hbl hbA rfl rfl hL9 (by omega) (by decide) (by decide) dL_law_777 dL_law_778 dL_law_780 dL_law_781 dL_law_782 ?_
  refine la_arg F (jb := 1) (ji := 5) (j := 2) (v := 2) hX hbl hbA rfl rfl hL9 (by omega) (by decide) (by decide) dL_law_783 dL_law_784 dL_law_786 dL_law_787 dL_law_788 ?_
  refine g_st (st1 := [.int (xs (i + 2)), .int (xs (i + 1)), .ref (ad1 0 0)]) (by rw [ha1.2.1]) ?_
  refine g_callVi F (C := RX6) (k := 0) (i := 0) (ci := 6) (T := TX6) (N := 33) (rest := []) [.int (xs (i + 1)), .int (xs (i + 2))] (hMet _ hM1) (cwV 2 F.1.2.2.2.2 gL_law_X6_lettersIn rfl rfl rfl (by decide +kernel) ⟨Nat.le_of_ble_eq_true rfl, Nat.le_of_ble_eq_true rfl⟩) rfl hM1.1 rfl rfl rfl rfl (Nat.le_of_ble_eq_true rfl) dL_law_789 (show cells + 100 + 0 ≤ room_1.cells ∧ slots + 4000 + 0 ≤ room_1.slots from hc) ?_
  exact la_tail F (n := n1) (tq := tq1) (σ := σ) (t := t) hM1 h21 ha1 he1 hcmp hc dL_law_792 dL_law_794 dL_law_795 dL_law_798 dL_law_800 dL_law_805 dL_law_807 dL_law_810 dL_law_811 dL_law_812 dL_law_813 dL_law_815 dL_law_816 dL_law_817 dL_law_822 (by decide) (kk t1 τ ad1 dm1 _ ht1 ⟨n1, tq1, L1, c1, m1, e1, z1, x1, y1, k1, u1, w01, f91, hC1, hlo1, hM1, h21, ha1, hI1, he1, rfl⟩)
set_option maxHeartbeats 8000000 in
set_option maxRecDepth 100000 in
theorem op_delivered {p : Program} {l : Launch} {e : Env} {s : State} {m : MethodId} {args : Array Value} {below : List Frame} {meth : Method} {c : Code} {cells slots : Nat} {Q : State → Prop} {D : va_G} {A : Nat → Prop} {cs : Nat → ClassId} {ad : Nat → Nat → Nat} {dm : Nat → Nat → Prop} (F : FX p s m args c cL_law 9 wsL_law RL D A (tysG cs)) {b L i x0 xm xo t : Nat} {xs : Nat → Int32} {σ : SG} {w : CF} (hX : va_X b L xs s s.heap) (hbl : b < s.heap.size) (hbA : ¬ A b) (hL9 : L ≤ 2560) (hi : i + 4 < L) (hfl : l.stackTraces = false) (ht : t < 900000) (hLI : LI D cs x0 xm xo t σ ad dm w) (hc : cells + 100 ≤ 601024 ∧ slots + 4000 ≤ 7293034) (kk : ∀ (t1 : Nat) (τ : SG) (ad1 : Nat → Nat → Nat) (dm1 : Nat → Nat → Prop) (w1 : CF), t1 ≤ t + 100 → LI D cs x0 xm xo t1 τ ad1 dm1 w1 → GG p l e room_1 s m args below meth c D A ad1 dm1 9 (cells + 100) (slots + 4000) Q w1 1645 [(0, .ref b), (1, .ref x0), (2, .ref xm), (3, .ref xo), (4, .int (nI i))] []) : GG p l e room_1 s m args below meth c D A ad dm 9 cells slots Q w 825 [(0, .ref b), (1, .ref x0), (2, .ref xm), (3, .ref xo), (4, .int (nI i))] [] := by
  obtain ⟨n, tq, Lx, cap, mk, ev, zl, tx, mt, tn, tc, w0, f9, hC0, hlo, hM0, h20, ⟨rfl, rfl, rfl⟩, hI, he, rfl⟩ := hLI
  refine g_forget (dm1 := rs9 dm n tq) (ad1 := ad) (w1 := mw ad cs σ (cw D ad cs σ Lx cap mk ev zl tx mt tn tc w0)) (fun k i q => q.1) (fun _ _ _ => rfl) (fun _ _ _ => rfl) ?_
  have hC := rs9_CD hC0
  have hM := rs9_MD hM0 n tq
  have hub := rs9_UB dm n tq
  have h2 : rs9 dm n tq 2 0 := ⟨h20, .inl (by decide)⟩
  generalize rs9 dm n tq = d9 at hC hM hub h2 ⊢
  refine g_w (mw_cw D ad ad cs σ σ Lx cap mk ev zl tx mt tn tc w0 (fun _ => rfl)) ?_
  have hn40 := hI.1
  have hn := hI.2.1
  have hLV := hI.2.2.1
  have hL : Lx 0 = List.range n := hLV.2.1.1.1
  have hQ : ∀ r, r < 6 → Lx (5 + r) = qf σ n r := hLV.2.1.1.2
  have hIC : IC n σ Lx := hLV.2.1.2.1
  have hmm : ∀ j, j < n → okM σ j := hLV.2.2.2.2
  have hmt := hI.hmt
  have heC : (cw D ad cs σ Lx cap mk ev zl tx mt tn tc (mw ad cs σ w0)) 2 0 = .inl (cs 2, 1, .inr (.inl f9)) := (cw_lo (by decide) 0).trans ((mw_rest ad cs σ w0 (by decide) 0).trans he)
  refine g_aload_n F 1 dL_law_825 rfl rfl ?_
  refine la_arg F (jb := 0) (ji := 4) (j := 1) (v := 1) hX hbl hbA rfl rfl hL9 (by omega) (by decide) (by decide) dL_law_826 dL_law_827 dL_law_829 dL_law_830 dL_law_831 ?_
  refine g_aload_n F 3 dL_law_832 rfl rfl ?_
  refine q_callSW F (rest := []) [.ref (ad 10 0), .int (xs (i + 1)), .ref (ad 2 0)] (lh_delivered l D A cs ad d9 (cw D ad cs σ Lx cap mk ev zl tx mt tn tc (mw ad cs σ w0)) (xs (i + 1)) (cc_delivered l D A cs ad d9 σ Lx cap mk ev zl tx mt tn tc (mw ad cs σ w0) n tq hC (xs (i + 1)) hn40 hL hlo hfl) hC.1 rfl (fun v ad1 dm1 w1 h => by obtain ⟨-, rfl, rfl, rfl, rfl⟩ := h; exact ⟨⟨_, rfl⟩, h2, rfl, (cw_lo (by decide) 0).trans ((mw_rest ad cs σ w0 (by decide) 0).trans he)⟩) (fun E h => h.1)) (vx_cwSW 3 F.1.2.2.2.2 gL_law_L_delivered rfl rfl rfl (by decide +kernel) ⟨Nat.le_of_ble_eq_true rfl, Nat.le_of_ble_eq_true rfl⟩) rfl rfl (Nat.le_of_ble_eq_true rfl) dL_law_833 ⟨Nat.le_trans (Nat.add_le_add_left (show 1 ≤ 100 by decide) cells) hc.1, Nat.le_trans (Nat.add_le_add_left (show 6 ≤ 4000 by decide) slots) hc.2⟩ (fun rz ad1 dm1 w1 hv => ?_)
  have hx : ∃ (τ : SG) (bb : Int32) (t1 : Nat), t1 ≤ t + 100 ∧ (∀ W : CF, MD dm1 → Met l yX6_delivered wsX6_delivered ({ frames := 3, cells := 0, slots := 0, locals := 65 }) (va_Pc [.ref (ad1 0 0), .int (xs (i + 1))] (PW D A (tysG cs) ad1 dm1 (mw ad1 cs σ W))) (va_Qi (fun r (_ : Unit) => r = bb) (fun _ t => PW D A (tysG cs) ad1 dm1 (mw ad1 cs τ W) t) A) 0 0 A) ∧ NX D cs (ad 10 0) (ad 0 0) (ad 2 0) t1 σ τ bb True rz ad1 dm1 w1 := by
    refine ⟨_, _, t, Nat.le_add_right _ _, fun W hM1 => (mc_delivered l D A cs ad1 dm1 W σ (xs (i + 1)) n hM1 hn hn40), ?_⟩
    rcases hv with ⟨v, w2, hp, rfl, rfl⟩ | ⟨hp, rfl, rfl, rfl, rfl⟩
    · obtain ⟨hP, hr, rfl, rfl, rfl⟩ := hp
      have hP1 : inR (xs (i + 1)) 0 ((σ 11 0) - 1) := (by rw [hn]; exact hP)
      have e0 : bi (¬ inR (xs (i + 1)) 0 ((σ 11 0) - 1)) = 0 := bi_f (fun q => q hP1)
      simp only [if_pos hP1, e0]
      exact NX.good hC hlo hM h2 (fun _ _ _ => rfl) (hI.up 0) ((AG.id σ).upl n32 0 0) (up2_self _ _ _ _) ((Value.int.inj (Option.some.inj hr)).trans rfl)
    · have hP1 : ¬ inR (xs (i + 1)) 0 ((σ 11 0) - 1) := fun q => hp.2 (by rw [hn] at q; exact q)
      have e1 : bi (¬ inR (xs (i + 1)) 0 ((σ 11 0) - 1)) = 1 := bi_t hP1
      simp only [if_neg hP1, e1]
      exact NX.thr hC hlo hM h2 hI he (by decide)
  obtain ⟨τ, bb, t1, ht1, hMet, n1, tq1, L1, c1, m1, e1, z1, x1, y1, k1, u1, w01, f91, hC1, hlo1, hM1, h21, ha1, hI1, he1, rfl, rfl, hcmp⟩ := hx
  refine g_widen (cells1 := cells + 100) (slots1 := slots + 4000) (Nat.add_le_add_left (by decide) _) (Nat.add_le_add_left (by decide) _) ?_
  refine g_st (st1 := [.int (τ 32 0)]) rfl ?_
  refine g_istore F (lv1 := [(5, .int (τ 32 0)), (0, .ref b), (1, .ref (ad 10 0)), (2, .ref (ad 0 0)), (3, .ref (ad 2 0)), (4, .int (nI i))]) dL_law_836 (by decide) rfl ?_
  refine g_aload_n F 3 dL_law_838 rfl rfl ?_
  refine la_arg F (jb := 1) (ji := 5) (j := 1) (v := 1) hX hbl hbA rfl rfl hL9 (by omega) (by decide) (by decide) dL_law_839 dL_law_840 dL_law_842 dL_law_843 dL_law_844 ?_
  refine g_st (st1 := [.int (xs (i + 1)), .ref (ad1 0 0)]) (by rw [ha1.2.1]) ?_
  refine g_callVi F (C := RX6) (k := 0) (i := 0) (ci := 6) (T := TX6) (N := 33) (rest := []) [.int (xs (i + 1))] (hMet _ hM1) (cwV 1 F.1.2.2.2.2 gL_law_X6_delivered rfl rfl rfl (by decide +kernel) ⟨Nat.le_of_ble_eq_true rfl, Nat.le_of_ble_eq_true rfl⟩) rfl hM1.1 rfl rfl rfl rfl (Nat.le_of_ble_eq_true rfl) dL_law_845 (show cells + 100 + 0 ≤ room_1.cells ∧ slots + 4000 + 0 ≤ room_1.slots from hc) ?_
  exact la_tail F (n := n1) (tq := tq1) (σ := σ) (t := t) hM1 h21 ha1 he1 hcmp hc dL_law_848 dL_law_850 dL_law_851 dL_law_854 dL_law_856 dL_law_861 dL_law_863 dL_law_866 dL_law_867 dL_law_868 dL_law_869 dL_law_871 dL_law_872 dL_law_873 dL_law_878 (by decide) (kk t1 τ ad1 dm1 _ ht1 ⟨n1, tq1, L1, c1, m1, e1, z1, x1, y1, k1, u1, w01, f91, hC1, hlo1, hM1, h21, ha1, hI1, he1, rfl⟩)
set_option maxHeartbeats 8000000 in
set_option maxRecDepth 100000 in
theorem op_attempts {p : Program} {l : Launch} {e : Env} {s : State} {m : MethodId} {args : Array Value} {below : List Frame} {meth : Method} {c : Code} {cells slots : Nat} {Q : State → Prop} {D : va_G} {A : Nat → Prop} {cs : Nat → ClassId} {ad : Nat → Nat → Nat} {dm : Nat → Nat → Prop} (F : FX p s m args c cL_law 9 wsL_law RL D A (tysG cs)) {b L i x0 xm xo t : Nat} {xs : Nat → Int32} {σ : SG} {w : CF} (hX : va_X b L xs s s.heap) (hbl : b < s.heap.size) (hbA : ¬ A b) (hL9 : L ≤ 2560) (hi : i + 4 < L) (hfl : l.stackTraces = false) (ht : t < 900000) (hLI : LI D cs x0 xm xo t σ ad dm w) (hc : cells + 100 ≤ 601024 ∧ slots + 4000 ≤ 7293034) (kk : ∀ (t1 : Nat) (τ : SG) (ad1 : Nat → Nat → Nat) (dm1 : Nat → Nat → Prop) (w1 : CF), t1 ≤ t + 100 → LI D cs x0 xm xo t1 τ ad1 dm1 w1 → GG p l e room_1 s m args below meth c D A ad1 dm1 9 (cells + 100) (slots + 4000) Q w1 1645 [(0, .ref b), (1, .ref x0), (2, .ref xm), (3, .ref xo), (4, .int (nI i))] []) : GG p l e room_1 s m args below meth c D A ad dm 9 cells slots Q w 881 [(0, .ref b), (1, .ref x0), (2, .ref xm), (3, .ref xo), (4, .int (nI i))] [] := by
  obtain ⟨n, tq, Lx, cap, mk, ev, zl, tx, mt, tn, tc, w0, f9, hC0, hlo, hM0, h20, ⟨rfl, rfl, rfl⟩, hI, he, rfl⟩ := hLI
  refine g_forget (dm1 := rs9 dm n tq) (ad1 := ad) (w1 := mw ad cs σ (cw D ad cs σ Lx cap mk ev zl tx mt tn tc w0)) (fun k i q => q.1) (fun _ _ _ => rfl) (fun _ _ _ => rfl) ?_
  have hC := rs9_CD hC0
  have hM := rs9_MD hM0 n tq
  have hub := rs9_UB dm n tq
  have h2 : rs9 dm n tq 2 0 := ⟨h20, .inl (by decide)⟩
  generalize rs9 dm n tq = d9 at hC hM hub h2 ⊢
  refine g_w (mw_cw D ad ad cs σ σ Lx cap mk ev zl tx mt tn tc w0 (fun _ => rfl)) ?_
  have hn40 := hI.1
  have hn := hI.2.1
  have hLV := hI.2.2.1
  have hL : Lx 0 = List.range n := hLV.2.1.1.1
  have hQ : ∀ r, r < 6 → Lx (5 + r) = qf σ n r := hLV.2.1.1.2
  have hIC : IC n σ Lx := hLV.2.1.2.1
  have hmm : ∀ j, j < n → okM σ j := hLV.2.2.2.2
  have hmt := hI.hmt
  have heC : (cw D ad cs σ Lx cap mk ev zl tx mt tn tc (mw ad cs σ w0)) 2 0 = .inl (cs 2, 1, .inr (.inl f9)) := (cw_lo (by decide) 0).trans ((mw_rest ad cs σ w0 (by decide) 0).trans he)
  refine g_aload_n F 1 dL_law_881 rfl rfl ?_
  refine la_arg F (jb := 0) (ji := 4) (j := 1) (v := 1) hX hbl hbA rfl rfl hL9 (by omega) (by decide) (by decide) dL_law_882 dL_law_883 dL_law_885 dL_law_886 dL_law_887 ?_
  refine g_aload_n F 3 dL_law_888 rfl rfl ?_
  refine q_callSW F (rest := []) [.ref (ad 10 0), .int (xs (i + 1)), .ref (ad 2 0)] (lh_attempts l D A cs ad d9 (cw D ad cs σ Lx cap mk ev zl tx mt tn tc (mw ad cs σ w0)) (xs (i + 1)) (cc_attempts l D A cs ad d9 σ Lx cap mk ev zl tx mt tn tc (mw ad cs σ w0) n tq hC (xs (i + 1)) hn40 hL hlo hfl) hC.1 rfl (fun v ad1 dm1 w1 h => by obtain ⟨-, rfl, rfl, rfl, rfl⟩ := h; exact ⟨⟨_, rfl⟩, h2, rfl, (cw_lo (by decide) 0).trans ((mw_rest ad cs σ w0 (by decide) 0).trans he)⟩) (fun E h => h.1)) (vx_cwSW 3 F.1.2.2.2.2 gL_law_L_attempts rfl rfl rfl (by decide +kernel) ⟨Nat.le_of_ble_eq_true rfl, Nat.le_of_ble_eq_true rfl⟩) rfl rfl (Nat.le_of_ble_eq_true rfl) dL_law_889 ⟨Nat.le_trans (Nat.add_le_add_left (show 1 ≤ 100 by decide) cells) hc.1, Nat.le_trans (Nat.add_le_add_left (show 6 ≤ 4000 by decide) slots) hc.2⟩ (fun rz ad1 dm1 w1 hv => ?_)
  have hx : ∃ (τ : SG) (bb : Int32) (t1 : Nat), t1 ≤ t + 100 ∧ (∀ W : CF, MD dm1 → Met l yX6_attempts wsX6_attempts ({ frames := 3, cells := 0, slots := 0, locals := 65 }) (va_Pc [.ref (ad1 0 0), .int (xs (i + 1))] (PW D A (tysG cs) ad1 dm1 (mw ad1 cs σ W))) (va_Qi (fun r (_ : Unit) => r = bb) (fun _ t => PW D A (tysG cs) ad1 dm1 (mw ad1 cs τ W) t) A) 0 0 A) ∧ NX D cs (ad 10 0) (ad 0 0) (ad 2 0) t1 σ τ bb True rz ad1 dm1 w1 := by
    refine ⟨_, _, t, Nat.le_add_right _ _, fun W hM1 => (mc_attempts l D A cs ad1 dm1 W σ (xs (i + 1)) n hM1 hn hn40), ?_⟩
    rcases hv with ⟨v, w2, hp, rfl, rfl⟩ | ⟨hp, rfl, rfl, rfl, rfl⟩
    · obtain ⟨hP, hr, rfl, rfl, rfl⟩ := hp
      have hP1 : inR (xs (i + 1)) 0 ((σ 11 0) - 1) := (by rw [hn]; exact hP)
      have e0 : bi (¬ inR (xs (i + 1)) 0 ((σ 11 0) - 1)) = 0 := bi_f (fun q => q hP1)
      simp only [if_pos hP1, e0]
      exact NX.good hC hlo hM h2 (fun _ _ _ => rfl) (hI.up 0) ((AG.id σ).upl n32 0 0) (up2_self _ _ _ _) ((Value.int.inj (Option.some.inj hr)).trans rfl)
    · have hP1 : ¬ inR (xs (i + 1)) 0 ((σ 11 0) - 1) := fun q => hp.2 (by rw [hn] at q; exact q)
      have e1 : bi (¬ inR (xs (i + 1)) 0 ((σ 11 0) - 1)) = 1 := bi_t hP1
      simp only [if_neg hP1, e1]
      exact NX.thr hC hlo hM h2 hI he (by decide)
  obtain ⟨τ, bb, t1, ht1, hMet, n1, tq1, L1, c1, m1, e1, z1, x1, y1, k1, u1, w01, f91, hC1, hlo1, hM1, h21, ha1, hI1, he1, rfl, rfl, hcmp⟩ := hx
  refine g_widen (cells1 := cells + 100) (slots1 := slots + 4000) (Nat.add_le_add_left (by decide) _) (Nat.add_le_add_left (by decide) _) ?_
  refine g_st (st1 := [.int (τ 32 0)]) rfl ?_
  refine g_istore F (lv1 := [(5, .int (τ 32 0)), (0, .ref b), (1, .ref (ad 10 0)), (2, .ref (ad 0 0)), (3, .ref (ad 2 0)), (4, .int (nI i))]) dL_law_892 (by decide) rfl ?_
  refine g_aload_n F 3 dL_law_894 rfl rfl ?_
  refine la_arg F (jb := 1) (ji := 5) (j := 1) (v := 1) hX hbl hbA rfl rfl hL9 (by omega) (by decide) (by decide) dL_law_895 dL_law_896 dL_law_898 dL_law_899 dL_law_900 ?_
  refine g_st (st1 := [.int (xs (i + 1)), .ref (ad1 0 0)]) (by rw [ha1.2.1]) ?_
  refine g_callVi F (C := RX6) (k := 0) (i := 0) (ci := 6) (T := TX6) (N := 33) (rest := []) [.int (xs (i + 1))] (hMet _ hM1) (cwV 1 F.1.2.2.2.2 gL_law_X6_attempts rfl rfl rfl (by decide +kernel) ⟨Nat.le_of_ble_eq_true rfl, Nat.le_of_ble_eq_true rfl⟩) rfl hM1.1 rfl rfl rfl rfl (Nat.le_of_ble_eq_true rfl) dL_law_901 (show cells + 100 + 0 ≤ room_1.cells ∧ slots + 4000 + 0 ≤ room_1.slots from hc) ?_
  exact la_tail F (n := n1) (tq := tq1) (σ := σ) (t := t) hM1 h21 ha1 he1 hcmp hc dL_law_904 dL_law_906 dL_law_907 dL_law_910 dL_law_912 dL_law_917 dL_law_919 dL_law_922 dL_law_923 dL_law_924 dL_law_925 dL_law_927 dL_law_928 dL_law_929 dL_law_934 (by decide) (kk t1 τ ad1 dm1 _ ht1 ⟨n1, tq1, L1, c1, m1, e1, z1, x1, y1, k1, u1, w01, f91, hC1, hlo1, hM1, h21, ha1, hI1, he1, rfl⟩)
set_option maxHeartbeats 8000000 in
set_option maxRecDepth 100000 in
theorem op_inRoom {p : Program} {l : Launch} {e : Env} {s : State} {m : MethodId} {args : Array Value} {below : List Frame} {meth : Method} {c : Code} {cells slots : Nat} {Q : State → Prop} {D : va_G} {A : Nat → Prop} {cs : Nat → ClassId} {ad : Nat → Nat → Nat} {dm : Nat → Nat → Prop} (F : FX p s m args c cL_law 9 wsL_law RL D A (tysG cs)) {b L i x0 xm xo t : Nat} {xs : Nat → Int32} {σ : SG} {w : CF} (hX : va_X b L xs s s.heap) (hbl : b < s.heap.size) (hbA : ¬ A b) (hL9 : L ≤ 2560) (hi : i + 4 < L) (hfl : l.stackTraces = false) (ht : t < 900000) (hLI : LI D cs x0 xm xo t σ ad dm w) (hc : cells + 100 ≤ 601024 ∧ slots + 4000 ≤ 7293034) (kk : ∀ (t1 : Nat) (τ : SG) (ad1 : Nat → Nat → Nat) (dm1 : Nat → Nat → Prop) (w1 : CF), t1 ≤ t + 100 → LI D cs x0 xm xo t1 τ ad1 dm1 w1 → GG p l e room_1 s m args below meth c D A ad1 dm1 9 (cells + 100) (slots + 4000) Q w1 1645 [(0, .ref b), (1, .ref x0), (2, .ref xm), (3, .ref xo), (4, .int (nI i))] []) : GG p l e room_1 s m args below meth c D A ad dm 9 cells slots Q w 1197 [(0, .ref b), (1, .ref x0), (2, .ref xm), (3, .ref xo), (4, .int (nI i))] [] := by
  obtain ⟨n, tq, Lx, cap, mk, ev, zl, tx, mt, tn, tc, w0, f9, hC0, hlo, hM0, h20, ⟨rfl, rfl, rfl⟩, hI, he, rfl⟩ := hLI
  refine g_forget (dm1 := rs9 dm n tq) (ad1 := ad) (w1 := mw ad cs σ (cw D ad cs σ Lx cap mk ev zl tx mt tn tc w0)) (fun k i q => q.1) (fun _ _ _ => rfl) (fun _ _ _ => rfl) ?_
  have hC := rs9_CD hC0
  have hM := rs9_MD hM0 n tq
  have hub := rs9_UB dm n tq
  have h2 : rs9 dm n tq 2 0 := ⟨h20, .inl (by decide)⟩
  generalize rs9 dm n tq = d9 at hC hM hub h2 ⊢
  refine g_w (mw_cw D ad ad cs σ σ Lx cap mk ev zl tx mt tn tc w0 (fun _ => rfl)) ?_
  have hn40 := hI.1
  have hn := hI.2.1
  have hLV := hI.2.2.1
  have hL : Lx 0 = List.range n := hLV.2.1.1.1
  have hQ : ∀ r, r < 6 → Lx (5 + r) = qf σ n r := hLV.2.1.1.2
  have hIC : IC n σ Lx := hLV.2.1.2.1
  have hmm : ∀ j, j < n → okM σ j := hLV.2.2.2.2
  have hmt := hI.hmt
  have heC : (cw D ad cs σ Lx cap mk ev zl tx mt tn tc (mw ad cs σ w0)) 2 0 = .inl (cs 2, 1, .inr (.inl f9)) := (cw_lo (by decide) 0).trans ((mw_rest ad cs σ w0 (by decide) 0).trans he)
  refine g_aload_n F 1 dL_law_1197 rfl rfl ?_
  refine la_arg F (jb := 0) (ji := 4) (j := 1) (v := 1) hX hbl hbA rfl rfl hL9 (by omega) (by decide) (by decide) dL_law_1198 dL_law_1199 dL_law_1201 dL_law_1202 dL_law_1203 ?_
  refine g_aload_n F 3 dL_law_1204 rfl rfl ?_
  refine q_callSW F (rest := []) [.ref (ad 10 0), .int (xs (i + 1)), .ref (ad 2 0)] (lh_inRoom l D A cs ad d9 (cw D ad cs σ Lx cap mk ev zl tx mt tn tc (mw ad cs σ w0)) (xs (i + 1)) (cc_inRoom l D A cs ad d9 σ Lx cap mk ev zl tx mt tn tc (mw ad cs σ w0) n tq hC (xs (i + 1)) hfl) hC.1 rfl (fun v ad1 dm1 w1 h => by obtain ⟨-, rfl, rfl, rfl, rfl⟩ := h; exact ⟨⟨_, rfl⟩, h2, rfl, (cw_lo (by decide) 0).trans ((mw_rest ad cs σ w0 (by decide) 0).trans he)⟩) (fun E h => h.1)) (vx_cwSW 3 F.1.2.2.2.2 gL_law_L_inRoom rfl rfl rfl (by decide +kernel) ⟨Nat.le_of_ble_eq_true rfl, Nat.le_of_ble_eq_true rfl⟩) rfl rfl (Nat.le_of_ble_eq_true rfl) dL_law_1205 ⟨Nat.le_trans (Nat.add_le_add_left (show 1 ≤ 100 by decide) cells) hc.1, Nat.le_trans (Nat.add_le_add_left (show 6 ≤ 4000 by decide) slots) hc.2⟩ (fun rz ad1 dm1 w1 hv => ?_)
  have hx : ∃ (τ : SG) (bb : Int32) (t1 : Nat), t1 ≤ t + 100 ∧ (∀ W : CF, MD dm1 → Met l yX6_inRoom wsX6_inRoom ({ frames := 2, cells := 0, slots := 0, locals := 42 }) (va_Pc [.ref (ad1 0 0), .int (xs (i + 1))] (PW D A (tysG cs) ad1 dm1 (mw ad1 cs σ W))) (va_Qi (fun r (_ : Unit) => r = bb) (fun _ t => PW D A (tysG cs) ad1 dm1 (mw ad1 cs τ W) t) A) 0 0 A) ∧ NX D cs (ad 10 0) (ad 0 0) (ad 2 0) t1 σ τ bb True rz ad1 dm1 w1 := by
    refine ⟨_, _, t, Nat.le_add_right _ _, fun W hM1 => (mc_inRoom l D A cs ad1 dm1 W σ (xs (i + 1)) hM1), ?_⟩
    rcases hv with ⟨v, w2, hp, rfl, rfl⟩ | ⟨hp, rfl, rfl, rfl, rfl⟩
    · obtain ⟨hP, hr, rfl, rfl, rfl⟩ := hp
      have hP1 : recP (xs (i + 1)) := hP
      have e0 : bi (¬ recP (xs (i + 1))) = 0 := bi_f (fun q => q hP1)
      simp only [if_pos hP1, e0]
      exact NX.good hC hlo hM h2 (fun _ _ _ => rfl) (hI.up 0) ((AG.id σ).upl n32 0 0) (up2_self _ _ _ _) ((Value.int.inj (Option.some.inj hr)).trans rfl)
    · have hP1 : ¬ recP (xs (i + 1)) := fun q => hp.2 q
      have e1 : bi (¬ recP (xs (i + 1))) = 1 := bi_t hP1
      simp only [if_neg hP1, e1]
      exact NX.thr hC hlo hM h2 hI he (by decide)
  obtain ⟨τ, bb, t1, ht1, hMet, n1, tq1, L1, c1, m1, e1, z1, x1, y1, k1, u1, w01, f91, hC1, hlo1, hM1, h21, ha1, hI1, he1, rfl, rfl, hcmp⟩ := hx
  refine g_widen (cells1 := cells + 100) (slots1 := slots + 4000) (Nat.add_le_add_left (by decide) _) (Nat.add_le_add_left (by decide) _) ?_
  refine g_st (st1 := [.int (τ 32 0)]) rfl ?_
  refine g_istore F (lv1 := [(5, .int (τ 32 0)), (0, .ref b), (1, .ref (ad 10 0)), (2, .ref (ad 0 0)), (3, .ref (ad 2 0)), (4, .int (nI i))]) dL_law_1208 (by decide) rfl ?_
  refine g_aload_n F 3 dL_law_1210 rfl rfl ?_
  refine la_arg F (jb := 1) (ji := 5) (j := 1) (v := 1) hX hbl hbA rfl rfl hL9 (by omega) (by decide) (by decide) dL_law_1211 dL_law_1212 dL_law_1214 dL_law_1215 dL_law_1216 ?_
  refine g_st (st1 := [.int (xs (i + 1)), .ref (ad1 0 0)]) (by rw [ha1.2.1]) ?_
  refine g_callVi F (C := RX6) (k := 0) (i := 0) (ci := 6) (T := TX6) (N := 33) (rest := []) [.int (xs (i + 1))] (hMet _ hM1) (cwV 1 F.1.2.2.2.2 gL_law_X6_inRoom rfl rfl rfl (by decide +kernel) ⟨Nat.le_of_ble_eq_true rfl, Nat.le_of_ble_eq_true rfl⟩) rfl hM1.1 rfl rfl rfl rfl (Nat.le_of_ble_eq_true rfl) dL_law_1217 (show cells + 100 + 0 ≤ room_1.cells ∧ slots + 4000 + 0 ≤ room_1.slots from hc) ?_
  exact la_tail F (n := n1) (tq := tq1) (σ := σ) (t := t) hM1 h21 ha1 he1 hcmp hc dL_law_1220 dL_law_1222 dL_law_1223 dL_law_1226 dL_law_1228 dL_law_1233 dL_law_1235 dL_law_1238 dL_law_1239 dL_law_1240 dL_law_1241 dL_law_1243 dL_law_1244 dL_law_1245 dL_law_1250 (by decide) (kk t1 τ ad1 dm1 _ ht1 ⟨n1, tq1, L1, c1, m1, e1, z1, x1, y1, k1, u1, w01, f91, hC1, hlo1, hM1, h21, ha1, hI1, he1, rfl⟩)
set_option maxHeartbeats 8000000 in
set_option maxRecDepth 100000 in
theorem op_marks {p : Program} {l : Launch} {e : Env} {s : State} {m : MethodId} {args : Array Value} {below : List Frame} {meth : Method} {c : Code} {cells slots : Nat} {Q : State → Prop} {D : va_G} {A : Nat → Prop} {cs : Nat → ClassId} {ad : Nat → Nat → Nat} {dm : Nat → Nat → Prop} (F : FX p s m args c cL_law 9 wsL_law RL D A (tysG cs)) {b L i x0 xm xo t : Nat} {xs : Nat → Int32} {σ : SG} {w : CF} (hX : va_X b L xs s s.heap) (hbl : b < s.heap.size) (hbA : ¬ A b) (hL9 : L ≤ 2560) (hi : i + 4 < L) (hfl : l.stackTraces = false) (ht : t < 900000) (hLI : LI D cs x0 xm xo t σ ad dm w) (hc : cells + 100 ≤ 601024 ∧ slots + 4000 ≤ 7293034) (kk : ∀ (t1 : Nat) (τ : SG) (ad1 : Nat → Nat → Nat) (dm1 : Nat → Nat → Prop) (w1 : CF), t1 ≤ t + 100 → LI D cs x0 xm xo t1 τ ad1 dm1 w1 → GG p l e room_1 s m args below meth c D A ad1 dm1 9 (cells + 100) (slots + 4000) Q w1 1645 [(0, .ref b), (1, .ref x0), (2, .ref xm), (3, .ref xo), (4, .int (nI i))] []) : GG p l e room_1 s m args below meth c D A ad dm 9 cells slots Q w 1253 [(0, .ref b), (1, .ref x0), (2, .ref xm), (3, .ref xo), (4, .int (nI i))] [] := by
  obtain ⟨n, tq, Lx, cap, mk, ev, zl, tx, mt, tn, tc, w0, f9, hC0, hlo, hM0, h20, ⟨rfl, rfl, rfl⟩, hI, he, rfl⟩ := hLI
  refine g_forget (dm1 := rs9 dm n tq) (ad1 := ad) (w1 := mw ad cs σ (cw D ad cs σ Lx cap mk ev zl tx mt tn tc w0)) (fun k i q => q.1) (fun _ _ _ => rfl) (fun _ _ _ => rfl) ?_
  have hC := rs9_CD hC0
  have hM := rs9_MD hM0 n tq
  have hub := rs9_UB dm n tq
  have h2 : rs9 dm n tq 2 0 := ⟨h20, .inl (by decide)⟩
  generalize rs9 dm n tq = d9 at hC hM hub h2 ⊢
  refine g_w (mw_cw D ad ad cs σ σ Lx cap mk ev zl tx mt tn tc w0 (fun _ => rfl)) ?_
  have hn40 := hI.1
  have hn := hI.2.1
  have hLV := hI.2.2.1
  have hL : Lx 0 = List.range n := hLV.2.1.1.1
  have hQ : ∀ r, r < 6 → Lx (5 + r) = qf σ n r := hLV.2.1.1.2
  have hIC : IC n σ Lx := hLV.2.1.2.1
  have hmm : ∀ j, j < n → okM σ j := hLV.2.2.2.2
  have hmt := hI.hmt
  have heC : (cw D ad cs σ Lx cap mk ev zl tx mt tn tc (mw ad cs σ w0)) 2 0 = .inl (cs 2, 1, .inr (.inl f9)) := (cw_lo (by decide) 0).trans ((mw_rest ad cs σ w0 (by decide) 0).trans he)
  refine g_aload_n F 1 dL_law_1253 rfl rfl ?_
  refine la_arg F (jb := 0) (ji := 4) (j := 1) (v := 1) hX hbl hbA rfl rfl hL9 (by omega) (by decide) (by decide) dL_law_1254 dL_law_1255 dL_law_1257 dL_law_1258 dL_law_1259 ?_
  refine g_aload_n F 3 dL_law_1260 rfl rfl ?_
  refine q_callSW F (rest := []) [.ref (ad 10 0), .int (xs (i + 1)), .ref (ad 2 0)] (lh_marks l D A cs ad d9 (cw D ad cs σ Lx cap mk ev zl tx mt tn tc (mw ad cs σ w0)) (xs (i + 1)) (cc_marks l D A cs ad d9 σ Lx cap mk ev zl tx mt tn tc (mw ad cs σ w0) n tq hC (xs (i + 1)) hfl) hC.1 rfl (fun v ad1 dm1 w1 h => by obtain ⟨-, rfl, rfl, rfl, rfl⟩ := h; exact ⟨⟨_, rfl⟩, h2, rfl, (cw_lo (by decide) 0).trans ((mw_rest ad cs σ w0 (by decide) 0).trans he)⟩) (fun E h => h.1)) (vx_cwSW 3 F.1.2.2.2.2 gL_law_L_marks rfl rfl rfl (by decide +kernel) ⟨Nat.le_of_ble_eq_true rfl, Nat.le_of_ble_eq_true rfl⟩) rfl rfl (Nat.le_of_ble_eq_true rfl) dL_law_1261 ⟨Nat.le_trans (Nat.add_le_add_left (show 1 ≤ 100 by decide) cells) hc.1, Nat.le_trans (Nat.add_le_add_left (show 6 ≤ 4000 by decide) slots) hc.2⟩ (fun rz ad1 dm1 w1 hv => ?_)
  have hx : ∃ (τ : SG) (bb : Int32) (t1 : Nat), t1 ≤ t + 100 ∧ (∀ W : CF, MD dm1 → Met l yX6_marks wsX6_marks ({ frames := 2, cells := 0, slots := 0, locals := 42 }) (va_Pc [.ref (ad1 0 0), .int (xs (i + 1))] (PW D A (tysG cs) ad1 dm1 (mw ad1 cs σ W))) (va_Qi (fun r (_ : Unit) => r = bb) (fun _ t => PW D A (tysG cs) ad1 dm1 (mw ad1 cs τ W) t) A) 0 0 A) ∧ NX D cs (ad 10 0) (ad 0 0) (ad 2 0) t1 σ τ bb True rz ad1 dm1 w1 := by
    refine ⟨_, _, t, Nat.le_add_right _ _, fun W hM1 => (mc_marks l D A cs ad1 dm1 W σ (xs (i + 1)) hM1), ?_⟩
    rcases hv with ⟨v, w2, hp, rfl, rfl⟩ | ⟨hp, rfl, rfl, rfl, rfl⟩
    · obtain ⟨hP, hr, rfl, rfl, rfl⟩ := hp
      have hP1 : recP (xs (i + 1)) := hP
      have e0 : bi (¬ recP (xs (i + 1))) = 0 := bi_f (fun q => q hP1)
      simp only [if_pos hP1, e0]
      exact NX.good hC hlo hM h2 (fun _ _ _ => rfl) (hI.up 0) ((AG.id σ).upl n32 0 0) (up2_self _ _ _ _) ((Value.int.inj (Option.some.inj hr)).trans rfl)
    · have hP1 : ¬ recP (xs (i + 1)) := fun q => hp.2 q
      have e1 : bi (¬ recP (xs (i + 1))) = 1 := bi_t hP1
      simp only [if_neg hP1, e1]
      exact NX.thr hC hlo hM h2 hI he (by decide)
  obtain ⟨τ, bb, t1, ht1, hMet, n1, tq1, L1, c1, m1, e1, z1, x1, y1, k1, u1, w01, f91, hC1, hlo1, hM1, h21, ha1, hI1, he1, rfl, rfl, hcmp⟩ := hx
  refine g_widen (cells1 := cells + 100) (slots1 := slots + 4000) (Nat.add_le_add_left (by decide) _) (Nat.add_le_add_left (by decide) _) ?_
  refine g_st (st1 := [.int (τ 32 0)]) rfl ?_
  refine g_istore F (lv1 := [(5, .int (τ 32 0)), (0, .ref b), (1, .ref (ad 10 0)), (2, .ref (ad 0 0)), (3, .ref (ad 2 0)), (4, .int (nI i))]) dL_law_1264 (by decide) rfl ?_
  refine g_aload_n F 3 dL_law_1266 rfl rfl ?_
  refine la_arg F (jb := 1) (ji := 5) (j := 1) (v := 1) hX hbl hbA rfl rfl hL9 (by omega) (by decide) (by decide) dL_law_1267 dL_law_1268 dL_law_1270 dL_law_1271 dL_law_1272 ?_
  refine g_st (st1 := [.int (xs (i + 1)), .ref (ad1 0 0)]) (by rw [ha1.2.1]) ?_
  refine g_callVi F (C := RX6) (k := 0) (i := 0) (ci := 6) (T := TX6) (N := 33) (rest := []) [.int (xs (i + 1))] (hMet _ hM1) (cwV 1 F.1.2.2.2.2 gL_law_X6_marks rfl rfl rfl (by decide +kernel) ⟨Nat.le_of_ble_eq_true rfl, Nat.le_of_ble_eq_true rfl⟩) rfl hM1.1 rfl rfl rfl rfl (Nat.le_of_ble_eq_true rfl) dL_law_1273 (show cells + 100 + 0 ≤ room_1.cells ∧ slots + 4000 + 0 ≤ room_1.slots from hc) ?_
  exact la_tail F (n := n1) (tq := tq1) (σ := σ) (t := t) hM1 h21 ha1 he1 hcmp hc dL_law_1276 dL_law_1278 dL_law_1279 dL_law_1282 dL_law_1284 dL_law_1289 dL_law_1291 dL_law_1294 dL_law_1295 dL_law_1296 dL_law_1297 dL_law_1299 dL_law_1300 dL_law_1301 dL_law_1306 (by decide) (kk t1 τ ad1 dm1 _ ht1 ⟨n1, tq1, L1, c1, m1, e1, z1, x1, y1, k1, u1, w01, f91, hC1, hlo1, hM1, h21, ha1, hI1, he1, rfl⟩)
set_option maxHeartbeats 8000000 in
set_option maxRecDepth 100000 in
theorem op_waiting {p : Program} {l : Launch} {e : Env} {s : State} {m : MethodId} {args : Array Value} {below : List Frame} {meth : Method} {c : Code} {cells slots : Nat} {Q : State → Prop} {D : va_G} {A : Nat → Prop} {cs : Nat → ClassId} {ad : Nat → Nat → Nat} {dm : Nat → Nat → Prop} (F : FX p s m args c cL_law 9 wsL_law RL D A (tysG cs)) {b L i x0 xm xo t : Nat} {xs : Nat → Int32} {σ : SG} {w : CF} (hX : va_X b L xs s s.heap) (hbl : b < s.heap.size) (hbA : ¬ A b) (hL9 : L ≤ 2560) (hi : i + 4 < L) (hfl : l.stackTraces = false) (ht : t < 900000) (hLI : LI D cs x0 xm xo t σ ad dm w) (hc : cells + 100 ≤ 601024 ∧ slots + 4000 ≤ 7293034) (kk : ∀ (t1 : Nat) (τ : SG) (ad1 : Nat → Nat → Nat) (dm1 : Nat → Nat → Prop) (w1 : CF), t1 ≤ t + 100 → LI D cs x0 xm xo t1 τ ad1 dm1 w1 → GG p l e room_1 s m args below meth c D A ad1 dm1 9 (cells + 100) (slots + 4000) Q w1 1645 [(0, .ref b), (1, .ref x0), (2, .ref xm), (3, .ref xo), (4, .int (nI i))] []) : GG p l e room_1 s m args below meth c D A ad dm 9 cells slots Q w 1309 [(0, .ref b), (1, .ref x0), (2, .ref xm), (3, .ref xo), (4, .int (nI i))] [] := by
  obtain ⟨n, tq, Lx, cap, mk, ev, zl, tx, mt, tn, tc, w0, f9, hC0, hlo, hM0, h20, ⟨rfl, rfl, rfl⟩, hI, he, rfl⟩ := hLI
  refine g_forget (dm1 := rs9 dm n tq) (ad1 := ad) (w1 := mw ad cs σ (cw D ad cs σ Lx cap mk ev zl tx mt tn tc w0)) (fun k i q => q.1) (fun _ _ _ => rfl) (fun _ _ _ => rfl) ?_
  have hC := rs9_CD hC0
  have hM := rs9_MD hM0 n tq
  have hub := rs9_UB dm n tq
  have h2 : rs9 dm n tq 2 0 := ⟨h20, .inl (by decide)⟩
  generalize rs9 dm n tq = d9 at hC hM hub h2 ⊢
  refine g_w (mw_cw D ad ad cs σ σ Lx cap mk ev zl tx mt tn tc w0 (fun _ => rfl)) ?_
  have hn40 := hI.1
  have hn := hI.2.1
  have hLV := hI.2.2.1
  have hL : Lx 0 = List.range n := hLV.2.1.1.1
  have hQ : ∀ r, r < 6 → Lx (5 + r) = qf σ n r := hLV.2.1.1.2
  have hIC : IC n σ Lx := hLV.2.1.2.1
  have hmm : ∀ j, j < n → okM σ j := hLV.2.2.2.2
  have hmt := hI.hmt
  have heC : (cw D ad cs σ Lx cap mk ev zl tx mt tn tc (mw ad cs σ w0)) 2 0 = .inl (cs 2, 1, .inr (.inl f9)) := (cw_lo (by decide) 0).trans ((mw_rest ad cs σ w0 (by decide) 0).trans he)
  refine g_aload_n F 1 dL_law_1309 rfl rfl ?_
  refine la_arg F (jb := 0) (ji := 4) (j := 1) (v := 1) hX hbl hbA rfl rfl hL9 (by omega) (by decide) (by decide) dL_law_1310 dL_law_1311 dL_law_1313 dL_law_1314 dL_law_1315 ?_
  refine g_aload_n F 3 dL_law_1316 rfl rfl ?_
  refine q_callSW F (rest := []) [.ref (ad 10 0), .int (xs (i + 1)), .ref (ad 2 0)] (lh_waiting l D A cs ad d9 (cw D ad cs σ Lx cap mk ev zl tx mt tn tc (mw ad cs σ w0)) (xs (i + 1)) (cc_waiting l D A cs ad d9 σ Lx cap mk ev zl tx mt tn tc (mw ad cs σ w0) n tq hC (xs (i + 1)) hfl) hC.1 rfl (fun v ad1 dm1 w1 h => by obtain ⟨-, rfl, rfl, rfl, rfl⟩ := h; exact ⟨⟨_, rfl⟩, h2, rfl, (cw_lo (by decide) 0).trans ((mw_rest ad cs σ w0 (by decide) 0).trans he)⟩) (fun E h => h.1)) (vx_cwSW 3 F.1.2.2.2.2 gL_law_L_waiting rfl rfl rfl (by decide +kernel) ⟨Nat.le_of_ble_eq_true rfl, Nat.le_of_ble_eq_true rfl⟩) rfl rfl (Nat.le_of_ble_eq_true rfl) dL_law_1317 ⟨Nat.le_trans (Nat.add_le_add_left (show 1 ≤ 100 by decide) cells) hc.1, Nat.le_trans (Nat.add_le_add_left (show 6 ≤ 4000 by decide) slots) hc.2⟩ (fun rz ad1 dm1 w1 hv => ?_)
  have hx : ∃ (τ : SG) (bb : Int32) (t1 : Nat), t1 ≤ t + 100 ∧ (∀ W : CF, MD dm1 → Met l yX6_waiting wsX6_waiting ({ frames := 2, cells := 0, slots := 0, locals := 42 }) (va_Pc [.ref (ad1 0 0), .int (xs (i + 1))] (PW D A (tysG cs) ad1 dm1 (mw ad1 cs σ W))) (va_Qi (fun r (_ : Unit) => r = bb) (fun _ t => PW D A (tysG cs) ad1 dm1 (mw ad1 cs τ W) t) A) 0 0 A) ∧ NX D cs (ad 10 0) (ad 0 0) (ad 2 0) t1 σ τ bb True rz ad1 dm1 w1 := by
    refine ⟨_, _, t, Nat.le_add_right _ _, fun W hM1 => (mc_waiting l D A cs ad1 dm1 W σ (xs (i + 1)) n hM1 hn hn40), ?_⟩
    rcases hv with ⟨v, w2, hp, rfl, rfl⟩ | ⟨hp, rfl, rfl, rfl, rfl⟩
    · obtain ⟨hP, hr, rfl, rfl, rfl⟩ := hp
      have hP1 : recP (xs (i + 1)) := hP
      have e0 : bi (¬ recP (xs (i + 1))) = 0 := bi_f (fun q => q hP1)
      have ew : nI (Lx (5 + ix (xs (i + 1)))).length = wtF (up2 σ 32 0 0) (xs (i + 1)) n := by
        obtain ⟨ev9, hr9⟩ := ix_rec hP
        have z := wt_eq (σ := up2 σ 32 0 0) hr9 n (fun j hj => by unfold roOK; rw [up2_k (by decide)]; exact (hmm j hj).2.1)
        rw [← ev9] at z
        rw [z, hQ _ hr9]
        exact congrArg (fun y => nI y.length) (qf_c (σ := σ) (τ := up2 σ 32 0 0) (fun j _ => by rw [up2_k (by decide), up2_k (by decide)]))
      simp only [if_pos hP1, e0]
      exact NX.good hC hlo hM h2 (fun _ _ _ => rfl) (hI.up 0) ((AG.id σ).upl n32 0 0) (up2_self _ _ _ _) ((Value.int.inj (Option.some.inj hr)).trans ew)
    · have hP1 : ¬ recP (xs (i + 1)) := fun q => hp.2 q
      have e1 : bi (¬ recP (xs (i + 1))) = 1 := bi_t hP1
      simp only [if_neg hP1, e1]
      exact NX.thr hC hlo hM h2 hI he (by decide)
  obtain ⟨τ, bb, t1, ht1, hMet, n1, tq1, L1, c1, m1, e1, z1, x1, y1, k1, u1, w01, f91, hC1, hlo1, hM1, h21, ha1, hI1, he1, rfl, rfl, hcmp⟩ := hx
  refine g_widen (cells1 := cells + 100) (slots1 := slots + 4000) (Nat.add_le_add_left (by decide) _) (Nat.add_le_add_left (by decide) _) ?_
  refine g_st (st1 := [.int (τ 32 0)]) rfl ?_
  refine g_istore F (lv1 := [(5, .int (τ 32 0)), (0, .ref b), (1, .ref (ad 10 0)), (2, .ref (ad 0 0)), (3, .ref (ad 2 0)), (4, .int (nI i))]) dL_law_1320 (by decide) rfl ?_
  refine g_aload_n F 3 dL_law_1322 rfl rfl ?_
  refine la_arg F (jb := 1) (ji := 5) (j := 1) (v := 1) hX hbl hbA rfl rfl hL9 (by omega) (by decide) (by decide) dL_law_1323 dL_law_1324 dL_law_1326 dL_law_1327 dL_law_1328 ?_
  refine g_st (st1 := [.int (xs (i + 1)), .ref (ad1 0 0)]) (by rw [ha1.2.1]) ?_
  refine g_callVi F (C := RX6) (k := 0) (i := 0) (ci := 6) (T := TX6) (N := 33) (rest := []) [.int (xs (i + 1))] (hMet _ hM1) (cwV 1 F.1.2.2.2.2 gL_law_X6_waiting rfl rfl rfl (by decide +kernel) ⟨Nat.le_of_ble_eq_true rfl, Nat.le_of_ble_eq_true rfl⟩) rfl hM1.1 rfl rfl rfl rfl (Nat.le_of_ble_eq_true rfl) dL_law_1329 (show cells + 100 + 0 ≤ room_1.cells ∧ slots + 4000 + 0 ≤ room_1.slots from hc) ?_
  exact la_tail F (n := n1) (tq := tq1) (σ := σ) (t := t) hM1 h21 ha1 he1 hcmp hc dL_law_1332 dL_law_1334 dL_law_1335 dL_law_1338 dL_law_1340 dL_law_1345 dL_law_1347 dL_law_1350 dL_law_1351 dL_law_1352 dL_law_1353 dL_law_1355 dL_law_1356 dL_law_1357 dL_law_1362 (by decide) (kk t1 τ ad1 dm1 _ ht1 ⟨n1, tq1, L1, c1, m1, e1, z1, x1, y1, k1, u1, w01, f91, hC1, hlo1, hM1, h21, ha1, hI1, he1, rfl⟩)
set_option maxHeartbeats 8000000 in
set_option maxRecDepth 100000 in
theorem op_next {p : Program} {l : Launch} {e : Env} {s : State} {m : MethodId} {args : Array Value} {below : List Frame} {meth : Method} {c : Code} {cells slots : Nat} {Q : State → Prop} {D : va_G} {A : Nat → Prop} {cs : Nat → ClassId} {ad : Nat → Nat → Nat} {dm : Nat → Nat → Prop} (F : FX p s m args c cL_law 9 wsL_law RL D A (tysG cs)) {b L i x0 xm xo t : Nat} {xs : Nat → Int32} {σ : SG} {w : CF} (hX : va_X b L xs s s.heap) (hbl : b < s.heap.size) (hbA : ¬ A b) (hL9 : L ≤ 2560) (hi : i + 4 < L) (hfl : l.stackTraces = false) (ht : t < 900000) (hLI : LI D cs x0 xm xo t σ ad dm w) (hc : cells + 100 ≤ 601024 ∧ slots + 4000 ≤ 7293034) (kk : ∀ (t1 : Nat) (τ : SG) (ad1 : Nat → Nat → Nat) (dm1 : Nat → Nat → Prop) (w1 : CF), t1 ≤ t + 100 → LI D cs x0 xm xo t1 τ ad1 dm1 w1 → GG p l e room_1 s m args below meth c D A ad1 dm1 9 (cells + 100) (slots + 4000) Q w1 1645 [(0, .ref b), (1, .ref x0), (2, .ref xm), (3, .ref xo), (4, .int (nI i))] []) : GG p l e room_1 s m args below meth c D A ad dm 9 cells slots Q w 1365 [(0, .ref b), (1, .ref x0), (2, .ref xm), (3, .ref xo), (4, .int (nI i))] [] := by
  obtain ⟨n, tq, Lx, cap, mk, ev, zl, tx, mt, tn, tc, w0, f9, hC0, hlo, hM0, h20, ⟨rfl, rfl, rfl⟩, hI, he, rfl⟩ := hLI
  refine g_forget (dm1 := rs9 dm n tq) (ad1 := ad) (w1 := mw ad cs σ (cw D ad cs σ Lx cap mk ev zl tx mt tn tc w0)) (fun k i q => q.1) (fun _ _ _ => rfl) (fun _ _ _ => rfl) ?_
  have hC := rs9_CD hC0
  have hM := rs9_MD hM0 n tq
  have hub := rs9_UB dm n tq
  have h2 : rs9 dm n tq 2 0 := ⟨h20, .inl (by decide)⟩
  generalize rs9 dm n tq = d9 at hC hM hub h2 ⊢
  refine g_w (mw_cw D ad ad cs σ σ Lx cap mk ev zl tx mt tn tc w0 (fun _ => rfl)) ?_
  have hn40 := hI.1
  have hn := hI.2.1
  have hLV := hI.2.2.1
  have hL : Lx 0 = List.range n := hLV.2.1.1.1
  have hQ : ∀ r, r < 6 → Lx (5 + r) = qf σ n r := hLV.2.1.1.2
  have hIC : IC n σ Lx := hLV.2.1.2.1
  have hmm : ∀ j, j < n → okM σ j := hLV.2.2.2.2
  have hmt := hI.hmt
  have heC : (cw D ad cs σ Lx cap mk ev zl tx mt tn tc (mw ad cs σ w0)) 2 0 = .inl (cs 2, 1, .inr (.inl f9)) := (cw_lo (by decide) 0).trans ((mw_rest ad cs σ w0 (by decide) 0).trans he)
  refine g_aload_n F 1 dL_law_1365 rfl rfl ?_
  refine la_arg F (jb := 0) (ji := 4) (j := 1) (v := 1) hX hbl hbA rfl rfl hL9 (by omega) (by decide) (by decide) dL_law_1366 dL_law_1367 dL_law_1369 dL_law_1370 dL_law_1371 ?_
  refine g_aload_n F 3 dL_law_1372 rfl rfl ?_
  refine q_callSW F (rest := []) [.ref (ad 10 0), .int (xs (i + 1)), .ref (ad 2 0)] (lh_next l D A cs ad d9 (cw D ad cs σ Lx cap mk ev zl tx mt tn tc (mw ad cs σ w0)) (xs (i + 1)) (cc_next l D A cs ad d9 σ Lx cap mk ev zl tx mt tn tc (mw ad cs σ w0) n tq hC (xs (i + 1)) hlo hfl) hC.1 rfl (fun v ad1 dm1 w1 h => by obtain ⟨-, rfl, rfl, rfl, rfl⟩ := h; exact ⟨⟨_, rfl⟩, h2, rfl, (cw_lo (by decide) 0).trans ((mw_rest ad cs σ w0 (by decide) 0).trans he)⟩) (fun E h => h.1)) (vx_cwSW 3 F.1.2.2.2.2 gL_law_L_next rfl rfl rfl (by decide +kernel) ⟨Nat.le_of_ble_eq_true rfl, Nat.le_of_ble_eq_true rfl⟩) rfl rfl (Nat.le_of_ble_eq_true rfl) dL_law_1373 ⟨Nat.le_trans (Nat.add_le_add_left (show 1 ≤ 100 by decide) cells) hc.1, Nat.le_trans (Nat.add_le_add_left (show 6 ≤ 4000 by decide) slots) hc.2⟩ (fun rz ad1 dm1 w1 hv => ?_)
  have hx : ∃ (τ : SG) (bb : Int32) (t1 : Nat), t1 ≤ t + 100 ∧ (∀ W : CF, MD dm1 → Met l yX6_next wsX6_next ({ frames := 2, cells := 0, slots := 0, locals := 48 }) (va_Pc [.ref (ad1 0 0), .int (xs (i + 1))] (PW D A (tysG cs) ad1 dm1 (mw ad1 cs σ W))) (va_Qi (fun r (_ : Unit) => r = bb) (fun _ t => PW D A (tysG cs) ad1 dm1 (mw ad1 cs τ W) t) A) 0 0 A) ∧ NX D cs (ad 10 0) (ad 0 0) (ad 2 0) t1 σ τ bb True rz ad1 dm1 w1 := by
    refine ⟨_, _, t, Nat.le_add_right _ _, fun W hM1 => (mc_next l D A cs ad1 dm1 W σ (xs (i + 1)) n hM1 hn hn40), ?_⟩
    rcases hv with ⟨v, w2, hp, rfl, rfl⟩ | ⟨hp, rfl, rfl, rfl, rfl⟩
    · obtain ⟨hP, hr, rfl, rfl, rfl⟩ := hp
      have hP1 : recP (xs (i + 1)) := hP
      have e0 : bi (¬ recP (xs (i + 1))) = 0 := bi_f (fun q => q hP1)
      have ew : ovN (frL σ 2147483647 (Lx (5 + ix (xs (i + 1))))) = frF (up2 σ 32 0 0) (xs (i + 1)) 2147483647 n := by
        obtain ⟨ev9, hr9⟩ := ix_rec hP
        have z := fr_eq (σ := up2 σ 32 0 0) (t := 2147483647) hr9 n hn40 (fun j hj => by unfold roOK; rw [up2_k (by decide)]; exact (hmm j hj).2.1)
        rw [← ev9] at z
        rw [z, hQ _ hr9, frL_AG ((AG.id σ).upl n32 0 0 : AG (up2 σ 32 0 0) σ), qf_c (σ := up2 σ 32 0 0) (τ := σ) (fun j _ => by rw [up2_k (by decide), up2_k (by decide)])]
      simp only [if_pos hP1, e0]
      exact NX.good hC hlo hM h2 (fun _ _ _ => rfl) (hI.up 0) ((AG.id σ).upl n32 0 0) (up2_self _ _ _ _) ((Value.int.inj (Option.some.inj hr)).trans ew)
    · have hP1 : ¬ recP (xs (i + 1)) := fun q => hp.2 q
      have e1 : bi (¬ recP (xs (i + 1))) = 1 := bi_t hP1
      simp only [if_neg hP1, e1]
      exact NX.thr hC hlo hM h2 hI he (by decide)
  obtain ⟨τ, bb, t1, ht1, hMet, n1, tq1, L1, c1, m1, e1, z1, x1, y1, k1, u1, w01, f91, hC1, hlo1, hM1, h21, ha1, hI1, he1, rfl, rfl, hcmp⟩ := hx
  refine g_widen (cells1 := cells + 100) (slots1 := slots + 4000) (Nat.add_le_add_left (by decide) _) (Nat.add_le_add_left (by decide) _) ?_
  refine g_st (st1 := [.int (τ 32 0)]) rfl ?_
  refine g_istore F (lv1 := [(5, .int (τ 32 0)), (0, .ref b), (1, .ref (ad 10 0)), (2, .ref (ad 0 0)), (3, .ref (ad 2 0)), (4, .int (nI i))]) dL_law_1376 (by decide) rfl ?_
  refine g_aload_n F 3 dL_law_1378 rfl rfl ?_
  refine la_arg F (jb := 1) (ji := 5) (j := 1) (v := 1) hX hbl hbA rfl rfl hL9 (by omega) (by decide) (by decide) dL_law_1379 dL_law_1380 dL_law_1382 dL_law_1383 dL_law_1384 ?_
  refine g_st (st1 := [.int (xs (i + 1)), .ref (ad1 0 0)]) (by rw [ha1.2.1]) ?_
  refine g_callVi F (C := RX6) (k := 0) (i := 0) (ci := 6) (T := TX6) (N := 33) (rest := []) [.int (xs (i + 1))] (hMet _ hM1) (cwV 1 F.1.2.2.2.2 gL_law_X6_next rfl rfl rfl (by decide +kernel) ⟨Nat.le_of_ble_eq_true rfl, Nat.le_of_ble_eq_true rfl⟩) rfl hM1.1 rfl rfl rfl rfl (Nat.le_of_ble_eq_true rfl) dL_law_1385 (show cells + 100 + 0 ≤ room_1.cells ∧ slots + 4000 + 0 ≤ room_1.slots from hc) ?_
  exact la_tail F (n := n1) (tq := tq1) (σ := σ) (t := t) hM1 h21 ha1 he1 hcmp hc dL_law_1388 dL_law_1390 dL_law_1391 dL_law_1394 dL_law_1396 dL_law_1401 dL_law_1403 dL_law_1406 dL_law_1407 dL_law_1408 dL_law_1409 dL_law_1411 dL_law_1412 dL_law_1413 dL_law_1418 (by decide) (kk t1 τ ad1 dm1 _ ht1 ⟨n1, tq1, L1, c1, m1, e1, z1, x1, y1, k1, u1, w01, f91, hC1, hlo1, hM1, h21, ha1, hI1, he1, rfl⟩)
set_option maxHeartbeats 8000000 in
set_option maxRecDepth 100000 in
theorem op_receipts {p : Program} {l : Launch} {e : Env} {s : State} {m : MethodId} {args : Array Value} {below : List Frame} {meth : Method} {c : Code} {cells slots : Nat} {Q : State → Prop} {D : va_G} {A : Nat → Prop} {cs : Nat → ClassId} {ad : Nat → Nat → Nat} {dm : Nat → Nat → Prop} (F : FX p s m args c cL_law 9 wsL_law RL D A (tysG cs)) {b L i x0 xm xo t : Nat} {xs : Nat → Int32} {σ : SG} {w : CF} (hX : va_X b L xs s s.heap) (hbl : b < s.heap.size) (hbA : ¬ A b) (hL9 : L ≤ 2560) (hi : i + 4 < L) (hfl : l.stackTraces = false) (ht : t < 900000) (hLI : LI D cs x0 xm xo t σ ad dm w) (hc : cells + 100 ≤ 601024 ∧ slots + 4000 ≤ 7293034) (kk : ∀ (t1 : Nat) (τ : SG) (ad1 : Nat → Nat → Nat) (dm1 : Nat → Nat → Prop) (w1 : CF), t1 ≤ t + 100 → LI D cs x0 xm xo t1 τ ad1 dm1 w1 → GG p l e room_1 s m args below meth c D A ad1 dm1 9 (cells + 100) (slots + 4000) Q w1 1645 [(0, .ref b), (1, .ref x0), (2, .ref xm), (3, .ref xo), (4, .int (nI i))] []) : GG p l e room_1 s m args below meth c D A ad dm 9 cells slots Q w 1490 [(0, .ref b), (1, .ref x0), (2, .ref xm), (3, .ref xo), (4, .int (nI i))] [] := by
  obtain ⟨n, tq, Lx, cap, mk, ev, zl, tx, mt, tn, tc, w0, f9, hC0, hlo, hM0, h20, ⟨rfl, rfl, rfl⟩, hI, he, rfl⟩ := hLI
  refine g_forget (dm1 := rs9 dm n tq) (ad1 := ad) (w1 := mw ad cs σ (cw D ad cs σ Lx cap mk ev zl tx mt tn tc w0)) (fun k i q => q.1) (fun _ _ _ => rfl) (fun _ _ _ => rfl) ?_
  have hC := rs9_CD hC0
  have hM := rs9_MD hM0 n tq
  have hub := rs9_UB dm n tq
  have h2 : rs9 dm n tq 2 0 := ⟨h20, .inl (by decide)⟩
  generalize rs9 dm n tq = d9 at hC hM hub h2 ⊢
  refine g_w (mw_cw D ad ad cs σ σ Lx cap mk ev zl tx mt tn tc w0 (fun _ => rfl)) ?_
  have hn40 := hI.1
  have hn := hI.2.1
  have hLV := hI.2.2.1
  have hL : Lx 0 = List.range n := hLV.2.1.1.1
  have hQ : ∀ r, r < 6 → Lx (5 + r) = qf σ n r := hLV.2.1.1.2
  have hIC : IC n σ Lx := hLV.2.1.2.1
  have hmm : ∀ j, j < n → okM σ j := hLV.2.2.2.2
  have hmt := hI.hmt
  have heC : (cw D ad cs σ Lx cap mk ev zl tx mt tn tc (mw ad cs σ w0)) 2 0 = .inl (cs 2, 1, .inr (.inl f9)) := (cw_lo (by decide) 0).trans ((mw_rest ad cs σ w0 (by decide) 0).trans he)
  refine g_aload_n F 1 dL_law_1490 rfl rfl ?_
  refine la_arg F (jb := 0) (ji := 4) (j := 1) (v := 1) hX hbl hbA rfl rfl hL9 (by omega) (by decide) (by decide) dL_law_1491 dL_law_1492 dL_law_1494 dL_law_1495 dL_law_1496 ?_
  refine g_aload_n F 3 dL_law_1497 rfl rfl ?_
  refine q_callSW F (rest := []) [.ref (ad 10 0), .int (xs (i + 1)), .ref (ad 2 0)] (lh_receipts l D A cs ad d9 (cw D ad cs σ Lx cap mk ev zl tx mt tn tc (mw ad cs σ w0)) (xs (i + 1)) (cc_receipts l D A cs ad d9 σ Lx cap mk ev zl tx mt tn tc (mw ad cs σ w0) n tq hC (xs (i + 1)) hfl) hC.1 rfl (fun v ad1 dm1 w1 h => by obtain ⟨-, rfl, rfl, rfl, rfl⟩ := h; exact ⟨⟨_, rfl⟩, h2, rfl, (cw_lo (by decide) 0).trans ((mw_rest ad cs σ w0 (by decide) 0).trans he)⟩) (fun E h => h.1)) (vx_cwSW 3 F.1.2.2.2.2 gL_law_L_receipts rfl rfl rfl (by decide +kernel) ⟨Nat.le_of_ble_eq_true rfl, Nat.le_of_ble_eq_true rfl⟩) rfl rfl (Nat.le_of_ble_eq_true rfl) dL_law_1498 ⟨Nat.le_trans (Nat.add_le_add_left (show 1 ≤ 100 by decide) cells) hc.1, Nat.le_trans (Nat.add_le_add_left (show 6 ≤ 4000 by decide) slots) hc.2⟩ (fun rz ad1 dm1 w1 hv => ?_)
  have hx : ∃ (τ : SG) (bb : Int32) (t1 : Nat), t1 ≤ t + 100 ∧ (∀ W : CF, MD dm1 → Met l yX6_receipts wsX6_receipts ({ frames := 2, cells := 0, slots := 0, locals := 42 }) (va_Pc [.ref (ad1 0 0), .int (xs (i + 1))] (PW D A (tysG cs) ad1 dm1 (mw ad1 cs σ W))) (va_Qi (fun r (_ : Unit) => r = bb) (fun _ t => PW D A (tysG cs) ad1 dm1 (mw ad1 cs τ W) t) A) 0 0 A) ∧ NX D cs (ad 10 0) (ad 0 0) (ad 2 0) t1 σ τ bb True rz ad1 dm1 w1 := by
    refine ⟨_, _, t, Nat.le_add_right _ _, fun W hM1 => (mc_receipts l D A cs ad1 dm1 W σ (xs (i + 1)) hM1), ?_⟩
    rcases hv with ⟨v, w2, hp, rfl, rfl⟩ | ⟨hp, rfl, rfl, rfl, rfl⟩
    · obtain ⟨hP, hr, rfl, rfl, rfl⟩ := hp
      have hP1 : accP (xs (i + 1)) := hP
      have e0 : bi (¬ accP (xs (i + 1))) = 0 := bi_f (fun q => q hP1)
      simp only [if_pos hP1, e0]
      exact NX.good hC hlo hM h2 (fun _ _ _ => rfl) (hI.up 0) ((AG.id σ).upl n32 0 0) (up2_self _ _ _ _) ((Value.int.inj (Option.some.inj hr)).trans (hIC _ (ix_acc hP).2).1.symm)
    · have hP1 : ¬ accP (xs (i + 1)) := fun q => hp.2 q
      have e1 : bi (¬ accP (xs (i + 1))) = 1 := bi_t hP1
      simp only [if_neg hP1, e1]
      exact NX.thr hC hlo hM h2 hI he (by decide)
  obtain ⟨τ, bb, t1, ht1, hMet, n1, tq1, L1, c1, m1, e1, z1, x1, y1, k1, u1, w01, f91, hC1, hlo1, hM1, h21, ha1, hI1, he1, rfl, rfl, hcmp⟩ := hx
  refine g_widen (cells1 := cells + 100) (slots1 := slots + 4000) (Nat.add_le_add_left (by decide) _) (Nat.add_le_add_left (by decide) _) ?_
  refine g_st (st1 := [.int (τ 32 0)]) rfl ?_
  refine g_istore F (lv1 := [(5, .int (τ 32 0)), (0, .ref b), (1, .ref (ad 10 0)), (2, .ref (ad 0 0)), (3, .ref (ad 2 0)), (4, .int (nI i))]) dL_law_1501 (by decide) rfl ?_
  refine g_aload_n F 3 dL_law_1503 rfl rfl ?_
  refine la_arg F (jb := 1) (ji := 5) (j := 1) (v := 1) hX hbl hbA rfl rfl hL9 (by omega) (by decide) (by decide) dL_law_1504 dL_law_1505 dL_law_1507 dL_law_1508 dL_law_1509 ?_
  refine g_st (st1 := [.int (xs (i + 1)), .ref (ad1 0 0)]) (by rw [ha1.2.1]) ?_
  refine g_callVi F (C := RX6) (k := 0) (i := 0) (ci := 6) (T := TX6) (N := 33) (rest := []) [.int (xs (i + 1))] (hMet _ hM1) (cwV 1 F.1.2.2.2.2 gL_law_X6_receipts rfl rfl rfl (by decide +kernel) ⟨Nat.le_of_ble_eq_true rfl, Nat.le_of_ble_eq_true rfl⟩) rfl hM1.1 rfl rfl rfl rfl (Nat.le_of_ble_eq_true rfl) dL_law_1510 (show cells + 100 + 0 ≤ room_1.cells ∧ slots + 4000 + 0 ≤ room_1.slots from hc) ?_
  exact la_tail F (n := n1) (tq := tq1) (σ := σ) (t := t) hM1 h21 ha1 he1 hcmp hc dL_law_1513 dL_law_1515 dL_law_1516 dL_law_1519 dL_law_1521 dL_law_1526 dL_law_1528 dL_law_1531 dL_law_1532 dL_law_1533 dL_law_1534 dL_law_1536 dL_law_1537 dL_law_1538 dL_law_1543 (by decide) (kk t1 τ ad1 dm1 _ ht1 ⟨n1, tq1, L1, c1, m1, e1, z1, x1, y1, k1, u1, w01, f91, hC1, hlo1, hM1, h21, ha1, hI1, he1, rfl⟩)
