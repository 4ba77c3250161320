set_option maxHeartbeats 8000000 in
set_option maxRecDepth 100000 in
theorem op_state {p : Program} {l : Launch} {e : Env} {s : State} {m : MethodId} {args : Array Value} {below : List Frame} {meth : Method} {c : Code} {cells slots : Nat} {Q : State → Prop} {D : va_G} {A : Nat → Prop} {cs : Nat → ClassId} {ad : Nat → Nat → Nat} {dm : Nat → Nat → Prop} (F : FX p s m args c cL_law 9 wsL_law RL D A (tysG cs)) {b L i x0 xm xo t : Nat} {xs : Nat → Int32} {σ : SG} {w : CF} (hX : va_X b L xs s s.heap) (hbl : b < s.heap.size) (hbA : ¬ A b) (hL9 : L ≤ 2560) (hi : i + 4 < L) (hfl : l.stackTraces = false) (ht : t < 900000) (hLI : LI D cs x0 xm xo t σ ad dm w) (hc : cells + 100 ≤ 601024 ∧ slots + 4000 ≤ 7293034) (kk : ∀ (t1 : Nat) (τ : SG) (ad1 : Nat → Nat → Nat) (dm1 : Nat → Nat → Prop) (w1 : CF), t1 ≤ t + 100 → LI D cs x0 xm xo t1 τ ad1 dm1 w1 → GG p l e room_1 s m args below meth c D A ad1 dm1 9 (cells + 100) (slots + 4000) Q w1 1645 [(0, .ref b), (1, .ref x0), (2, .ref xm), (3, .ref xo), (4, .int (nI i))] []) : GG p l e room_1 s m args below meth c D A ad dm 9 cells slots Q w 589 [(0, .ref b), (1, .ref x0), (2, .ref xm), (3, .ref xo), (4, .int (nI i))] [] := by
  obtain ⟨n, tq, Lx, cap, mk, ev, zl, tx, mt, tn, tc, w0, f9, hC0, hlo, hM0, h20, ⟨rfl, rfl, rfl⟩, hI, he, rfl⟩ := hLI
  refine g_forget (dm1 := rs9 dm n tq) (ad1 := ad) (w1 := mw ad cs σ (cw D ad cs σ Lx cap mk ev zl tx mt tn tc w0)) (fun k i q => q.1) (fun _ _ _ => rfl) (fun _ _ _ => rfl) ?_
  have hC := rs9_CD hC0
  have hM := rs9_MD hM0 n tq
  have hub := rs9_UB dm n tq
  have h2 : rs9 dm n tq 2 0 := ⟨h20, .inl (by decide)⟩
  generalize rs9 dm n tq = d9 at hC hM hub h2 ⊢
  refine g_w (mw_cw D ad ad cs σ σ Lx cap mk ev zl tx mt tn tc w0 (fun _ => rfl)) ?_
  have hn40 := hI.1
  have hn := hI.2.1
  have hLV := hI.2.2.1
  have hL : Lx 0 = List.range n := hLV.2.1.1.1
  have hQ : ∀ r, r < 6 → Lx (5 + r) = qf σ n r := hLV.2.1.1.2
  have hIC : IC n σ Lx := hLV.2.1.2.1
  have hmm : ∀ j, j < n → okM σ j := hLV.2.2.2.2
  have hmt := hI.hmt
  have heC : (cw D ad cs σ Lx cap mk ev zl tx mt tn tc (mw ad cs σ w0)) 2 0 = .inl (cs 2, 1, .inr (.inl f9)) := (cw_lo (by decide) 0).trans ((mw_rest ad cs σ w0 (by decide) 0).trans he)
  refine g_aload_n F 1 dL_law_589 rfl rfl ?_
  refine la_arg F (jb := 0) (ji := 4) (j := 1) (v := 1) hX hbl hbA rfl rfl hL9 (by omega) (by decide) (by decide) dL_law_590 dL_law_591 dL_law_593 dL_law_594 dL_law_595 ?_
  refine g_aload_n F 3 dL_law_596 rfl rfl ?_
  refine q_callSW F (rest := []) [.ref (ad 10 0), .int (xs (i + 1)), .ref (ad 2 0)] (lh_state l D A cs ad d9 (cw D ad cs σ Lx cap mk ev zl tx mt tn tc (mw ad cs σ w0)) (xs (i + 1)) (cc_state l D A cs ad d9 σ Lx cap mk ev zl tx mt tn tc (mw ad cs σ w0) n tq hC (xs (i + 1)) hn40 hL hlo hfl) hC.1 rfl (fun v ad1 dm1 w1 h => by obtain ⟨-, rfl, rfl, rfl, rfl⟩ := h; exact ⟨⟨_, rfl⟩, h2, rfl, heC⟩) (fun E h => h.1)) (vx_cwSW 3 F.1.2.2.2.2 gL_law_L_state rfl rfl rfl (by decide +kernel) ⟨Nat.le_of_ble_eq_true rfl, Nat.le_of_ble_eq_true rfl⟩) rfl rfl (Nat.le_of_ble_eq_true rfl) dL_law_597 ⟨Nat.le_trans (Nat.add_le_add_left (show 1 ≤ 100 by decide) cells) hc.1, Nat.le_trans (Nat.add_le_add_left (show 6 ≤ 4000 by decide) slots) hc.2⟩ (fun rz ad1 dm1 w1 hv => ?_)
  have hx : ∃ (τ : SG) (bb : Int32) (t1 : Nat), t1 ≤ t + 100 ∧ (∀ W : CF, MD dm1 → Met l yX6_state wsX6_state ({ frames := 3, cells := 0, slots := 0, locals := 65 }) (va_Pc [.ref (ad1 0 0), .int (xs (i + 1))] (PW D A (tysG cs) ad1 dm1 (mw ad1 cs σ W))) (va_Qi (fun r (_ : Unit) => r = bb) (fun _ t => PW D A (tysG cs) ad1 dm1 (mw ad1 cs τ W) t) A) 0 0 A) ∧ NX D cs (ad 10 0) (ad 0 0) (ad 2 0) t1 σ τ bb True rz ad1 dm1 w1 := by
    refine ⟨_, _, t, Nat.le_add_right _ _, fun W hM1 => (mc_state l D A cs ad1 dm1 W σ (xs (i + 1)) n hM1 hn hn40), ?_⟩
    rcases hv with ⟨v, w2, hp, rfl, rfl⟩ | ⟨hp, rfl, rfl, rfl, rfl⟩
    · obtain ⟨hP, hr, rfl, rfl, rfl⟩ := hp
      have hP1 : inR (xs (i + 1)) 0 ((σ 11 0) - 1) := (by rw [hn]; exact hP)
      have e0 : bi (¬ inR (xs (i + 1)) 0 ((σ 11 0) - 1)) = 0 := bi_f (fun q => q hP1)
      simp only [if_pos hP1, e0]
      exact NX.good hC hlo hM h2 (fun _ _ _ => rfl) (hI.up 0) ((AG.id σ).upl n32 0 0) (up2_self _ _ _ _) ((Value.int.inj (Option.some.inj hr)).trans rfl)
    · have hP1 : ¬ inR (xs (i + 1)) 0 ((σ 11 0) - 1) := fun q => hp.2 (by rw [hn] at q; exact q)
      have e1 : bi (¬ inR (xs (i + 1)) 0 ((σ 11 0) - 1)) = 1 := bi_t hP1
      simp only [if_neg hP1, e1]
      exact NX.thr hC hlo hM h2 hI he (by decide)
  obtain ⟨τ, bb, t1, ht1, hMet, n1, tq1, L1, c1, m1, e1, z1, x1, y1, k1, u1, w01, f91, hC1, hlo1, hM1, h21, ha1, hI1, he1, rfl, rfl, hcmp⟩ := hx
  refine g_widen (cells1 := cells + 100) (slots1 := slots + 4000) (Nat.add_le_add_left (by decide) _) (Nat.add_le_add_left (by decide) _) ?_
  refine g_st (st1 := [.int (τ 32 0)]) rfl ?_
  refine g_istore F (lv1 := [(5, .int (τ 32 0)), (0, .ref b), (1, .ref (ad 10 0)), (2, .ref (ad 0 0)), (3, .ref (ad 2 0)), (4, .int (nI i))]) dL_law_600 (by decide) rfl ?_
  refine g_aload_n F 3 dL_law_602 rfl rfl ?_
  refine la_arg F (jb := 1) (ji := 5) (j := 1) (v := 1) hX hbl hbA rfl rfl hL9 (by omega) (by decide) (by decide) dL_law_603 dL_law_604 dL_law_606 dL_law_607 dL_law_608 ?_
  refine g_st (st1 := [.int (xs (i + 1)), .ref (ad1 0 0)]) (by rw [ha1.2.1]) ?_
  refine g_callVi F (C := RX6) (k := 0) (i := 0) (ci := 6) (T := TX6) (N := 33) (rest := []) [.int (xs (i + 1))] (hMet _ hM1) (cwV 1 F.1.2.2.2.2 gL_law_X6_state rfl rfl rfl (by decide +kernel) ⟨Nat.le_of_ble_eq_true rfl, Nat.le_of_ble_eq_true rfl⟩) rfl hM1.1 rfl rfl rfl rfl (Nat.le_of_ble_eq_true rfl) dL_law_609 (show cells + 100 + 0 ≤ room_1.cells ∧ slots + 4000 + 0 ≤ room_1.slots from hc) ?_
  exact la_tail F (n := n1) (tq := tq1) (σ := σ) (t := t) hM1 h21 ha1 he1 hcmp hc dL_law_612 dL_law_614 dL_law_615 dL_law_618 dL_law_620 dL_law_625 dL_law_627 dL_law_630 dL_law_631 dL_law_632 dL_law_633 dL_law_635 dL_law_636 dL_law_637 dL_law_642 (by decide) (kk t1 τ ad1 dm1 _ ht1 ⟨n1, tq1, L1, c1, m1, e1, z1, x1, y1, k1, u1, w01, f91, hC1, hlo1, hM1, h21, ha1, hI1, he1, rfl⟩)
