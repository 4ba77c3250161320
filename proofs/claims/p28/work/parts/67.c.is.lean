theorem tn_0 (σ : SG) : (0 : Int32) - nI (totd σ 0) = 0 := by
  show (0 : Int32) - nI 0 = 0
  decide
theorem tn_s {σ : SG} {k d : Nat} (h : σ 24 k = nI d) (hd : d ≤ 500) : (0 - nI (totd σ k)) - nI d = (0 : Int32) - nI (totd σ (k + 1)) := by
  show _ = (0 : Int32) - nI (totd σ k + ix (σ 24 k))
  rw [h, ix_nI (by omega), ← nI_add, Int32.sub_sub]
theorem tp_0 (v : Int32) (τ : SG) : v + nI (totd τ 0) = v := Int32.add_zero v
theorem tp_s {τ : SG} {k d : Nat} {v : Int32} (h : τ 24 k = nI d) (hd : d ≤ 500) : (v + nI (totd τ k)) + nI d = v + nI (totd τ (k + 1)) := by
  show _ = v + nI (totd τ k + ix (τ 24 k))
  rw [h, ix_nI (by omega), ← nI_add, Int32.add_assoc]
theorem tt_v {σ τ : SG} {n c : Nat} (h : totd τ n = totd σ n + c) : ((0 : Int32) - nI (totd σ n)) + nI (totd τ n) = nI c := by
  rw [h, ← nI_add, ← Int32.add_assoc, Int32.sub_add_cancel]
  exact Int32.zero_add _
theorem up2_same {α : Type} {f : Nat → Nat → α} {k i : Nat} {v : α} (h : f k i = v) : up2 f k i v = f := by
  funext a b
  by_cases c : a = k ∧ b = i
  · rw [c.1, c.2, up2_self, h]
  · rw [up2_ne _ _ c]
set_option maxHeartbeats 4000000 in
set_option maxRecDepth 100000 in
theorem lw_isPassed (l : Launch) (D : va_G) (A : Nat → Prop) (cs : Nat → ClassId) (ad : Nat → Nat → Nat) (dm : Nat → Nat → Prop) (σ : SG) (Lx : Nat → List Nat) (cap : Nat → Nat) (mk : Nat → Int32) (ev : SG) (zl tx mt tn : Nat → Nat) (tc : SG) (la : SG) (wz : CF) (n tq t : Nat) (kt rd : Nat → Nat) (hC : CD dm n cap tq) (hd7 : ∀ k, 1 ≤ k → k ≤ 7 → dm k 0) (hlo : LO n Lx cap) (hI : INV n tq t σ Lx ev zl tx mt tn tc) (hJ : LJ n t σ la Lx kt rd) (htb : t ≤ 100000) (hfl : l.stackTraces = false) (o1 : Nat) (ho1 : o1 ≤ 10000) : Met l yL_isPassed wsL_isPassed ({ frames := 12, cells := 100, slots := 3000, locals := 356 }) (va_Pc [.ref (ad 10 0), .ref (ad 3 0), .ref (ad 7 0), .int (nI o1)] (PW D A (tysG cs) ad dm (cw D ad cs σ Lx cap mk ev zl tx mt tn tc (lwd cs la wz)))) (QW D A (tysG cs) (fun rz ad1 dm1 w1 => rz = some (.int 1) ∧ PS D cs (fun k => ad k 0) (t + 100) ad1 dm1 w1)) 100 3000 A := by
  refine g_start (own := RL) [.ref (ad 10 0), .ref (ad 3 0), .ref (ad 7 0), .int (nI o1)] (cc := cL_isPassed) (maxL := 8) (ret := (some .boolean)) (lv0 := [(0, .ref (ad 10 0)), (1, .ref (ad 3 0)), (2, .ref (ad 7 0)), (3, .int (nI o1))]) (by decide) rfl rfl (Nat.le_of_ble_eq_true rfl) rfl ?_
  intro p e s m below meth c F hr hlocks hno
  have hn40 : n ≤ 40 := hI.1
  have hn23 : n ≤ 23 := hJ.1
  have hL : Lx 0 = List.range n := hI.2.2.1.2.1.1.1
  have hmt := hI.hmt
  have hmm : ∀ j, j < n → okM σ j := hI.2.2.1.2.2.2.2
  have hlg : ∀ j, j < n → zl j ≤ elen σ j ∧ elen σ j ≤ 1000 := fun j hj => ⟨(hI.2.2.1.2.2.1 j hj).2.2.2, by have := (hmm j hj).2.2.2.2.2; unfold elen; omega⟩
  have hg0 : la 7 0 = nI n := hJ.2.1
  have hg1 : la 7 1 = nI t := hJ.2.2.1
  have hnow : σ 0 0 = nI t := hI.2.2.1.2.1.2.2.2.1
  refine g_forget (dm1 := rs9 dm n tq) (ad1 := ad) (w1 := (cw D ad cs σ Lx cap mk ev zl tx mt tn tc (lwd cs la wz))) (fun k i q => q.1) (fun _ _ _ => rfl) (fun _ _ _ => rfl) ?_
  have hC9 := rs9_CD hC
  have hub := rs9_UB dm n tq
  have hd79 : ∀ k, 1 ≤ k → k ≤ 7 → rs9 dm n tq k 0 := fun k h1 h2 => ⟨hd7 k h1 h2, .inl (by omega)⟩
  generalize rs9 dm n tq = d9 at hC9 hub hd79 ⊢
  refine g_iload_n F 3 dL_isPassed_0 rfl rfl ?_
  refine g_cut (w2 := (cw D ad cs σ Lx cap mk ev zl tx mt tn tc (lwd cs la wz))) (pc2 := 15) (lv2 := [(0, .ref (ad 10 0)), (1, .ref (ad 3 0)), (2, .ref (ad 7 0)), (3, .int (nI o1))]) (st2 := [.int (bi (((¬ (nI o1) ≤ 0) ∧ (¬ 101 ≤ (nI o1)))))]) ?_ (fun zhJ1 => ?_)
  ·
    refine g_istore F (lv1 := [(4, .int (bi (((¬ (nI o1) ≤ 0) ∧ (¬ 101 ≤ (nI o1)))))), (0, .ref (ad 10 0)), (1, .ref (ad 3 0)), (2, .ref (ad 7 0)), (3, .int (nI o1))]) dL_isPassed_15 (by decide) rfl ?_
    refine g_iconst F dL_isPassed_17 (v := 0) (by decide) ?_
    refine g_istore F (lv1 := [(5, .int 0), (4, .int (bi (((¬ (nI o1) ≤ 0) ∧ (¬ 101 ≤ (nI o1)))))), (0, .ref (ad 10 0)), (1, .ref (ad 3 0)), (2, .ref (ad 7 0)), (3, .int (nI o1))]) dL_isPassed_18 (by decide) rfl ?_
    refine g_iconst F dL_isPassed_20 (v := 0) (by decide) ?_
    refine g_istore F (lv1 := [(6, .int 0), (5, .int 0), (4, .int (bi (((¬ (nI o1) ≤ 0) ∧ (¬ 101 ≤ (nI o1)))))), (0, .ref (ad 10 0)), (1, .ref (ad 3 0)), (2, .ref (ad 7 0)), (3, .int (nI o1))]) dL_isPassed_21 (by decide) rfl ?_
    refine g_lve (lv1 := [(6, .int (nI 0)), (5, .int (0 - nI (totd σ 0))), (4, .int (bi (((¬ (nI o1) ≤ 0) ∧ (¬ 101 ≤ (nI o1)))))), (0, .ref (ad 10 0)), (1, .ref (ad 3 0)), (2, .ref (ad 7 0)), (3, .int (nI o1))]) (by rw [tn_0]; rfl) ?_
    refine g_loopP n 0 (Nat.zero_le _) (fun zk ad1 dm1 w1 lv1 => ad = ad1 ∧ d9 = dm1 ∧ (cw D ad cs σ Lx cap mk ev zl tx mt tn tc (lwd cs la wz)) = w1 ∧ lv1 = [(6, .int (nI zk)), (5, .int (0 - nI (totd σ zk))), (4, .int (bi (((¬ (nI o1) ≤ 0) ∧ (¬ 101 ≤ (nI o1)))))), (0, .ref (ad 10 0)), (1, .ref (ad 3 0)), (2, .ref (ad 7 0)), (3, .int (nI o1))]) (fun zk => 0 + zk) (fun zk => 0 + 6 * zk) rfl rfl ⟨rfl, rfl, rfl, rfl⟩ ?_ (fun zk hz0 hz1 ih => ?_)
    ·
      intro ad1 dm1 w1 lv1 h9
      obtain ⟨rfl, rfl, rfl, rfl⟩ := h9
      show GG p l e _ s m _ below meth c D A ad d9 _ (0 + n) (0 + 6 * n) _ (cw D ad cs σ Lx cap mk ev zl tx mt tn tc (lwd cs la wz)) 23 [(6, .int (nI n)), (5, .int (0 - nI (totd σ n))), (4, .int (bi (((¬ (nI o1) ≤ 0) ∧ (¬ 101 ≤ (nI o1)))))), (0, .ref (ad 10 0)), (1, .ref (ad 3 0)), (2, .ref (ad 7 0)), (3, .int (nI o1))] []
      refine g_widen (cells1 := (0 + 23)) (slots1 := (0 + 138)) (show (0 + n) ≤ (0 + 23) by omega) (show (0 + 6 * n) ≤ (0 + 138) by omega) ?_
      refine g_iload F 0 dL_isPassed_23 rfl ?_
      refine g_aload_n F 5 dL_isPassed_25 rfl rfl ?_
      refine g_iconst F dL_isPassed_26 (v := 0) (by decide) ?_
      refine l_ld F (K := 7) (j := 0) (v := (nI n)) hd79 ⟨by decide, by decide⟩ rfl (show 0 < 2 by omega) hg0 dL_isPassed_27 ?_
      refine g_icmp_ge F (tgt := 48) dL_isPassed_28 (by decide) (fun zc2 => ?_) (fun zc2 => ?_)
      ·
        by_cases hV : 1 ≤ o1 ∧ o1 ≤ 100
        ·
          refine g_aload_n F 3 dL_isPassed_48 rfl rfl ?_
          refine g_bipush F dL_isPassed_49 (v := 8) (by decide) ?_
          refine g_iload_n F 6 dL_isPassed_51 rfl rfl ?_
          refine g_iconst F dL_isPassed_52 (v := 0) (by decide) ?_
          refine g_iconst F dL_isPassed_53 (v := 0) (by decide) ?_
          refine g_iconst F dL_isPassed_54 (v := 0) (by decide) ?_
          have ex : ix (nI o1) = o1 := ix_nI (by omega)
          have hcost := (sm_pass hI (show t < 900000 by omega) 0 (k := ix (nI o1)) (by omega)).2.2.2
          refine q_callSW F (rest := []) [.ref (ad 10 0), .int 8, .int (nI o1), .int 0, .int 0, .int 0] (ld_pass l D A cs ad d9 (cw D ad cs σ Lx cap mk ev zl tx mt tn tc (lwd cs la wz)) (nI o1) 0 0 0 (cc_pass l D A cs ad d9 σ Lx cap mk ev zl tx mt tn tc (lwd cs la wz) n tq hC9 (nI o1) hn40 hL hlo (hub.no22 0) (fun k hk j hj => (sm_tick hI (show t < 900000 by omega) 0 (show k < 100 by omega)).1 j hj) (fun k hk r hr => (sm_tick hI (show t < 900000 by omega) 0 (show k < 100 by omega)).2.1 r hr) hfl) hC9.1 rfl (fun v ad1 dm1 w1 h => ⟨_, h.2.1⟩) (fun E h => .inr (.inl h.1))) (vx_cwSW 6 F.1.2.2.2.2 gL_isPassed_L_does rfl rfl rfl (by decide +kernel) ⟨Nat.le_of_ble_eq_true rfl, Nat.le_of_ble_eq_true rfl⟩) rfl rfl (Nat.le_of_ble_eq_true rfl) dL_isPassed_55 ⟨show (0 + 23) + (1 + (psT (fun j => nI (tn (mt j))) n (σ, Lx, ev, zl) (ix (nI o1))).2.1) ≤ 100 by omega, show (0 + 138) + (6 + 60 * (psT (fun j => nI (tn (mt j))) n (σ, Lx, ev, zl) (ix (nI o1))).2.1) ≤ 3000 by omega⟩ (fun rz ad1 dm1 w1 hv => ?_)
          refine g_widen (cells1 := ((0 + 23) + 41)) (slots1 := ((0 + 138) + 2406)) (show (0 + 23) + (1 + (psT (fun j => nI (tn (mt j))) n (σ, Lx, ev, zl) (ix (nI o1))).2.1) ≤ (0 + 23) + 41 by omega) (show (0 + 138) + (6 + 60 * (psT (fun j => nI (tn (mt j))) n (σ, Lx, ev, zl) (ix (nI o1))).2.1) ≤ (0 + 138) + 2406 by omega) ?_
          rcases hv with hp | ⟨hp, rfl, e1, e2, e3⟩ | ⟨hp, rfl, e1, e2, e3⟩ | ⟨hp, rfl, e1, e2, e3⟩
          ·
            obtain ⟨-, rfl, hE⟩ := hp
            rw [ex] at hE ⊢
            obtain ⟨τ, L1, hG, hLJ⟩ := gx_pass (D := D) (cs := cs) (w0 := (lwd cs la wz)) (ad := ad) (dm := d9) hI (show t < 900000 by omega) hV.2 hE
            obtain ⟨hJ1, xc, hxc, hpv, htd⟩ := hLJ la kt rd hJ
            obtain ⟨tq1, cap1, mk1, ev1, zl1, tx1, mt1, tn1, tc1, hC1, hlo1, hI1, had1, hdm1, rfl⟩ := hG
            have hd71 : ∀ k, 1 ≤ k → k ≤ 7 → dm1 k 0 := fun k h1 h2 => hdm1 k 0 (by omega) (hd79 k h1 h2)
            have hn401 : n ≤ 40 := hI1.1
            have hL1 : L1 0 = List.range n := hI1.2.2.1.2.1.1.1
            have hmt1 := hI1.hmt
            refine g_st (st1 := [.int (nI xc)]) (congrArg (fun z : Int32 => [Value.int z]) hpv.symm) ?_
            refine g_lve (lv1 := [(6, .int (nI n)), (5, .int (0 - nI (totd σ n))), (4, .int (bi (((¬ (nI o1) ≤ 0) ∧ (¬ 101 ≤ (nI o1)))))), (0, .ref (ad1 10 0)), (1, .ref (ad1 3 0)), (2, .ref (ad1 7 0)), (3, .int (nI o1))]) (by rw [had1 10 0 (by decide), had1 3 0 (by decide), had1 7 0 (by decide)]) ?_
            refine g_istore F (lv1 := [(6, .int (nI xc)), (5, .int (0 - nI (totd σ n))), (4, .int (bi (((¬ (nI o1) ≤ 0) ∧ (¬ 101 ≤ (nI o1)))))), (0, .ref (ad1 10 0)), (1, .ref (ad1 3 0)), (2, .ref (ad1 7 0)), (3, .int (nI o1))]) dL_isPassed_58 (by decide) rfl ?_
            refine g_aload_n F 5 dL_isPassed_60 rfl rfl ?_
            refine g_iconst F dL_isPassed_61 (v := 1) (by decide) ?_
            refine g_dup2 F dL_isPassed_62 rfl rfl ?_
            refine l_ld F (K := 7) (j := 1) (v := (la 7 1)) hd71 ⟨by decide, by decide⟩ rfl (show 1 < 2 by omega) rfl dL_isPassed_63 ?_
            refine g_iload F 2 dL_isPassed_64 rfl ?_
            refine g_ifb_eq F (tgt := 73) dL_isPassed_66 (by decide) (fun zc3 => ?_) (fun zc3 => ?_)
            ·
              exact absurd ((and_congr (not_congr (nI_leE (show (nI o1) = nI o1 from rfl) (show 0 = nI 0 from rfl) (by omega) (by omega))) (not_congr (nI_leE (show 101 = nI 101 from rfl) (show (nI o1) = nI o1 from rfl) (by omega) (by omega)))).mpr (by omega)) zc3
            ·
              refine g_iload_n F 6 dL_isPassed_69 rfl rfl ?_
              refine g_goto F (tgt := 74) dL_isPassed_70 (by decide) ?_
              refine g_iadd F dL_isPassed_74 ?_
              refine l_st F (K := 7) (j := 1) hd71 ⟨by decide, by decide⟩ rfl (show 1 < 2 by omega) dL_isPassed_75 ?_
              refine g_iconst F dL_isPassed_76 (v := 0) (by decide) ?_
              refine g_istore F (lv1 := [(7, .int 0), (6, .int (nI xc)), (5, .int (0 - nI (totd σ n))), (4, .int (bi (((¬ (nI o1) ≤ 0) ∧ (¬ 101 ≤ (nI o1)))))), (0, .ref (ad1 10 0)), (1, .ref (ad1 3 0)), (2, .ref (ad1 7 0)), (3, .int (nI o1))]) dL_isPassed_77 (by decide) rfl ?_
              refine g_lve (lv1 := [(7, .int (nI 0)), (6, .int (nI xc)), (5, .int ((0 - nI (totd σ n)) + nI (totd τ 0))), (4, .int (bi (((¬ (nI o1) ≤ 0) ∧ (¬ 101 ≤ (nI o1)))))), (0, .ref (ad1 10 0)), (1, .ref (ad1 3 0)), (2, .ref (ad1 7 0)), (3, .int (nI o1))]) (by rw [tp_0]; rfl) ?_
              refine g_loopP n 0 (Nat.zero_le _) (fun zk ad8 dm8 w8 lv8 => ad1 = ad8 ∧ dm1 = dm8 ∧ (cw D ad1 cs τ L1 cap1 mk1 ev1 zl1 tx1 mt1 tn1 tc1 (lwd cs (up2 la 7 1 ((la 7 1) + (nI o1))) wz)) = w8 ∧ lv8 = [(7, .int (nI zk)), (6, .int (nI xc)), (5, .int ((0 - nI (totd σ n)) + nI (totd τ zk))), (4, .int (bi (((¬ (nI o1) ≤ 0) ∧ (¬ 101 ≤ (nI o1)))))), (0, .ref (ad1 10 0)), (1, .ref (ad1 3 0)), (2, .ref (ad1 7 0)), (3, .int (nI o1))]) (fun zk => ((0 + 23) + 41) + zk) (fun zk => ((0 + 138) + 2406) + 6 * zk) rfl rfl ⟨rfl, rfl, rfl, rfl⟩ ?_ (fun zk hz0 hz1 ih => ?_)
              ·
                intro ad8 dm8 w8 lv8 h9
                obtain ⟨rfl, rfl, rfl, rfl⟩ := h9
                show GG p l e _ s m _ below meth c D A ad1 dm1 _ (((0 + 23) + 41) + n) (((0 + 138) + 2406) + 6 * n) _ (cw D ad1 cs τ L1 cap1 mk1 ev1 zl1 tx1 mt1 tn1 tc1 (lwd cs (up2 la 7 1 ((la 7 1) + (nI o1))) wz)) 79 [(7, .int (nI n)), (6, .int (nI xc)), (5, .int ((0 - nI (totd σ n)) + nI (totd τ n))), (4, .int (bi (((¬ (nI o1) ≤ 0) ∧ (¬ 101 ≤ (nI o1)))))), (0, .ref (ad1 10 0)), (1, .ref (ad1 3 0)), (2, .ref (ad1 7 0)), (3, .int (nI o1))] []
                refine g_widen (cells1 := (((0 + 23) + 41) + 23)) (slots1 := (((0 + 138) + 2406) + 138)) (show (((0 + 23) + 41) + n) ≤ (((0 + 23) + 41) + 23) by omega) (show (((0 + 138) + 2406) + 6 * n) ≤ (((0 + 138) + 2406) + 138) by omega) ?_
                refine g_iload F 0 dL_isPassed_79 rfl ?_
                refine g_aload_n F 6 dL_isPassed_81 rfl rfl ?_
                refine g_iconst F dL_isPassed_82 (v := 0) (by decide) ?_
                refine l_ld F (K := 7) (j := 0) (v := (nI n)) hd71 ⟨by decide, by decide⟩ rfl (show 0 < 2 by omega) (((up2_ne _ _ (fun h => absurd h.2 (by decide))).trans rfl).trans hg0) dL_isPassed_83 ?_
                refine g_icmp_ge F (tgt := 104) dL_isPassed_84 (by decide) (fun zc4 => ?_) (fun zc4 => ?_)
                ·
                  refine g_iload F 1 dL_isPassed_104 rfl ?_
                  refine g_iload F 3 dL_isPassed_106 rfl ?_
                  refine g_ifb_eq F (tgt := 116) dL_isPassed_108 (by decide) (fun zc5 => ?_) (fun zc5 => ?_)
                  ·
                    exact absurd ((and_congr (not_congr (nI_leE (show (nI o1) = nI o1 from rfl) (show 0 = nI 0 from rfl) (by omega) (by omega))) (not_congr (nI_leE (show 101 = nI 101 from rfl) (show (nI o1) = nI o1 from rfl) (by omega) (by omega)))).mpr (by omega)) zc5
                  ·
                    refine g_iload F 2 dL_isPassed_111 rfl ?_
                    refine g_goto F (tgt := 118) dL_isPassed_113 (by decide) ?_
                    refine g_icmp_ne F (tgt := 139) dL_isPassed_118 (by decide) (fun zc6 => ?_) (fun zc6 => ?_)
                    ·
                      exact absurd (tt_v htd).symm zc6
                    ·
                      refine g_iload F 3 dL_isPassed_121 rfl ?_
                      refine g_ifb_eq F (tgt := 135) dL_isPassed_123 (by decide) (fun zc7 => ?_) (fun zc7 => ?_)
                      ·
                        exact absurd ((and_congr (not_congr (nI_leE (show (nI o1) = nI o1 from rfl) (show 0 = nI 0 from rfl) (by omega) (by omega))) (not_congr (nI_leE (show 101 = nI 101 from rfl) (show (nI o1) = nI o1 from rfl) (by omega) (by omega)))).mpr (by omega)) zc7
                      ·
                        refine g_iload F 1 dL_isPassed_126 rfl ?_
                        refine g_bipush F dL_isPassed_128 (v := 6) (by decide) ?_
                        refine g_iload_n F 7 dL_isPassed_130 rfl rfl ?_
                        refine g_imul F dL_isPassed_131 ?_
                        refine g_top (y := (nI (6 * o1))) (Eq.symm (nI_mulE (show 6 = nI 6 from rfl) (show (nI o1) = nI o1 from rfl))) ?_
                        refine g_icmp_gt F (tgt := 139) dL_isPassed_132 (by decide) (fun zc8 => ?_) (fun zc8 => ?_)
                        ·
                          exact absurd ((nI_ltE (show (nI (6 * o1)) = nI (6 * o1) from rfl) (show (nI xc) = nI xc from rfl) (by omega) (by omega)).mp zc8) (by omega)
                        ·
                          refine g_iconst F dL_isPassed_135 (v := 1) (by decide) ?_
                          refine g_goto F (tgt := 140) dL_isPassed_136 (by decide) ?_
                          exact g_qz F hr rfl hlocks (fun _ h => h) ⟨rfl, ⟨n, tq1, (t + o1), τ, L1, cap1, mk1, ev1, zl1, tx1, mt1, tn1, tc1, (up2 la 7 1 ((la 7 1) + (nI o1))), wz, kt, rd, fun k hk => had1 k 0 hk, (show t + o1 ≤ t + 100 by omega), hC1, hd71, hlo1, hI1, hJ1, rfl⟩⟩ (show (((0 + 23) + 41) + 23) ≤ 100 by omega) (show (((0 + 138) + 2406) + 138) ≤ 3000 by omega) dL_isPassed_140
                ·
                  exact absurd ((nI_leE (show (nI n) = nI n from rfl) (show (nI n) = nI n from rfl) (by omega) (by omega)).mpr (by omega)) zc4
              ·
                intro ad8 dm8 w8 lv8 h9
                obtain ⟨rfl, rfl, rfl, rfl⟩ := h9
                show GG p l e _ s m _ below meth c D A ad1 dm1 _ (((0 + 23) + 41) + zk) (((0 + 138) + 2406) + 6 * zk) _ (cw D ad1 cs τ L1 cap1 mk1 ev1 zl1 tx1 mt1 tn1 tc1 (lwd cs (up2 la 7 1 ((la 7 1) + (nI o1))) wz)) 79 [(7, .int (nI zk)), (6, .int (nI xc)), (5, .int ((0 - nI (totd σ n)) + nI (totd τ zk))), (4, .int (bi (((¬ (nI o1) ≤ 0) ∧ (¬ 101 ≤ (nI o1)))))), (0, .ref (ad1 10 0)), (1, .ref (ad1 3 0)), (2, .ref (ad1 7 0)), (3, .int (nI o1))] []
                obtain ⟨xe, d0, xd, xq, xu, xa, ⟨he5, ha4, hd0, hdq, hq5, -⟩, ⟨h23, h24, -⟩, -⟩ := hJ1.body hI1 hz1
                refine g_iload F 0 dL_isPassed_79 rfl ?_
                refine g_aload_n F 6 dL_isPassed_81 rfl rfl ?_
                refine g_iconst F dL_isPassed_82 (v := 0) (by decide) ?_
                refine l_ld F (K := 7) (j := 0) (v := (nI n)) hd71 ⟨by decide, by decide⟩ rfl (show 0 < 2 by omega) (((up2_ne _ _ (fun h => absurd h.2 (by decide))).trans rfl).trans hg0) dL_isPassed_83 ?_
                refine g_icmp_ge F (tgt := 104) dL_isPassed_84 (by decide) (fun zc9 => ?_) (fun zc9 => ?_)
                ·
                  exact absurd ((nI_leE (show (nI n) = nI n from rfl) (show (nI zk) = nI zk from rfl) (by omega) (by omega)).mp zc9) (by omega)
                ·
                  refine g_iload F 2 dL_isPassed_87 rfl ?_
                  refine g_aload_n F 4 dL_isPassed_89 rfl rfl ?_
                  refine g_iload F 0 dL_isPassed_90 rfl ?_
                  refine lq_delivered F hC1 hn401 hL1 hlo1 hfl (k := zk) (by omega) (v := (nI xd)) h24 (cwV 1 F.1.2.2.2.2 gL_isPassed_X5_delivered rfl rfl rfl (by decide +kernel) ⟨Nat.le_of_ble_eq_true rfl, Nat.le_of_ble_eq_true rfl⟩) (Nat.le_of_ble_eq_true rfl) dL_isPassed_92 ⟨show (((0 + 23) + 41) + zk) + 1 ≤ 100 by omega, show (((0 + 138) + 2406) + 6 * zk) + 6 ≤ 3000 by omega⟩ ?_
                  refine g_iadd F dL_isPassed_95 ?_
                  refine g_istore F (lv1 := [(5, .int (((0 - nI (totd σ n)) + nI (totd τ zk)) + (nI xd))), (7, .int (nI zk)), (6, .int (nI xc)), (4, .int (bi (((¬ (nI o1) ≤ 0) ∧ (¬ 101 ≤ (nI o1)))))), (0, .ref (ad1 10 0)), (1, .ref (ad1 3 0)), (2, .ref (ad1 7 0)), (3, .int (nI o1))]) dL_isPassed_96 (by decide) rfl ?_
                  refine g_iinc F (v := (nI (zk + 1))) (lv1 := [(7, .int (nI (zk + 1))), (5, .int (((0 - nI (totd σ n)) + nI (totd τ zk)) + (nI xd))), (6, .int (nI xc)), (4, .int (bi (((¬ (nI o1) ≤ 0) ∧ (¬ 101 ≤ (nI o1)))))), (0, .ref (ad1 10 0)), (1, .ref (ad1 3 0)), (2, .ref (ad1 7 0)), (3, .int (nI o1))]) 1 dL_isPassed_98 rfl (nI_1 zk) (by decide) rfl ?_
                  refine g_goto F (tgt := 79) dL_isPassed_101 (by decide) ?_
                  refine g_lv (lv1 := [(7, .int (nI (zk + 1))), (6, .int (nI xc)), (5, .int (((0 - nI (totd σ n)) + nI (totd τ zk)) + (nI xd))), (4, .int (bi (((¬ (nI o1) ≤ 0) ∧ (¬ 101 ≤ (nI o1)))))), (0, .ref (ad1 10 0)), (1, .ref (ad1 3 0)), (2, .ref (ad1 7 0)), (3, .int (nI o1))]) [0, 2, 1, 3, 4, 5, 6, 7] rfl ?_
                  refine g_lve (lv1 := [(7, .int (nI (zk + 1))), (6, .int (nI xc)), (5, .int ((0 - nI (totd σ n)) + nI (totd τ (zk + 1)))), (4, .int (bi (((¬ (nI o1) ≤ 0) ∧ (¬ 101 ≤ (nI o1)))))), (0, .ref (ad1 10 0)), (1, .ref (ad1 3 0)), (2, .ref (ad1 7 0)), (3, .int (nI o1))]) (by rw [tp_s h24 (by omega)]) ?_
                  refine g_widen (cells1 := ((0 + 23) + 41) + (zk + 1)) (slots1 := ((0 + 138) + 2406) + 6 * (zk + 1)) (show ((((0 + 23) + 41) + zk) + 1) ≤ ((0 + 23) + 41) + (zk + 1) by omega) (show ((((0 + 138) + 2406) + 6 * zk) + 6) ≤ ((0 + 138) + 2406) + 6 * (zk + 1) by omega) ?_
                  exact ih _ _ _ _ ⟨rfl, rfl, rfl, rfl⟩
          ·
            exact absurd hp.1 (by decide)
          ·
            replace e1 := e1.symm
            subst e1
            replace e2 := e2.symm
            subst e2
            replace e3 := e3.symm
            subst e3
            have hp := hp.2
            refine g_st (st1 := [.int (-20)]) rfl ?_
            exact absurd ((inr_n (a := 1) (b := 100) rfl rfl (by omega) (by decide) (by decide)).mpr hV) hp
          ·
            exact absurd hp.1 (by decide)
        ·
          refine g_aload_n F 3 dL_isPassed_48 rfl rfl ?_
          refine g_bipush F dL_isPassed_49 (v := 8) (by decide) ?_
          refine g_iload_n F 6 dL_isPassed_51 rfl rfl ?_
          refine g_iconst F dL_isPassed_52 (v := 0) (by decide) ?_
          refine g_iconst F dL_isPassed_53 (v := 0) (by decide) ?_
          refine g_iconst F dL_isPassed_54 (v := 0) (by decide) ?_
          refine q_callSW F (rest := []) [.ref (ad 10 0), .int 8, .int (nI o1), .int 0, .int 0, .int 0] (ld_pass l D A cs ad d9 (cw D ad cs σ Lx cap mk ev zl tx mt tn tc (lwd cs la wz)) (nI o1) 0 0 0 (cc_passN l D A cs ad d9 σ Lx cap mk ev zl tx mt tn tc (lwd cs la wz) n tq hC9 (nI o1) (fun q => hV ((inr_n (a := 1) (b := 100) rfl rfl (by omega) (by decide) (by decide)).mp q)) hfl) hC9.1 rfl (fun v ad1 dm1 w1 h => ⟨_, h.2.1⟩) (fun E h => .inr (.inl h.1))) (vx_cwSW 6 F.1.2.2.2.2 gL_isPassed_L_does rfl rfl rfl (by decide +kernel) ⟨Nat.le_of_ble_eq_true rfl, Nat.le_of_ble_eq_true rfl⟩) rfl rfl (Nat.le_of_ble_eq_true rfl) dL_isPassed_55 ⟨show (0 + 23) + 1 ≤ 100 by omega, show (0 + 138) + 6 ≤ 3000 by omega⟩ (fun rz ad1 dm1 w1 hv => ?_)
          rcases hv with hp | ⟨hp, rfl, e1, e2, e3⟩ | ⟨hp, rfl, e1, e2, e3⟩ | ⟨hp, rfl, e1, e2, e3⟩
          ·
            exact hp.1.elim
          ·
            exact absurd hp.1 (by decide)
          ·
            replace e1 := e1.symm
            subst e1
            replace e2 := e2.symm
            subst e2
            replace e3 := e3.symm
            subst e3
            have hp := hp.2
            refine g_st (st1 := [.int (-20)]) rfl ?_
            refine g_istore F (lv1 := [(6, .int (-20)), (5, .int (0 - nI (totd σ n))), (4, .int (bi (((¬ (nI o1) ≤ 0) ∧ (¬ 101 ≤ (nI o1)))))), (0, .ref (ad 10 0)), (1, .ref (ad 3 0)), (2, .ref (ad 7 0)), (3, .int (nI o1))]) dL_isPassed_58 (by decide) rfl ?_
            refine g_aload_n F 5 dL_isPassed_60 rfl rfl ?_
            refine g_iconst F dL_isPassed_61 (v := 1) (by decide) ?_
            refine g_dup2 F dL_isPassed_62 rfl rfl ?_
            refine l_ld F (K := 7) (j := 1) (v := (nI t)) hd79 ⟨by decide, by decide⟩ rfl (show 1 < 2 by omega) hg1 dL_isPassed_63 ?_
            refine g_iload F 2 dL_isPassed_64 rfl ?_
            refine g_ifb_eq F (tgt := 73) dL_isPassed_66 (by decide) (fun zc10 => ?_) (fun zc10 => ?_)
            ·
              refine g_iconst F dL_isPassed_73 (v := 0) (by decide) ?_
              refine g_iadd F dL_isPassed_74 ?_
              refine g_top (y := (nI (t + 0))) (Eq.symm (nI_addE (show (nI t) = nI t from rfl) (show 0 = nI 0 from rfl))) ?_
              refine l_st F (K := 7) (j := 1) hd79 ⟨by decide, by decide⟩ rfl (show 1 < 2 by omega) dL_isPassed_75 ?_
              refine g_iconst F dL_isPassed_76 (v := 0) (by decide) ?_
              refine g_istore F (lv1 := [(7, .int 0), (6, .int (-20)), (5, .int (0 - nI (totd σ n))), (4, .int (bi (((¬ (nI o1) ≤ 0) ∧ (¬ 101 ≤ (nI o1)))))), (0, .ref (ad 10 0)), (1, .ref (ad 3 0)), (2, .ref (ad 7 0)), (3, .int (nI o1))]) dL_isPassed_77 (by decide) rfl ?_
              refine g_lve (lv1 := [(7, .int (nI 0)), (6, .int (-20)), (5, .int ((0 - nI (totd σ n)) + nI (totd σ 0))), (4, .int (bi (((¬ (nI o1) ≤ 0) ∧ (¬ 101 ≤ (nI o1)))))), (0, .ref (ad 10 0)), (1, .ref (ad 3 0)), (2, .ref (ad 7 0)), (3, .int (nI o1))]) (by rw [tp_0]; rfl) ?_
              refine g_loopP n 0 (Nat.zero_le _) (fun zk ad8 dm8 w8 lv8 => ad = ad8 ∧ d9 = dm8 ∧ (cw D ad cs σ Lx cap mk ev zl tx mt tn tc (lwd cs (up2 la 7 1 (nI (t + 0))) wz)) = w8 ∧ lv8 = [(7, .int (nI zk)), (6, .int (-20)), (5, .int ((0 - nI (totd σ n)) + nI (totd σ zk))), (4, .int (bi (((¬ (nI o1) ≤ 0) ∧ (¬ 101 ≤ (nI o1)))))), (0, .ref (ad 10 0)), (1, .ref (ad 3 0)), (2, .ref (ad 7 0)), (3, .int (nI o1))]) (fun zk => ((0 + 23) + 1) + zk) (fun zk => ((0 + 138) + 6) + 6 * zk) rfl rfl ⟨rfl, rfl, rfl, rfl⟩ ?_ (fun zk hz0 hz1 ih => ?_)
              ·
                intro ad8 dm8 w8 lv8 h9
                obtain ⟨rfl, rfl, rfl, rfl⟩ := h9
                show GG p l e _ s m _ below meth c D A ad d9 _ (((0 + 23) + 1) + n) (((0 + 138) + 6) + 6 * n) _ (cw D ad cs σ Lx cap mk ev zl tx mt tn tc (lwd cs (up2 la 7 1 (nI (t + 0))) wz)) 79 [(7, .int (nI n)), (6, .int (-20)), (5, .int ((0 - nI (totd σ n)) + nI (totd σ n))), (4, .int (bi (((¬ (nI o1) ≤ 0) ∧ (¬ 101 ≤ (nI o1)))))), (0, .ref (ad 10 0)), (1, .ref (ad 3 0)), (2, .ref (ad 7 0)), (3, .int (nI o1))] []
                refine g_widen (cells1 := (((0 + 23) + 1) + 23)) (slots1 := (((0 + 138) + 6) + 138)) (show (((0 + 23) + 1) + n) ≤ (((0 + 23) + 1) + 23) by omega) (show (((0 + 138) + 6) + 6 * n) ≤ (((0 + 138) + 6) + 138) by omega) ?_
                refine g_iload F 0 dL_isPassed_79 rfl ?_
                refine g_aload_n F 6 dL_isPassed_81 rfl rfl ?_
                refine g_iconst F dL_isPassed_82 (v := 0) (by decide) ?_
                refine l_ld F (K := 7) (j := 0) (v := (nI n)) hd79 ⟨by decide, by decide⟩ rfl (show 0 < 2 by omega) (((up2_ne _ _ (fun h => absurd h.2 (by decide))).trans rfl).trans hg0) dL_isPassed_83 ?_
                refine g_icmp_ge F (tgt := 104) dL_isPassed_84 (by decide) (fun zc11 => ?_) (fun zc11 => ?_)
                ·
                  refine g_iload F 1 dL_isPassed_104 rfl ?_
                  refine g_iload F 3 dL_isPassed_106 rfl ?_
                  refine g_ifb_eq F (tgt := 116) dL_isPassed_108 (by decide) (fun zc12 => ?_) (fun zc12 => ?_)
                  ·
                    refine g_bipush F dL_isPassed_116 (v := -20) (by decide) ?_
                    refine g_icmp_ne F (tgt := 139) dL_isPassed_118 (by decide) (fun zc13 => ?_) (fun zc13 => ?_)
                    ·
                      exact absurd zc13 (by decide)
                    ·
                      refine g_iload F 3 dL_isPassed_121 rfl ?_
                      refine g_ifb_eq F (tgt := 135) dL_isPassed_123 (by decide) (fun zc14 => ?_) (fun zc14 => ?_)
                      ·
                        refine g_iconst F dL_isPassed_135 (v := 1) (by decide) ?_
                        refine g_goto F (tgt := 140) dL_isPassed_136 (by decide) ?_
                        exact g_qz F hr rfl hlocks (fun _ h => h) ⟨rfl, ⟨n, tq, t, σ, Lx, cap, mk, ev, zl, tx, mt, tn, tc, (up2 la 7 1 (nI (t + 0))), wz, kt, rd, fun _ _ => rfl, Nat.le_add_right _ _, hC9, hd79, hlo, hI, (by rw [up2_same (show la 7 1 = nI (t + 0) from hg1)]; exact hJ), rfl⟩⟩ (show (((0 + 23) + 1) + 23) ≤ 100 by omega) (show (((0 + 138) + 6) + 138) ≤ 3000 by omega) dL_isPassed_140
                      ·
                        exact absurd ((and_congr (not_congr (nI_leE (show (nI o1) = nI o1 from rfl) (show 0 = nI 0 from rfl) (by omega) (by omega))) (not_congr (nI_leE (show 101 = nI 101 from rfl) (show (nI o1) = nI o1 from rfl) (by omega) (by omega)))).mp zc14) (by omega)
                  ·
                    exact absurd ((and_congr (not_congr (nI_leE (show (nI o1) = nI o1 from rfl) (show 0 = nI 0 from rfl) (by omega) (by omega))) (not_congr (nI_leE (show 101 = nI 101 from rfl) (show (nI o1) = nI o1 from rfl) (by omega) (by omega)))).mp zc12) (by omega)
                ·
                  exact absurd ((nI_leE (show (nI n) = nI n from rfl) (show (nI n) = nI n from rfl) (by omega) (by omega)).mpr (by omega)) zc11
              ·
                intro ad8 dm8 w8 lv8 h9
                obtain ⟨rfl, rfl, rfl, rfl⟩ := h9
                show GG p l e _ s m _ below meth c D A ad d9 _ (((0 + 23) + 1) + zk) (((0 + 138) + 6) + 6 * zk) _ (cw D ad cs σ Lx cap mk ev zl tx mt tn tc (lwd cs (up2 la 7 1 (nI (t + 0))) wz)) 79 [(7, .int (nI zk)), (6, .int (-20)), (5, .int ((0 - nI (totd σ n)) + nI (totd σ zk))), (4, .int (bi (((¬ (nI o1) ≤ 0) ∧ (¬ 101 ≤ (nI o1)))))), (0, .ref (ad 10 0)), (1, .ref (ad 3 0)), (2, .ref (ad 7 0)), (3, .int (nI o1))] []
                obtain ⟨xe, d0, xd, xq, xu, xa, ⟨he5, ha4, hd0, hdq, hq5, -⟩, ⟨h23, h24, -⟩, -⟩ := hJ.body hI hz1
                refine g_iload F 0 dL_isPassed_79 rfl ?_
                refine g_aload_n F 6 dL_isPassed_81 rfl rfl ?_
                refine g_iconst F dL_isPassed_82 (v := 0) (by decide) ?_
                refine l_ld F (K := 7) (j := 0) (v := (nI n)) hd79 ⟨by decide, by decide⟩ rfl (show 0 < 2 by omega) (((up2_ne _ _ (fun h => absurd h.2 (by decide))).trans rfl).trans hg0) dL_isPassed_83 ?_
                refine g_icmp_ge F (tgt := 104) dL_isPassed_84 (by decide) (fun zc15 => ?_) (fun zc15 => ?_)
                ·
                  exact absurd ((nI_leE (show (nI n) = nI n from rfl) (show (nI zk) = nI zk from rfl) (by omega) (by omega)).mp zc15) (by omega)
                ·
                  refine g_iload F 2 dL_isPassed_87 rfl ?_
                  refine g_aload_n F 4 dL_isPassed_89 rfl rfl ?_
                  refine g_iload F 0 dL_isPassed_90 rfl ?_
                  refine lq_delivered F hC9 hn40 hL hlo hfl (k := zk) (by omega) (v := (nI xd)) h24 (cwV 1 F.1.2.2.2.2 gL_isPassed_X5_delivered rfl rfl rfl (by decide +kernel) ⟨Nat.le_of_ble_eq_true rfl, Nat.le_of_ble_eq_true rfl⟩) (Nat.le_of_ble_eq_true rfl) dL_isPassed_92 ⟨show (((0 + 23) + 1) + zk) + 1 ≤ 100 by omega, show (((0 + 138) + 6) + 6 * zk) + 6 ≤ 3000 by omega⟩ ?_
                  refine g_iadd F dL_isPassed_95 ?_
                  refine g_istore F (lv1 := [(5, .int (((0 - nI (totd σ n)) + nI (totd σ zk)) + (nI xd))), (7, .int (nI zk)), (6, .int (-20)), (4, .int (bi (((¬ (nI o1) ≤ 0) ∧ (¬ 101 ≤ (nI o1)))))), (0, .ref (ad 10 0)), (1, .ref (ad 3 0)), (2, .ref (ad 7 0)), (3, .int (nI o1))]) dL_isPassed_96 (by decide) rfl ?_
                  refine g_iinc F (v := (nI (zk + 1))) (lv1 := [(7, .int (nI (zk + 1))), (5, .int (((0 - nI (totd σ n)) + nI (totd σ zk)) + (nI xd))), (6, .int (-20)), (4, .int (bi (((¬ (nI o1) ≤ 0) ∧ (¬ 101 ≤ (nI o1)))))), (0, .ref (ad 10 0)), (1, .ref (ad 3 0)), (2, .ref (ad 7 0)), (3, .int (nI o1))]) 1 dL_isPassed_98 rfl (nI_1 zk) (by decide) rfl ?_
                  refine g_goto F (tgt := 79) dL_isPassed_101 (by decide) ?_
                  refine g_lv (lv1 := [(7, .int (nI (zk + 1))), (6, .int (-20)), (5, .int (((0 - nI (totd σ n)) + nI (totd σ zk)) + (nI xd))), (4, .int (bi (((¬ (nI o1) ≤ 0) ∧ (¬ 101 ≤ (nI o1)))))), (0, .ref (ad 10 0)), (1, .ref (ad 3 0)), (2, .ref (ad 7 0)), (3, .int (nI o1))]) [0, 2, 1, 3, 4, 5, 6, 7] rfl ?_
                  refine g_lve (lv1 := [(7, .int (nI (zk + 1))), (6, .int (-20)), (5, .int ((0 - nI (totd σ n)) + nI (totd σ (zk + 1)))), (4, .int (bi (((¬ (nI o1) ≤ 0) ∧ (¬ 101 ≤ (nI o1)))))), (0, .ref (ad 10 0)), (1, .ref (ad 3 0)), (2, .ref (ad 7 0)), (3, .int (nI o1))]) (by rw [tp_s h24 (by omega)]) ?_
                  refine g_widen (cells1 := ((0 + 23) + 1) + (zk + 1)) (slots1 := ((0 + 138) + 6) + 6 * (zk + 1)) (show ((((0 + 23) + 1) + zk) + 1) ≤ ((0 + 23) + 1) + (zk + 1) by omega) (show ((((0 + 138) + 6) + 6 * zk) + 6) ≤ ((0 + 138) + 6) + 6 * (zk + 1) by omega) ?_
                  exact ih _ _ _ _ ⟨rfl, rfl, rfl, rfl⟩
            ·
              exact absurd ((and_congr (not_congr (nI_leE (show (nI o1) = nI o1 from rfl) (show 0 = nI 0 from rfl) (by omega) (by omega))) (not_congr (nI_leE (show 101 = nI 101 from rfl) (show (nI o1) = nI o1 from rfl) (by omega) (by omega)))).mp zc10) (by omega)
          ·
            exact absurd hp.1 (by decide)
      ·
        exact absurd ((nI_leE (show (nI n) = nI n from rfl) (show (nI n) = nI n from rfl) (by omega) (by omega)).mpr (by omega)) zc2
    ·
      intro ad1 dm1 w1 lv1 h9
      obtain ⟨rfl, rfl, rfl, rfl⟩ := h9
      show GG p l e _ s m _ below meth c D A ad d9 _ (0 + zk) (0 + 6 * zk) _ (cw D ad cs σ Lx cap mk ev zl tx mt tn tc (lwd cs la wz)) 23 [(6, .int (nI zk)), (5, .int (0 - nI (totd σ zk))), (4, .int (bi (((¬ (nI o1) ≤ 0) ∧ (¬ 101 ≤ (nI o1)))))), (0, .ref (ad 10 0)), (1, .ref (ad 3 0)), (2, .ref (ad 7 0)), (3, .int (nI o1))] []
      obtain ⟨xe, d0, xd, xq, xu, xa, ⟨he5, ha4, hd0, hdq, hq5, -⟩, ⟨h23, h24, -⟩, -⟩ := hJ.body hI hz1
      refine g_iload F 0 dL_isPassed_23 rfl ?_
      refine g_aload_n F 5 dL_isPassed_25 rfl rfl ?_
      refine g_iconst F dL_isPassed_26 (v := 0) (by decide) ?_
      refine l_ld F (K := 7) (j := 0) (v := (nI n)) hd79 ⟨by decide, by decide⟩ rfl (show 0 < 2 by omega) hg0 dL_isPassed_27 ?_
      refine g_icmp_ge F (tgt := 48) dL_isPassed_28 (by decide) (fun zc16 => ?_) (fun zc16 => ?_)
      ·
        exact absurd ((nI_leE (show (nI n) = nI n from rfl) (show (nI zk) = nI zk from rfl) (by omega) (by omega)).mp zc16) (by omega)
      ·
        refine g_iload F 1 dL_isPassed_31 rfl ?_
        refine g_aload_n F 3 dL_isPassed_33 rfl rfl ?_
        refine g_iload F 0 dL_isPassed_34 rfl ?_
        refine lq_delivered F hC9 hn40 hL hlo hfl (k := zk) (by omega) (v := (nI xd)) h24 (cwV 1 F.1.2.2.2.2 gL_isPassed_X5_delivered rfl rfl rfl (by decide +kernel) ⟨Nat.le_of_ble_eq_true rfl, Nat.le_of_ble_eq_true rfl⟩) (Nat.le_of_ble_eq_true rfl) dL_isPassed_36 ⟨show (0 + zk) + 1 ≤ 100 by omega, show (0 + 6 * zk) + 6 ≤ 3000 by omega⟩ ?_
        refine g_isub F dL_isPassed_39 ?_
        refine g_istore F (lv1 := [(5, .int ((0 - nI (totd σ zk)) - (nI xd))), (6, .int (nI zk)), (4, .int (bi (((¬ (nI o1) ≤ 0) ∧ (¬ 101 ≤ (nI o1)))))), (0, .ref (ad 10 0)), (1, .ref (ad 3 0)), (2, .ref (ad 7 0)), (3, .int (nI o1))]) dL_isPassed_40 (by decide) rfl ?_
        refine g_iinc F (v := (nI (zk + 1))) (lv1 := [(6, .int (nI (zk + 1))), (5, .int ((0 - nI (totd σ zk)) - (nI xd))), (4, .int (bi (((¬ (nI o1) ≤ 0) ∧ (¬ 101 ≤ (nI o1)))))), (0, .ref (ad 10 0)), (1, .ref (ad 3 0)), (2, .ref (ad 7 0)), (3, .int (nI o1))]) 1 dL_isPassed_42 rfl (nI_1 zk) (by decide) rfl ?_
        refine g_goto F (tgt := 23) dL_isPassed_45 (by decide) ?_
        refine g_lv (lv1 := [(6, .int (nI (zk + 1))), (5, .int ((0 - nI (totd σ zk)) - (nI xd))), (4, .int (bi (((¬ (nI o1) ≤ 0) ∧ (¬ 101 ≤ (nI o1)))))), (0, .ref (ad 10 0)), (1, .ref (ad 3 0)), (2, .ref (ad 7 0)), (3, .int (nI o1))]) [0, 1, 2, 3, 4, 5, 6] rfl ?_
        refine g_lve (lv1 := [(6, .int (nI (zk + 1))), (5, .int (0 - nI (totd σ (zk + 1)))), (4, .int (bi (((¬ (nI o1) ≤ 0) ∧ (¬ 101 ≤ (nI o1)))))), (0, .ref (ad 10 0)), (1, .ref (ad 3 0)), (2, .ref (ad 7 0)), (3, .int (nI o1))]) (by rw [tn_s h24 (by omega)]) ?_
        refine g_widen (cells1 := 0 + (zk + 1)) (slots1 := 0 + 6 * (zk + 1)) (show ((0 + zk) + 1) ≤ 0 + (zk + 1) by omega) (show ((0 + 6 * zk) + 6) ≤ 0 + 6 * (zk + 1) by omega) ?_
        exact ih _ _ _ _ ⟨rfl, rfl, rfl, rfl⟩
  ·
    refine g_if_le F (tgt := 14) dL_isPassed_1 (by decide) (fun zc17 => ?_) (fun zc17 => ?_)
    ·
      refine g_iconst F dL_isPassed_14 (v := 0) (by decide) ?_
      exact g_top (bi_f (fun q => (fun q => q zc17) q.1)) zhJ1
    ·
      refine g_iload_n F 3 dL_isPassed_4 rfl rfl ?_
      refine g_bipush F dL_isPassed_5 (v := 101) (by decide) ?_
      refine g_icmp_ge F (tgt := 14) dL_isPassed_7 (by decide) (fun zc18 => ?_) (fun zc18 => ?_)
      ·
        refine g_iconst F dL_isPassed_14 (v := 0) (by decide) ?_
        exact g_top (bi_f (fun q => (fun q => q zc18) q.2)) zhJ1
      ·
        refine g_iconst F dL_isPassed_10 (v := 1) (by decide) ?_
        refine g_goto F (tgt := 15) dL_isPassed_11 (by decide) ?_
        exact g_top (bi_t ⟨zc17, zc18⟩) zhJ1
set_option maxHeartbeats 4000000 in
set_option maxRecDepth 100000 in
theorem lw_isSubmitted (l : Launch) (D : va_G) (A : Nat → Prop) (cs : Nat → ClassId) (ad : Nat → Nat → Nat) (dm : Nat → Nat → Prop) (σ : SG) (Lx : Nat → List Nat) (cap : Nat → Nat) (mk : Nat → Int32) (ev : SG) (zl tx mt tn : Nat → Nat) (tc : SG) (la : SG) (wz : CF) (n tq t : Nat) (kt rd : Nat → Nat) (hC : CD dm n cap tq) (hd7 : ∀ k, 1 ≤ k → k ≤ 7 → dm k 0) (hlo : LO n Lx cap) (hI : INV n tq t σ Lx ev zl tx mt tn tc) (hJ : LJ n t σ la Lx kt rd) (htb : t ≤ 100000) (hfl : l.stackTraces = false) (o1 o2 o3 : Nat) (ho1 : o1 ≤ 10000) (ho2 : o2 ≤ 10000) (ho3 : o3 ≤ 10000) (hn22 : n ≤ 22) : Met l yL_isSubmitted wsL_isSubmitted ({ frames := 11, cells := 60, slots := 3000, locals := 339 }) (va_Pc [.ref (ad 10 0), .ref (ad 1 0), .ref (ad 2 0), .ref (ad 3 0), .ref (ad 4 0), .ref (ad 6 0), .ref (ad 7 0), .int (nI o1), .int (nI o2), .int (nI o3)] (PW D A (tysG cs) ad dm (cw D ad cs σ Lx cap mk ev zl tx mt tn tc (lwd cs la wz)))) (QW D A (tysG cs) (fun rz ad1 dm1 w1 => rz = some (.int 1) ∧ PS D cs (fun k => ad k 0) (t + 100) ad1 dm1 w1)) 60 3000 A := by
  refine g_start (own := RL) [.ref (ad 10 0), .ref (ad 1 0), .ref (ad 2 0), .ref (ad 3 0), .ref (ad 4 0), .ref (ad 6 0), .ref (ad 7 0), .int (nI o1), .int (nI o2), .int (nI o3)] (cc := cL_isSubmitted) (maxL := 17) (ret := (some .boolean)) (lv0 := [(0, .ref (ad 10 0)), (1, .ref (ad 1 0)), (2, .ref (ad 2 0)), (3, .ref (ad 3 0)), (4, .ref (ad 4 0)), (5, .ref (ad 6 0)), (6, .ref (ad 7 0)), (7, .int (nI o1)), (8, .int (nI o2)), (9, .int (nI o3))]) (by decide) rfl rfl (Nat.le_of_ble_eq_true rfl) rfl ?_
  intro p e s m below meth c F hr hlocks hno
  have hn40 : n ≤ 40 := hI.1
  have hn23 : n ≤ 23 := hJ.1
  have hL : Lx 0 = List.range n := hI.2.2.1.2.1.1.1
  have hmt := hI.hmt
  have hmm : ∀ j, j < n → okM σ j := hI.2.2.1.2.2.2.2
  have hlg : ∀ j, j < n → zl j ≤ elen σ j ∧ elen σ j ≤ 1000 := fun j hj => ⟨(hI.2.2.1.2.2.1 j hj).2.2.2, by have := (hmm j hj).2.2.2.2.2; unfold elen; omega⟩
  have hg0 : la 7 0 = nI n := hJ.2.1
  have hg1 : la 7 1 = nI t := hJ.2.2.1
  have hnow : σ 0 0 = nI t := hI.2.2.1.2.1.2.2.2.1
  refine g_forget (dm1 := rs9 dm n tq) (ad1 := ad) (w1 := (cw D ad cs σ Lx cap mk ev zl tx mt tn tc (lwd cs la wz))) (fun k i q => q.1) (fun _ _ _ => rfl) (fun _ _ _ => rfl) ?_
  have hC9 := rs9_CD hC
  have hub := rs9_UB dm n tq
  have hd79 : ∀ k, 1 ≤ k → k ≤ 7 → rs9 dm n tq k 0 := fun k h1 h2 => ⟨hd7 k h1 h2, .inl (by omega)⟩
  generalize rs9 dm n tq = d9 at hC9 hub hd79 ⊢
  refine g_iload F 7 dL_isSubmitted_0 rfl ?_
  refine g_iconst F dL_isSubmitted_2 (v := 5) (by decide) ?_
  refine g_irem F dL_isSubmitted_3 (by decide) ?_
  refine g_top (y := (nI (o1 % 5))) (Eq.symm (by rw [show (nI o1) = nI o1 from rfl, show 5 = nI 5 from rfl]; exact pk_rem (by omega) (by omega) (by omega))) ?_
  refine g_istore F (lv1 := [(10, .int (nI (o1 % 5))), (0, .ref (ad 10 0)), (1, .ref (ad 1 0)), (2, .ref (ad 2 0)), (3, .ref (ad 3 0)), (4, .ref (ad 4 0)), (5, .ref (ad 6 0)), (6, .ref (ad 7 0)), (7, .int (nI o1)), (8, .int (nI o2)), (9, .int (nI o3))]) dL_isSubmitted_4 (by decide) rfl ?_
  refine g_iload F 9 dL_isSubmitted_6 rfl ?_
  refine g_bipush F dL_isSubmitted_8 (v := 7) (by decide) ?_
  refine g_irem F dL_isSubmitted_10 (by decide) ?_
  refine g_top (y := (nI (o2 % 7))) (Eq.symm (by rw [show (nI o2) = nI o2 from rfl, show 7 = nI 7 from rfl]; exact pk_rem (by omega) (by omega) (by omega))) ?_
  refine g_istore F (lv1 := [(11, .int (nI (o2 % 7))), (10, .int (nI (o1 % 5))), (0, .ref (ad 10 0)), (1, .ref (ad 1 0)), (2, .ref (ad 2 0)), (3, .ref (ad 3 0)), (4, .ref (ad 4 0)), (5, .ref (ad 6 0)), (6, .ref (ad 7 0)), (7, .int (nI o1)), (8, .int (nI o2)), (9, .int (nI o3))]) dL_isSubmitted_11 (by decide) rfl ?_
  refine g_iload F 11 dL_isSubmitted_13 rfl ?_
  refine g_iconst F dL_isSubmitted_15 (v := 5) (by decide) ?_
  refine g_irem F dL_isSubmitted_16 (by decide) ?_
  refine g_top (y := (nI (o3 % 5))) (Eq.symm (by rw [show (nI o3) = nI o3 from rfl, show 5 = nI 5 from rfl]; exact pk_rem (by omega) (by omega) (by omega))) ?_
  refine g_istore F (lv1 := [(12, .int (nI (o3 % 5))), (11, .int (nI (o2 % 7))), (10, .int (nI (o1 % 5))), (0, .ref (ad 10 0)), (1, .ref (ad 1 0)), (2, .ref (ad 2 0)), (3, .ref (ad 3 0)), (4, .ref (ad 4 0)), (5, .ref (ad 6 0)), (6, .ref (ad 7 0)), (7, .int (nI o1)), (8, .int (nI o2)), (9, .int (nI o3))]) dL_isSubmitted_17 (by decide) rfl ?_
  refine g_iload F 10 dL_isSubmitted_19 rfl ?_
  refine g_bipush F dL_isSubmitted_21 (v := 40) (by decide) ?_
  refine g_irem F dL_isSubmitted_23 (by decide) ?_
  refine g_top (y := (nI (o1 % 40))) (Eq.symm (by rw [show (nI o1) = nI o1 from rfl, show 40 = nI 40 from rfl]; exact pk_rem (by omega) (by omega) (by omega))) ?_
  refine g_cut (w2 := (cw D ad cs σ Lx cap mk ev zl tx mt tn tc (lwd cs la wz))) (pc2 := 43) (lv2 := [(12, .int (nI (o3 % 5))), (11, .int (nI (o2 % 7))), (10, .int (nI (o1 % 5))), (0, .ref (ad 10 0)), (1, .ref (ad 1 0)), (2, .ref (ad 2 0)), (3, .ref (ad 3 0)), (4, .ref (ad 4 0)), (5, .ref (ad 6 0)), (6, .ref (ad 7 0)), (7, .int (nI o1)), (8, .int (nI o2)), (9, .int (nI o3))]) (st2 := [.int (if (nI (o1 % 40)) = 0 then 501 else (nI (1 + ((o2 / 7) % 60))) : Int32)]) ?_ (fun zhJ1 => ?_)
  ·
    obtain ⟨xv, hv1, hv5, exv⟩ : ∃ v : Nat, 1 ≤ v ∧ v ≤ 501 ∧ nI v = (if (nI (o1 % 40)) = 0 then 501 else (nI (1 + ((o2 / 7) % 60))) : Int32) := by
      split
      · exact ⟨501, by decide, by decide, rfl⟩
      · exact ⟨_, by omega, by omega, rfl⟩
    refine g_top (y := nI xv) exv ?_
    refine g_istore F (lv1 := [(13, .int (nI xv)), (12, .int (nI (o3 % 5))), (11, .int (nI (o2 % 7))), (10, .int (nI (o1 % 5))), (0, .ref (ad 10 0)), (1, .ref (ad 1 0)), (2, .ref (ad 2 0)), (3, .ref (ad 3 0)), (4, .ref (ad 4 0)), (5, .ref (ad 6 0)), (6, .ref (ad 7 0)), (7, .int (nI o1)), (8, .int (nI o2)), (9, .int (nI o3))]) dL_isSubmitted_43 (by decide) rfl ?_
    refine g_iload F 3 dL_isSubmitted_45 rfl ?_
    refine g_iconst F dL_isSubmitted_47 (v := 4) (by decide) ?_
    refine g_cut (w2 := (cw D ad cs σ Lx cap mk ev zl tx mt tn tc (lwd cs la wz))) (pc2 := 63) (lv2 := [(13, .int (nI xv)), (12, .int (nI (o3 % 5))), (11, .int (nI (o2 % 7))), (10, .int (nI (o1 % 5))), (0, .ref (ad 10 0)), (1, .ref (ad 1 0)), (2, .ref (ad 2 0)), (3, .ref (ad 3 0)), (4, .ref (ad 4 0)), (5, .ref (ad 6 0)), (6, .ref (ad 7 0)), (7, .int (nI o1)), (8, .int (nI o2)), (9, .int (nI o3))]) (st2 := [.int (bi (((¬ 4 ≤ (nI (o1 % 5))) ∧ (¬ 6 ≤ (nI (o2 % 7))))))]) ?_ (fun zhJ2 => ?_)
    ·
      refine g_istore F (lv1 := [(14, .int (bi (((¬ 4 ≤ (nI (o1 % 5))) ∧ (¬ 6 ≤ (nI (o2 % 7))))))), (13, .int (nI xv)), (12, .int (nI (o3 % 5))), (11, .int (nI (o2 % 7))), (10, .int (nI (o1 % 5))), (0, .ref (ad 10 0)), (1, .ref (ad 1 0)), (2, .ref (ad 2 0)), (3, .ref (ad 3 0)), (4, .ref (ad 4 0)), (5, .ref (ad 6 0)), (6, .ref (ad 7 0)), (7, .int (nI o1)), (8, .int (nI o2)), (9, .int (nI o3))]) dL_isSubmitted_63 (by decide) rfl ?_
      refine g_iload F 2 dL_isSubmitted_65 rfl ?_
      refine g_iconst F dL_isSubmitted_67 (v := 4) (by decide) ?_
      refine g_cut (w2 := (cw D ad cs σ Lx cap mk ev zl tx mt tn tc (lwd cs la wz))) (pc2 := 84) (lv2 := [(14, .int (bi (((¬ 4 ≤ (nI (o1 % 5))) ∧ (¬ 6 ≤ (nI (o2 % 7))))))), (13, .int (nI xv)), (12, .int (nI (o3 % 5))), (11, .int (nI (o2 % 7))), (10, .int (nI (o1 % 5))), (0, .ref (ad 10 0)), (1, .ref (ad 1 0)), (2, .ref (ad 2 0)), (3, .ref (ad 3 0)), (4, .ref (ad 4 0)), (5, .ref (ad 6 0)), (6, .ref (ad 7 0)), (7, .int (nI o1)), (8, .int (nI o2)), (9, .int (nI o3))]) (st2 := [.int (bi (((¬ 4 ≤ (nI (o3 % 5))) ∧ (¬ 501 ≤ (nI xv)))))]) ?_ (fun zhJ3 => ?_)
      ·
        refine g_istore F (lv1 := [(15, .int (bi (((¬ 4 ≤ (nI (o3 % 5))) ∧ (¬ 501 ≤ (nI xv)))))), (14, .int (bi (((¬ 4 ≤ (nI (o1 % 5))) ∧ (¬ 6 ≤ (nI (o2 % 7))))))), (13, .int (nI xv)), (12, .int (nI (o3 % 5))), (11, .int (nI (o2 % 7))), (10, .int (nI (o1 % 5))), (0, .ref (ad 10 0)), (1, .ref (ad 1 0)), (2, .ref (ad 2 0)), (3, .ref (ad 3 0)), (4, .ref (ad 4 0)), (5, .ref (ad 6 0)), (6, .ref (ad 7 0)), (7, .int (nI o1)), (8, .int (nI o2)), (9, .int (nI o3))]) dL_isSubmitted_84 (by decide) rfl ?_
        refine g_aload_n F 6 dL_isSubmitted_86 rfl rfl ?_
        refine g_iconst F dL_isSubmitted_87 (v := 3) (by decide) ?_
        refine g_iload F 5 dL_isSubmitted_88 rfl ?_
        refine g_iload F 4 dL_isSubmitted_90 rfl ?_
        refine g_iload F 3 dL_isSubmitted_92 rfl ?_
        refine g_iload F 2 dL_isSubmitted_94 rfl ?_
        have hQ : ∀ r, r < 6 → Lx (5 + r) = qf σ n r := hI.2.2.1.2.1.1.2
        have hz := hI.2.2.1.2.1.2.2.1 n (Nat.le_refl _)
        have hcost := dqA_cost (j0 := n) (s := ((nwS σ σ (ix (nI (o1 % 5))) n (nI (o1 % 5)) (nI (o2 % 7)) (nI (o3 % 5)) (nI xv)), (va_up (va_up Lx 0 (Lx 0 ++ [n])) (5 + (ix (nI (o2 % 7)))) ((va_up Lx 0 (Lx 0 ++ [n])) (5 + (ix (nI (o2 % 7)))) ++ [n])), (va_up ev n (fun _ => 0)), (va_up zl n 1)))
        have v5 : inR (nI xv) 1 500 → (nI xv) = nI (ix (nI xv)) ∧ 1 ≤ ix (nI xv) ∧ ix (nI xv) ≤ 500 := fun q => by have z := (inr_n (a := 1) (b := 500) rfl rfl (by omega) (by decide) (by decide)).mp q; rw [ix_nI (show xv < 2 ^ 31 by omega)]; exact ⟨rfl, z⟩
        have key := fun (hAR : accP (nI (o1 % 5)) ∧ recP (nI (o2 % 7))) (hB : inR (nI (o3 % 5)) 0 3 ∧ inR (nI xv) 1 500) (h4 : n < 40) => sub_new hI (show t < 2000000 by omega) h4 (ix_acc hAR.1).2 (ix_rec hAR.2).2 (rank := (nI (o3 % 5))) (v5 hB.2) 0
        refine q_callSW F (rest := []) [.ref (ad 10 0), .int 3, .int (nI (o1 % 5)), .int (nI (o2 % 7)), .int (nI (o3 % 5)), .int (nI xv)] (ld_submit l D A cs ad d9 (cw D ad cs σ Lx cap mk ev zl tx mt tn tc (lwd cs la wz)) (nI (o1 % 5)) (nI (o2 % 7)) (nI (o3 % 5)) (nI xv) (cc_submit l D A cs ad d9 σ Lx cap mk ev zl tx mt tn tc (lwd cs la wz) n tq hC9 (nI (o1 % 5)) (nI (o2 % 7)) (nI (o3 % 5)) (nI xv) hn40 hL hlo hub (fun j hj => ⟨(hmm j hj).1.2, (hmm j hj).2.1.2⟩) (fun r hr => by rw [hQ r hr]; exact qf_len σ n r) (fun q => (hI.2.2.2.1 _ (ix_acc q).2).1.2.1) ⟨hz.1, hz.2.1, hz.2.2.1⟩ (fun x hx => hz.2.2.2 (2 - x) (by omega)) (fun hAR hB hk0 h4 k hk => by have z := key hAR hB h4; rw [← (ix_acc hAR.1).1, ← (ix_rec hAR.2).1] at z; unfold sbL at z; exact (z.1 k (by omega)).wok (by omega) z.2.2.hmt) hfl) hC9.1 rfl (fun v ad1 dm1 w1 h => h.2.elim (fun ⟨_, _, q, _⟩ => ⟨_, q⟩) (fun ⟨_, _, _, q, _⟩ => ⟨_, q⟩)) (fun E h => h.elim (fun q => .inl q.1) (fun q => q.elim (fun q => .inr (.inl q.1)) (fun q => .inr (.inr q.1))))) (vx_cwSW 6 F.1.2.2.2.2 gL_isSubmitted_L_does rfl rfl rfl (by decide +kernel) ⟨Nat.le_of_ble_eq_true rfl, Nat.le_of_ble_eq_true rfl⟩) rfl rfl (Nat.le_of_ble_eq_true rfl) dL_isSubmitted_96 ⟨show 0 + ((dqA n ((nwS σ σ (ix (nI (o1 % 5))) n (nI (o1 % 5)) (nI (o2 % 7)) (nI (o3 % 5)) (nI xv)), (va_up (va_up Lx 0 (Lx 0 ++ [n])) (5 + (ix (nI (o2 % 7)))) ((va_up Lx 0 (Lx 0 ++ [n])) (5 + (ix (nI (o2 % 7)))) ++ [n])), (va_up ev n (fun _ => 0)), (va_up zl n 1))).2 + 10) ≤ 60 by omega, show 0 + (60 * (dqA n ((nwS σ σ (ix (nI (o1 % 5))) n (nI (o1 % 5)) (nI (o2 % 7)) (nI (o3 % 5)) (nI xv)), (va_up (va_up Lx 0 (Lx 0 ++ [n])) (5 + (ix (nI (o2 % 7)))) ((va_up Lx 0 (Lx 0 ++ [n])) (5 + (ix (nI (o2 % 7)))) ++ [n])), (va_up ev n (fun _ => 0)), (va_up zl n 1))).2 + 766) ≤ 3000 by omega⟩ (fun rz ad1 dm1 w1 hv => ?_)
        refine g_widen (cells1 := (0 + 33)) (slots1 := (0 + 2200)) (show 0 + ((dqA n ((nwS σ σ (ix (nI (o1 % 5))) n (nI (o1 % 5)) (nI (o2 % 7)) (nI (o3 % 5)) (nI xv)), (va_up (va_up Lx 0 (Lx 0 ++ [n])) (5 + (ix (nI (o2 % 7)))) ((va_up Lx 0 (Lx 0 ++ [n])) (5 + (ix (nI (o2 % 7)))) ++ [n])), (va_up ev n (fun _ => 0)), (va_up zl n 1))).2 + 10) ≤ 0 + 33 by omega) (show 0 + (60 * (dqA n ((nwS σ σ (ix (nI (o1 % 5))) n (nI (o1 % 5)) (nI (o2 % 7)) (nI (o3 % 5)) (nI xv)), (va_up (va_up Lx 0 (Lx 0 ++ [n])) (5 + (ix (nI (o2 % 7)))) ((va_up Lx 0 (Lx 0 ++ [n])) (5 + (ix (nI (o2 % 7)))) ++ [n])), (va_up ev n (fun _ => 0)), (va_up zl n 1))).2 + 766) ≤ 0 + 2200 by omega) ?_
        rcases hv with hp | ⟨hp, rfl, e1, e2, e3⟩ | ⟨hp, rfl, e1, e2, e3⟩ | ⟨hp, rfl, e1, e2, e3⟩
        ·
          obtain ⟨⟨hAR, hB⟩, hd⟩ := hp
          have hA := (ac_n (by omega)).mp hAR.1
          have hR := (rc_n (by omega)).mp hAR.2
          have hP := (inr_n (a := 0) (b := 3) rfl rfl (by omega) (by decide) (by decide)).mp hB.1
          have hV := (inr_n (a := 1) (b := 500) rfl rfl (by omega) (by decide) (by decide)).mp hB.2
          have ea : ix (nI (o1 % 5)) = o1 % 5 := ix_nI (by omega)
          have eb : ix (nI (o2 % 7)) = o2 % 7 := ix_nI (by omega)
          rw [ea, eb] at hd
          rcases hd with ⟨xj, hk, rfl, rfl, rfl, e3⟩ | ⟨hk, hth, h4, rfl, q17, q18, q19, q20, hE⟩
          ·
            subst e3
            have hxj := knO_lt hk
            obtain ⟨hk1, hk2⟩ := knO_at hk
            refine g_st (st1 := [.int (nI xj)]) rfl ?_
            refine g_istore F (lv1 := [(16, .int (nI xj)), (15, .int (bi (((¬ 4 ≤ (nI (o3 % 5))) ∧ (¬ 501 ≤ (nI xv)))))), (14, .int (bi (((¬ 4 ≤ (nI (o1 % 5))) ∧ (¬ 6 ≤ (nI (o2 % 7))))))), (13, .int (nI xv)), (12, .int (nI (o3 % 5))), (11, .int (nI (o2 % 7))), (10, .int (nI (o1 % 5))), (0, .ref (ad 10 0)), (1, .ref (ad 1 0)), (2, .ref (ad 2 0)), (3, .ref (ad 3 0)), (4, .ref (ad 4 0)), (5, .ref (ad 6 0)), (6, .ref (ad 7 0)), (7, .int (nI o1)), (8, .int (nI o2)), (9, .int (nI o3))]) dL_isSubmitted_99 (by decide) rfl ?_
            refine g_iload F 2 dL_isSubmitted_101 rfl ?_
            refine g_ifb_eq F (tgt := 111) dL_isSubmitted_103 (by decide) (fun zc4 => ?_) (fun zc4 => ?_)
            ·
              exact absurd ((and_congr (not_congr (nI_leE (show 4 = nI 4 from rfl) (show (nI (o1 % 5)) = nI (o1 % 5) from rfl) (by omega) (by omega))) (not_congr (nI_leE (show 6 = nI 6 from rfl) (show (nI (o2 % 7)) = nI (o2 % 7) from rfl) (by omega) (by omega)))).mpr (by omega)) zc4
            ·
              refine g_iload F 1 dL_isSubmitted_106 rfl ?_
              refine g_ifb_ne F (tgt := 134) dL_isSubmitted_108 (by decide) (fun zc5 => ?_) (fun zc5 => ?_)
              ·
                refine g_iload F 0 dL_isSubmitted_134 rfl ?_
                refine g_bipush F dL_isSubmitted_136 (v := -10) (by decide) ?_
                refine g_icmp_ne F (tgt := 158) dL_isSubmitted_138 (by decide) (fun zc6 => ?_) (fun zc6 => ?_)
                ·
                  refine g_iload F 0 dL_isSubmitted_158 rfl ?_
                  refine g_aload F 13 dL_isSubmitted_160 rfl ?_
                  refine g_iconst F dL_isSubmitted_162 (v := 0) (by decide) ?_
                  refine l_ld F (K := 7) (j := 0) (v := (nI n)) hd79 ⟨by decide, by decide⟩ rfl (show 0 < 2 by omega) hg0 dL_isSubmitted_163 ?_
                  refine g_icmp_ge F (tgt := 210) dL_isSubmitted_164 (by decide) (fun zc7 => ?_) (fun zc7 => ?_)
                  ·
                    exact absurd ((nI_leE (show (nI n) = nI n from rfl) (show (nI xj) = nI xj from rfl) (by omega) (by omega)).mp zc7) (by omega)
                  ·
                    refine g_iload F 0 dL_isSubmitted_167 rfl ?_
                    refine g_if_lt F (tgt := 208) dL_isSubmitted_169 (by decide) (fun zc8 => ?_) (fun zc8 => ?_)
                    ·
                      exact absurd ((nI_ltE (show (nI xj) = nI xj from rfl) (show 0 = nI 0 from rfl) (by omega) (by omega)).mp zc8) (by omega)
                    ·
                      refine g_aload_n F 8 dL_isSubmitted_172 rfl rfl ?_
                      refine g_iload F 0 dL_isSubmitted_173 rfl ?_
                      refine l_ld F (K := 1) (j := xj) (v := (nI (o1 % 5))) hd79 ⟨by decide, by decide⟩ rfl (show xj < 48 by omega) ((hJ.2.2.2.1 xj hxj).1.trans ((hmm xj hxj).1.1.trans (congrArg nI hk1))) dL_isSubmitted_175 ?_
                      refine g_iload F 6 dL_isSubmitted_176 rfl ?_
                      refine g_icmp_ne F (tgt := 208) dL_isSubmitted_178 (by decide) (fun zc9 => ?_) (fun zc9 => ?_)
                      ·
                        exact absurd ((nI_eqE (show (nI (o1 % 5)) = nI (o1 % 5) from rfl) (show (nI (o1 % 5)) = nI (o1 % 5) from rfl) (by omega) (by omega)).mpr (by omega)) zc9
                      ·
                        refine g_aload_n F 8 dL_isSubmitted_181 rfl rfl ?_
                        refine g_bipush F dL_isSubmitted_182 (v := 24) (by decide) ?_
                        refine g_iload F 0 dL_isSubmitted_184 rfl ?_
                        refine g_iadd F dL_isSubmitted_186 ?_
                        refine g_top (y := (nI (24 + xj))) (Eq.symm (nI_addE (show 24 = nI 24 from rfl) (show (nI xj) = nI xj from rfl))) ?_
                        refine l_ld F (K := 1) (j := (24 + xj)) (v := (nI (o2 % 7))) hd79 ⟨by decide, by decide⟩ rfl (show (24 + xj) < 48 by omega) ((hJ.2.2.2.1 xj hxj).2.1.trans ((hmm xj hxj).2.1.1.trans (congrArg nI hk2))) dL_isSubmitted_187 ?_
                        refine g_iload F 5 dL_isSubmitted_188 rfl ?_
                        refine g_icmp_ne F (tgt := 208) dL_isSubmitted_190 (by decide) (fun zc10 => ?_) (fun zc10 => ?_)
                        ·
                          exact absurd ((nI_eqE (show (nI (o2 % 7)) = nI (o2 % 7) from rfl) (show (nI (o2 % 7)) = nI (o2 % 7) from rfl) (by omega) (by omega)).mpr (by omega)) zc10
                        ·
                          refine g_aload_n F 7 dL_isSubmitted_193 rfl rfl ?_
                          refine lq_messages F hC9 hn40 hL hlo hfl  (v := (nI n)) rfl (cwV 0 F.1.2.2.2.2 gL_isSubmitted_X5_messages rfl rfl rfl (by decide +kernel) ⟨Nat.le_of_ble_eq_true rfl, Nat.le_of_ble_eq_true rfl⟩) (Nat.le_of_ble_eq_true rfl) dL_isSubmitted_194 ⟨show (0 + 33) + 0 ≤ 60 by omega, show (0 + 2200) + 0 ≤ 3000 by omega⟩ ?_
                          refine g_aload F 13 dL_isSubmitted_197 rfl ?_
                          refine g_iconst F dL_isSubmitted_199 (v := 0) (by decide) ?_
                          refine l_ld F (K := 7) (j := 0) (v := (nI n)) hd79 ⟨by decide, by decide⟩ rfl (show 0 < 2 by omega) hg0 dL_isSubmitted_200 ?_
                          refine g_icmp_ne F (tgt := 208) dL_isSubmitted_201 (by decide) (fun zc11 => ?_) (fun zc11 => ?_)
                          ·
                            exact absurd ((nI_eqE (show (nI n) = nI n from rfl) (show (nI n) = nI n from rfl) (by omega) (by omega)).mpr (by omega)) zc11
                          ·
                            refine g_iconst F dL_isSubmitted_204 (v := 1) (by decide) ?_
                            refine g_goto F (tgt := 209) dL_isSubmitted_205 (by decide) ?_
                            exact g_qz F hr rfl hlocks (fun _ h => h) ⟨rfl, ⟨n, tq, t, σ, Lx, cap, mk, ev, zl, tx, mt, tn, tc, la, wz, kt, rd, fun _ _ => rfl, Nat.le_add_right _ _, hC9, hd79, hlo, hI, hJ, rfl⟩⟩ (show ((0 + 33) + 0) ≤ 60 by omega) (show ((0 + 2200) + 0) ≤ 3000 by omega) dL_isSubmitted_209
                ·
                  exact absurd (show nI xj < 0 by rw [zc6]; decide) (nI_pos (by omega))
              ·
                exact absurd ((and_congr (not_congr (nI_leE (show 4 = nI 4 from rfl) (show (nI (o3 % 5)) = nI (o3 % 5) from rfl) (by omega) (by omega))) (not_congr (nI_leE (show 501 = nI 501 from rfl) (show (nI xv) = nI xv from rfl) (by omega) (by omega)))).mpr (by omega)) zc5
          ·
            obtain ⟨τ, L1, hG, ⟨h230, h26t, h250⟩, hLJ⟩ := gx_new (D := D) (cs := cs) (w0 := (lwd cs la wz)) (ad := ad) (dm := d9) hI (show t < 900000 by omega) hn22 hA hR (v5 hB.2) hE
            obtain ⟨tq1, cap1, mk1, ev1, zl1, tx1, mt1, tn1, tc1, hC1, hlo1, hI1, had1, hdm1, rfl⟩ := hG
            have hd71 : ∀ k, 1 ≤ k → k ≤ 7 → dm1 k 0 := fun k h1 h2 => hdm1 k 0 (by omega) (hd79 k h1 h2)
            have hn401 : n + 1 ≤ 40 := hI1.1
            have hL1 : L1 0 = List.range (n + 1) := hI1.2.2.1.2.1.1.1
            refine g_st (st1 := [.int (nI n)]) rfl ?_
            refine g_lve (lv1 := [(15, .int (bi (((¬ 4 ≤ (nI (o3 % 5))) ∧ (¬ 501 ≤ (nI xv)))))), (14, .int (bi (((¬ 4 ≤ (nI (o1 % 5))) ∧ (¬ 6 ≤ (nI (o2 % 7))))))), (13, .int (nI xv)), (12, .int (nI (o3 % 5))), (11, .int (nI (o2 % 7))), (10, .int (nI (o1 % 5))), (0, .ref (ad1 10 0)), (1, .ref (ad1 1 0)), (2, .ref (ad1 2 0)), (3, .ref (ad1 3 0)), (4, .ref (ad1 4 0)), (5, .ref (ad1 6 0)), (6, .ref (ad1 7 0)), (7, .int (nI o1)), (8, .int (nI o2)), (9, .int (nI o3))]) (by rw [had1 10 0 (by decide), had1 1 0 (by decide), had1 2 0 (by decide), had1 3 0 (by decide), had1 4 0 (by decide), had1 6 0 (by decide), had1 7 0 (by decide)]) ?_
            refine g_istore F (lv1 := [(16, .int (nI n)), (15, .int (bi (((¬ 4 ≤ (nI (o3 % 5))) ∧ (¬ 501 ≤ (nI xv)))))), (14, .int (bi (((¬ 4 ≤ (nI (o1 % 5))) ∧ (¬ 6 ≤ (nI (o2 % 7))))))), (13, .int (nI xv)), (12, .int (nI (o3 % 5))), (11, .int (nI (o2 % 7))), (10, .int (nI (o1 % 5))), (0, .ref (ad1 10 0)), (1, .ref (ad1 1 0)), (2, .ref (ad1 2 0)), (3, .ref (ad1 3 0)), (4, .ref (ad1 4 0)), (5, .ref (ad1 6 0)), (6, .ref (ad1 7 0)), (7, .int (nI o1)), (8, .int (nI o2)), (9, .int (nI o3))]) dL_isSubmitted_99 (by decide) rfl ?_
            refine g_iload F 2 dL_isSubmitted_101 rfl ?_
            refine g_ifb_eq F (tgt := 111) dL_isSubmitted_103 (by decide) (fun zc12 => ?_) (fun zc12 => ?_)
            ·
              exact absurd ((and_congr (not_congr (nI_leE (show 4 = nI 4 from rfl) (show (nI (o1 % 5)) = nI (o1 % 5) from rfl) (by omega) (by omega))) (not_congr (nI_leE (show 6 = nI 6 from rfl) (show (nI (o2 % 7)) = nI (o2 % 7) from rfl) (by omega) (by omega)))).mpr (by omega)) zc12
            ·
              refine g_iload F 1 dL_isSubmitted_106 rfl ?_
              refine g_ifb_ne F (tgt := 134) dL_isSubmitted_108 (by decide) (fun zc13 => ?_) (fun zc13 => ?_)
              ·
                refine g_iload F 0 dL_isSubmitted_134 rfl ?_
                refine g_bipush F dL_isSubmitted_136 (v := -10) (by decide) ?_
                refine g_icmp_ne F (tgt := 158) dL_isSubmitted_138 (by decide) (fun zc14 => ?_) (fun zc14 => ?_)
                ·
                  refine g_iload F 0 dL_isSubmitted_158 rfl ?_
                  refine g_aload F 13 dL_isSubmitted_160 rfl ?_
                  refine g_iconst F dL_isSubmitted_162 (v := 0) (by decide) ?_
                  refine l_ld F (K := 7) (j := 0) (v := (nI n)) hd71 ⟨by decide, by decide⟩ rfl (show 0 < 2 by omega) hg0 dL_isSubmitted_163 ?_
                  refine g_icmp_ge F (tgt := 210) dL_isSubmitted_164 (by decide) (fun zc15 => ?_) (fun zc15 => ?_)
                  ·
                    refine g_aload_n F 8 dL_isSubmitted_210 rfl rfl ?_
                    refine g_iload F 0 dL_isSubmitted_211 rfl ?_
                    refine g_iload F 6 dL_isSubmitted_213 rfl ?_
                    refine l_st F (K := 1) (j := n) hd71 ⟨by decide, by decide⟩ rfl (show n < 48 by omega) dL_isSubmitted_215 ?_
                    refine g_aload_n F 8 dL_isSubmitted_216 rfl rfl ?_
                    refine g_bipush F dL_isSubmitted_217 (v := 24) (by decide) ?_
                    refine g_iload F 0 dL_isSubmitted_219 rfl ?_
                    refine g_iadd F dL_isSubmitted_221 ?_
                    refine g_top (y := (nI (24 + n))) (Eq.symm (nI_addE (show 24 = nI 24 from rfl) (show (nI n) = nI n from rfl))) ?_
                    refine g_iload F 5 dL_isSubmitted_222 rfl ?_
                    refine l_st F (K := 1) (j := (24 + n)) hd71 ⟨by decide, by decide⟩ rfl (show (24 + n) < 48 by omega) dL_isSubmitted_224 ?_
                    refine g_aload_n F 9 dL_isSubmitted_225 rfl rfl ?_
                    refine g_iload F 0 dL_isSubmitted_226 rfl ?_
                    refine g_aload F 12 dL_isSubmitted_228 rfl ?_
                    refine g_iload F 6 dL_isSubmitted_230 rfl ?_
                    refine l_ld F (K := 6) (j := (o1 % 5)) (v := (la 6 (o1 % 5))) hd71 ⟨by decide, by decide⟩ rfl (show (o1 % 5) < 16 by omega) ((up2_ne _ _ (fun h => absurd h.1 (by decide))).trans ((up2_ne _ _ (fun h => absurd h.1 (by decide))).trans rfl)) dL_isSubmitted_232 ?_
                    refine l_st F (K := 2) (j := n) hd71 ⟨by decide, by decide⟩ rfl (show n < 24 by omega) dL_isSubmitted_233 ?_
                    refine g_aload_n F 10 dL_isSubmitted_234 rfl rfl ?_
                    refine g_iload F 0 dL_isSubmitted_235 rfl ?_
                    refine g_iconst F dL_isSubmitted_237 (v := 0) (by decide) ?_
                    refine l_st F (K := 3) (j := n) hd71 ⟨by decide, by decide⟩ rfl (show n < 48 by omega) dL_isSubmitted_238 ?_
                    refine g_aload_n F 10 dL_isSubmitted_239 rfl rfl ?_
                    refine g_bipush F dL_isSubmitted_240 (v := 24) (by decide) ?_
                    refine g_iload F 0 dL_isSubmitted_242 rfl ?_
                    refine g_iadd F dL_isSubmitted_244 ?_
                    refine g_top (y := (nI (24 + n))) (Eq.symm (nI_addE (show 24 = nI 24 from rfl) (show (nI n) = nI n from rfl))) ?_
                    refine g_iconst F dL_isSubmitted_245 (v := 0) (by decide) ?_
                    refine l_st F (K := 3) (j := (24 + n)) hd71 ⟨by decide, by decide⟩ rfl (show (24 + n) < 48 by omega) dL_isSubmitted_246 ?_
                    refine g_aload F 11 dL_isSubmitted_247 rfl ?_
                    refine g_iload F 0 dL_isSubmitted_249 rfl ?_
                    refine g_aload F 12 dL_isSubmitted_251 rfl ?_
                    refine g_bipush F dL_isSubmitted_253 (v := 8) (by decide) ?_
                    refine g_iload F 6 dL_isSubmitted_255 rfl ?_
                    refine g_iadd F dL_isSubmitted_257 ?_
                    refine g_top (y := (nI (8 + (o1 % 5)))) (Eq.symm (nI_addE (show 8 = nI 8 from rfl) (show (nI (o1 % 5)) = nI (o1 % 5) from rfl))) ?_
                    refine l_ld F (K := 6) (j := (8 + (o1 % 5))) (v := (la 6 (8 + (o1 % 5)))) hd71 ⟨by decide, by decide⟩ rfl (show (8 + (o1 % 5)) < 16 by omega) ((up2_ne _ _ (fun h => absurd h.1 (by decide))).trans ((up2_ne _ _ (fun h => absurd h.1 (by decide))).trans ((up2_ne _ _ (fun h => absurd h.1 (by decide))).trans ((up2_ne _ _ (fun h => absurd h.1 (by decide))).trans ((up2_ne _ _ (fun h => absurd h.1 (by decide))).trans rfl))))) dL_isSubmitted_258 ?_
                    refine l_st F (K := 4) (j := n) hd71 ⟨by decide, by decide⟩ rfl (show n < 24 by omega) dL_isSubmitted_259 ?_
                    refine g_aload F 13 dL_isSubmitted_260 rfl ?_
                    refine g_iconst F dL_isSubmitted_262 (v := 0) (by decide) ?_
                    refine g_dup2 F dL_isSubmitted_263 rfl rfl ?_
                    refine l_ld F (K := 7) (j := 0) (v := (nI n)) hd71 ⟨by decide, by decide⟩ rfl (show 0 < 2 by omega) (((up2_ne _ _ (fun h => absurd h.1 (by decide))).trans ((up2_ne _ _ (fun h => absurd h.1 (by decide))).trans ((up2_ne _ _ (fun h => absurd h.1 (by decide))).trans ((up2_ne _ _ (fun h => absurd h.1 (by decide))).trans ((up2_ne _ _ (fun h => absurd h.1 (by decide))).trans ((up2_ne _ _ (fun h => absurd h.1 (by decide))).trans rfl)))))).trans hg0) dL_isSubmitted_264 ?_
                    refine g_iconst F dL_isSubmitted_265 (v := 1) (by decide) ?_
                    refine g_iadd F dL_isSubmitted_266 ?_
                    refine g_top (y := (nI (n + 1))) (Eq.symm (nI_addE (show (nI n) = nI n from rfl) (show 1 = nI 1 from rfl))) ?_
                    refine l_st F (K := 7) (j := 0) hd71 ⟨by decide, by decide⟩ rfl (show 0 < 2 by omega) dL_isSubmitted_267 ?_
                    refine g_iload F 0 dL_isSubmitted_268 rfl ?_
                    refine g_aload F 13 dL_isSubmitted_270 rfl ?_
                    refine g_iconst F dL_isSubmitted_272 (v := 0) (by decide) ?_
                    refine l_ld F (K := 7) (j := 0) (v := (nI (n + 1))) hd71 ⟨by decide, by decide⟩ rfl (show 0 < 2 by omega) (up2_self _ _ _ _) dL_isSubmitted_273 ?_
                    refine g_iconst F dL_isSubmitted_274 (v := 1) (by decide) ?_
                    refine g_isub F dL_isSubmitted_275 ?_
                    refine g_icmp_ne F (tgt := 314) dL_isSubmitted_276 (by decide) (fun zc16 => ?_) (fun zc16 => ?_)
                    ·
                      exact absurd (nI_m1 (r := n + 1) (by omega)).symm zc16
                    ·
                      refine g_aload_n F 7 dL_isSubmitted_279 rfl rfl ?_
                      refine g_iload F 0 dL_isSubmitted_280 rfl ?_
                      refine lq_state F hC1 hn401 hL1 hlo1 hfl (k := n) (by omega) (v := 0) h230 (cwV 1 F.1.2.2.2.2 gL_isSubmitted_X5_state rfl rfl rfl (by decide +kernel) ⟨Nat.le_of_ble_eq_true rfl, Nat.le_of_ble_eq_true rfl⟩) (Nat.le_of_ble_eq_true rfl) dL_isSubmitted_282 ⟨show (0 + 33) + 1 ≤ 60 by omega, show (0 + 2200) + 6 ≤ 3000 by omega⟩ ?_
                      refine g_if_ne F (tgt := 314) dL_isSubmitted_285 (by decide) (fun zc17 => ?_) (fun zc17 => ?_)
                      ·
                        exact absurd zc17 (by decide)
                      ·
                        refine g_aload_n F 7 dL_isSubmitted_288 rfl rfl ?_
                        refine g_iload F 0 dL_isSubmitted_289 rfl ?_
                        refine lq_due F hC1 hn401 hL1 hlo1 hfl (k := n) (by omega) h230 (v := (nI t)) h26t (cwV 1 F.1.2.2.2.2 gL_isSubmitted_X5_due rfl rfl rfl (by decide +kernel) ⟨Nat.le_of_ble_eq_true rfl, Nat.le_of_ble_eq_true rfl⟩) (Nat.le_of_ble_eq_true rfl) dL_isSubmitted_291 ⟨show ((0 + 33) + 1) + 2 ≤ 60 by omega, show ((0 + 2200) + 6) + 12 ≤ 3000 by omega⟩ ?_
                        refine g_aload F 13 dL_isSubmitted_294 rfl ?_
                        refine g_iconst F dL_isSubmitted_296 (v := 1) (by decide) ?_
                        refine l_ld F (K := 7) (j := 1) (v := (nI t)) hd71 ⟨by decide, by decide⟩ rfl (show 1 < 2 by omega) (((up2_ne _ _ (fun h => absurd h.2 (by decide))).trans ((up2_ne _ _ (fun h => absurd h.1 (by decide))).trans ((up2_ne _ _ (fun h => absurd h.1 (by decide))).trans ((up2_ne _ _ (fun h => absurd h.1 (by decide))).trans ((up2_ne _ _ (fun h => absurd h.1 (by decide))).trans ((up2_ne _ _ (fun h => absurd h.1 (by decide))).trans ((up2_ne _ _ (fun h => absurd h.1 (by decide))).trans rfl))))))).trans hg1) dL_isSubmitted_297 ?_
                        refine g_icmp_ne F (tgt := 314) dL_isSubmitted_298 (by decide) (fun zc18 => ?_) (fun zc18 => ?_)
                        ·
                          exact absurd ((nI_eqE (show (nI t) = nI t from rfl) (show (nI t) = nI t from rfl) (by omega) (by omega)).mpr (by omega)) zc18
                        ·
                          refine g_aload_n F 7 dL_isSubmitted_301 rfl rfl ?_
                          refine g_iload F 0 dL_isSubmitted_302 rfl ?_
                          refine lq_attempts F hC1 hn401 hL1 hlo1 hfl (k := n) (by omega) (v := 0) h250 (cwV 1 F.1.2.2.2.2 gL_isSubmitted_X5_attempts rfl rfl rfl (by decide +kernel) ⟨Nat.le_of_ble_eq_true rfl, Nat.le_of_ble_eq_true rfl⟩) (Nat.le_of_ble_eq_true rfl) dL_isSubmitted_304 ⟨show (((0 + 33) + 1) + 2) + 1 ≤ 60 by omega, show (((0 + 2200) + 6) + 12) + 6 ≤ 3000 by omega⟩ ?_
                          refine g_if_ne F (tgt := 314) dL_isSubmitted_307 (by decide) (fun zc19 => ?_) (fun zc19 => ?_)
                          ·
                            exact absurd zc19 (by decide)
                          ·
                            refine g_iconst F dL_isSubmitted_310 (v := 1) (by decide) ?_
                            refine g_goto F (tgt := 315) dL_isSubmitted_311 (by decide) ?_
                            exact g_qz F hr rfl hlocks (fun _ h => h) ⟨rfl, ⟨(n + 1), tq1, t, τ, L1, cap1, mk1, ev1, zl1, tx1, mt1, tn1, tc1, (up2 (up2 (up2 (up2 (up2 (up2 (up2 la 1 n (nI (o1 % 5))) 1 (24 + n) (nI (o2 % 7))) 2 n (la 6 (o1 % 5))) 3 n 0) 3 (24 + n) 0) 4 n (la 6 (8 + (o1 % 5)))) 7 0 (nI (n + 1))), wz, kt, rd, fun k hk => had1 k 0 hk, Nat.le_add_right _ _, hC1, hd71, hlo1, hI1, (hLJ la kt rd _ rfl hJ), rfl⟩⟩ (show ((((0 + 33) + 1) + 2) + 1) ≤ 60 by omega) (show ((((0 + 2200) + 6) + 12) + 6) ≤ 3000 by omega) dL_isSubmitted_315
                  ·
                    exact absurd ((nI_leE (show (nI n) = nI n from rfl) (show (nI n) = nI n from rfl) (by omega) (by omega)).mpr (by omega)) zc15
                ·
                  exact absurd (show nI n < 0 by rw [zc14]; decide) (nI_pos (by omega))
              ·
                exact absurd ((and_congr (not_congr (nI_leE (show 4 = nI 4 from rfl) (show (nI (o3 % 5)) = nI (o3 % 5) from rfl) (by omega) (by omega))) (not_congr (nI_leE (show 501 = nI 501 from rfl) (show (nI xv) = nI xv from rfl) (by omega) (by omega)))).mpr (by omega)) zc13
        ·
          replace e1 := e1.symm
          subst e1
          replace e2 := e2.symm
          subst e2
          replace e3 := e3.symm
          subst e3
          have hp := (hp.resolve_right (fun q => q.elim (fun z => absurd z.1 (by decide)) (fun z => absurd z.1 (by decide)))).2
          refine g_st (st1 := [.int (-30)]) rfl ?_
          have hA : ¬ (o1 % 5 < 4 ∧ o2 % 7 < 6) := fun q => hp ⟨(ac_n (by omega)).mpr q.1, (rc_n (by omega)).mpr q.2⟩
          refine g_istore F (lv1 := [(16, .int (-30)), (15, .int (bi (((¬ 4 ≤ (nI (o3 % 5))) ∧ (¬ 501 ≤ (nI xv)))))), (14, .int (bi (((¬ 4 ≤ (nI (o1 % 5))) ∧ (¬ 6 ≤ (nI (o2 % 7))))))), (13, .int (nI xv)), (12, .int (nI (o3 % 5))), (11, .int (nI (o2 % 7))), (10, .int (nI (o1 % 5))), (0, .ref (ad 10 0)), (1, .ref (ad 1 0)), (2, .ref (ad 2 0)), (3, .ref (ad 3 0)), (4, .ref (ad 4 0)), (5, .ref (ad 6 0)), (6, .ref (ad 7 0)), (7, .int (nI o1)), (8, .int (nI o2)), (9, .int (nI o3))]) dL_isSubmitted_99 (by decide) rfl ?_
          refine g_iload F 2 dL_isSubmitted_101 rfl ?_
          refine g_ifb_eq F (tgt := 111) dL_isSubmitted_103 (by decide) (fun zc20 => ?_) (fun zc20 => ?_)
          ·
            refine g_iload F 0 dL_isSubmitted_111 rfl ?_
            refine g_iload F 2 dL_isSubmitted_113 rfl ?_
            refine g_ifb_eq F (tgt := 123) dL_isSubmitted_115 (by decide) (fun zc21 => ?_) (fun zc21 => ?_)
            ·
              refine g_bipush F dL_isSubmitted_123 (v := -30) (by decide) ?_
              refine g_icmp_ne F (tgt := 132) dL_isSubmitted_125 (by decide) (fun zc22 => ?_) (fun zc22 => ?_)
              ·
                exact absurd zc22 (by decide)
              ·
                refine g_iconst F dL_isSubmitted_128 (v := 1) (by decide) ?_
                refine g_goto F (tgt := 133) dL_isSubmitted_129 (by decide) ?_
                exact g_qz F hr rfl hlocks (fun _ h => h) ⟨rfl, ⟨n, tq, t, σ, Lx, cap, mk, ev, zl, tx, mt, tn, tc, la, wz, kt, rd, fun _ _ => rfl, Nat.le_add_right _ _, hC9, hd79, hlo, hI, hJ, rfl⟩⟩ (show (0 + 33) ≤ 60 by omega) (show (0 + 2200) ≤ 3000 by omega) dL_isSubmitted_133
            ·
              exact absurd ((and_congr (not_congr (nI_leE (show 4 = nI 4 from rfl) (show (nI (o1 % 5)) = nI (o1 % 5) from rfl) (by omega) (by omega))) (not_congr (nI_leE (show 6 = nI 6 from rfl) (show (nI (o2 % 7)) = nI (o2 % 7) from rfl) (by omega) (by omega)))).mp zc21) (by omega)
          ·
            exact absurd ((and_congr (not_congr (nI_leE (show 4 = nI 4 from rfl) (show (nI (o1 % 5)) = nI (o1 % 5) from rfl) (by omega) (by omega))) (not_congr (nI_leE (show 6 = nI 6 from rfl) (show (nI (o2 % 7)) = nI (o2 % 7) from rfl) (by omega) (by omega)))).mp zc20) (by omega)
        ·
          replace e1 := e1.symm
          subst e1
          replace e2 := e2.symm
          subst e2
          replace e3 := e3.symm
          subst e3
          have hp := ((hp.resolve_left (fun q => absurd q.1 (by decide))).resolve_right (fun q => absurd q.1 (by decide))).2
          refine g_st (st1 := [.int (-20)]) rfl ?_
          have hA := (ac_n (by omega)).mp hp.1.1
          have hR := (rc_n (by omega)).mp hp.1.2
          have hB : ¬ (o3 % 5 ≤ 3 ∧ xv ≤ 500) := fun q => hp.2 ⟨(inr_n (a := 0) (b := 3) rfl rfl (by omega) (by decide) (by decide)).mpr ⟨Nat.zero_le _, q.1⟩, (inr_n (a := 1) (b := 500) rfl rfl (by omega) (by decide) (by decide)).mpr ⟨by omega, q.2⟩⟩
          refine g_istore F (lv1 := [(16, .int (-20)), (15, .int (bi (((¬ 4 ≤ (nI (o3 % 5))) ∧ (¬ 501 ≤ (nI xv)))))), (14, .int (bi (((¬ 4 ≤ (nI (o1 % 5))) ∧ (¬ 6 ≤ (nI (o2 % 7))))))), (13, .int (nI xv)), (12, .int (nI (o3 % 5))), (11, .int (nI (o2 % 7))), (10, .int (nI (o1 % 5))), (0, .ref (ad 10 0)), (1, .ref (ad 1 0)), (2, .ref (ad 2 0)), (3, .ref (ad 3 0)), (4, .ref (ad 4 0)), (5, .ref (ad 6 0)), (6, .ref (ad 7 0)), (7, .int (nI o1)), (8, .int (nI o2)), (9, .int (nI o3))]) dL_isSubmitted_99 (by decide) rfl ?_
          refine g_iload F 2 dL_isSubmitted_101 rfl ?_
          refine g_ifb_eq F (tgt := 111) dL_isSubmitted_103 (by decide) (fun zc23 => ?_) (fun zc23 => ?_)
          ·
            exact absurd ((and_congr (not_congr (nI_leE (show 4 = nI 4 from rfl) (show (nI (o1 % 5)) = nI (o1 % 5) from rfl) (by omega) (by omega))) (not_congr (nI_leE (show 6 = nI 6 from rfl) (show (nI (o2 % 7)) = nI (o2 % 7) from rfl) (by omega) (by omega)))).mpr (by omega)) zc23
          ·
            refine g_iload F 1 dL_isSubmitted_106 rfl ?_
            refine g_ifb_ne F (tgt := 134) dL_isSubmitted_108 (by decide) (fun zc24 => ?_) (fun zc24 => ?_)
            ·
              exact absurd ((and_congr (not_congr (nI_leE (show 4 = nI 4 from rfl) (show (nI (o3 % 5)) = nI (o3 % 5) from rfl) (by omega) (by omega))) (not_congr (nI_leE (show 501 = nI 501 from rfl) (show (nI xv) = nI xv from rfl) (by omega) (by omega)))).mp zc24) (by omega)
            ·
              refine g_iload F 0 dL_isSubmitted_111 rfl ?_
              refine g_iload F 2 dL_isSubmitted_113 rfl ?_
              refine g_ifb_eq F (tgt := 123) dL_isSubmitted_115 (by decide) (fun zc25 => ?_) (fun zc25 => ?_)
              ·
                exact absurd ((and_congr (not_congr (nI_leE (show 4 = nI 4 from rfl) (show (nI (o1 % 5)) = nI (o1 % 5) from rfl) (by omega) (by omega))) (not_congr (nI_leE (show 6 = nI 6 from rfl) (show (nI (o2 % 7)) = nI (o2 % 7) from rfl) (by omega) (by omega)))).mpr (by omega)) zc25
              ·
                refine g_bipush F dL_isSubmitted_118 (v := -20) (by decide) ?_
                refine g_goto F (tgt := 125) dL_isSubmitted_120 (by decide) ?_
                refine g_icmp_ne F (tgt := 132) dL_isSubmitted_125 (by decide) (fun zc26 => ?_) (fun zc26 => ?_)
                ·
                  exact absurd zc26 (by decide)
                ·
                  refine g_iconst F dL_isSubmitted_128 (v := 1) (by decide) ?_
                  refine g_goto F (tgt := 133) dL_isSubmitted_129 (by decide) ?_
                  exact g_qz F hr rfl hlocks (fun _ h => h) ⟨rfl, ⟨n, tq, t, σ, Lx, cap, mk, ev, zl, tx, mt, tn, tc, la, wz, kt, rd, fun _ _ => rfl, Nat.le_add_right _ _, hC9, hd79, hlo, hI, hJ, rfl⟩⟩ (show (0 + 33) ≤ 60 by omega) (show (0 + 2200) ≤ 3000 by omega) dL_isSubmitted_133
        ·
          replace e1 := e1.symm
          subst e1
          replace e2 := e2.symm
          subst e2
          replace e3 := e3.symm
          subst e3
          have hp := ((hp.resolve_left (fun q => absurd q.1 (by decide))).resolve_left (fun q => absurd q.1 (by decide))).2
          refine g_st (st1 := [.int (-10)]) rfl ?_
          have hA := (ac_n (by omega)).mp hp.1.1
          have hR := (rc_n (by omega)).mp hp.1.2
          have hP := (inr_n (a := 0) (b := 3) rfl rfl (by omega) (by decide) (by decide)).mp hp.2.1.1
          have hV := (inr_n (a := 1) (b := 500) rfl rfl (by omega) (by decide) (by decide)).mp hp.2.1.2
          refine g_istore F (lv1 := [(16, .int (-10)), (15, .int (bi (((¬ 4 ≤ (nI (o3 % 5))) ∧ (¬ 501 ≤ (nI xv)))))), (14, .int (bi (((¬ 4 ≤ (nI (o1 % 5))) ∧ (¬ 6 ≤ (nI (o2 % 7))))))), (13, .int (nI xv)), (12, .int (nI (o3 % 5))), (11, .int (nI (o2 % 7))), (10, .int (nI (o1 % 5))), (0, .ref (ad 10 0)), (1, .ref (ad 1 0)), (2, .ref (ad 2 0)), (3, .ref (ad 3 0)), (4, .ref (ad 4 0)), (5, .ref (ad 6 0)), (6, .ref (ad 7 0)), (7, .int (nI o1)), (8, .int (nI o2)), (9, .int (nI o3))]) dL_isSubmitted_99 (by decide) rfl ?_
          refine g_iload F 2 dL_isSubmitted_101 rfl ?_
          refine g_ifb_eq F (tgt := 111) dL_isSubmitted_103 (by decide) (fun zc27 => ?_) (fun zc27 => ?_)
          ·
            exact absurd ((and_congr (not_congr (nI_leE (show 4 = nI 4 from rfl) (show (nI (o1 % 5)) = nI (o1 % 5) from rfl) (by omega) (by omega))) (not_congr (nI_leE (show 6 = nI 6 from rfl) (show (nI (o2 % 7)) = nI (o2 % 7) from rfl) (by omega) (by omega)))).mpr (by omega)) zc27
          ·
            refine g_iload F 1 dL_isSubmitted_106 rfl ?_
            refine g_ifb_ne F (tgt := 134) dL_isSubmitted_108 (by decide) (fun zc28 => ?_) (fun zc28 => ?_)
            ·
              refine g_iload F 0 dL_isSubmitted_134 rfl ?_
              refine g_bipush F dL_isSubmitted_136 (v := -10) (by decide) ?_
              refine g_icmp_ne F (tgt := 158) dL_isSubmitted_138 (by decide) (fun zc29 => ?_) (fun zc29 => ?_)
              ·
                exact absurd zc29 (by decide)
              ·
                refine g_aload_n F 7 dL_isSubmitted_141 rfl rfl ?_
                refine lq_messages F hC9 hn40 hL hlo hfl  (v := (nI n)) rfl (cwV 0 F.1.2.2.2.2 gL_isSubmitted_X5_messages rfl rfl rfl (by decide +kernel) ⟨Nat.le_of_ble_eq_true rfl, Nat.le_of_ble_eq_true rfl⟩) (Nat.le_of_ble_eq_true rfl) dL_isSubmitted_142 ⟨show (0 + 33) + 0 ≤ 60 by omega, show (0 + 2200) + 0 ≤ 3000 by omega⟩ ?_
                refine g_aload F 13 dL_isSubmitted_145 rfl ?_
                refine g_iconst F dL_isSubmitted_147 (v := 0) (by decide) ?_
                refine l_ld F (K := 7) (j := 0) (v := (nI n)) hd79 ⟨by decide, by decide⟩ rfl (show 0 < 2 by omega) hg0 dL_isSubmitted_148 ?_
                refine g_icmp_ne F (tgt := 156) dL_isSubmitted_149 (by decide) (fun zc30 => ?_) (fun zc30 => ?_)
                ·
                  exact absurd ((nI_eqE (show (nI n) = nI n from rfl) (show (nI n) = nI n from rfl) (by omega) (by omega)).mpr (by omega)) zc30
                ·
                  refine g_iconst F dL_isSubmitted_152 (v := 1) (by decide) ?_
                  refine g_goto F (tgt := 157) dL_isSubmitted_153 (by decide) ?_
                  exact g_qz F hr rfl hlocks (fun _ h => h) ⟨rfl, ⟨n, tq, t, σ, Lx, cap, mk, ev, zl, tx, mt, tn, tc, la, wz, kt, rd, fun _ _ => rfl, Nat.le_add_right _ _, hC9, hd79, hlo, hI, hJ, rfl⟩⟩ (show ((0 + 33) + 0) ≤ 60 by omega) (show ((0 + 2200) + 0) ≤ 3000 by omega) dL_isSubmitted_157
            ·
              exact absurd ((and_congr (not_congr (nI_leE (show 4 = nI 4 from rfl) (show (nI (o3 % 5)) = nI (o3 % 5) from rfl) (by omega) (by omega))) (not_congr (nI_leE (show 501 = nI 501 from rfl) (show (nI xv) = nI xv from rfl) (by omega) (by omega)))).mpr (by omega)) zc28
      ·
        refine g_icmp_ge F (tgt := 83) dL_isSubmitted_68 (by decide) (fun zc31 => ?_) (fun zc31 => ?_)
        ·
          refine g_iconst F dL_isSubmitted_83 (v := 0) (by decide) ?_
          exact g_top (bi_f (fun q => (fun q => q zc31) q.1)) zhJ3
        ·
          refine g_iload F 1 dL_isSubmitted_71 rfl ?_
          refine g_sipush F dL_isSubmitted_73 (v := 501) (by decide) ?_
          refine g_icmp_ge F (tgt := 83) dL_isSubmitted_76 (by decide) (fun zc32 => ?_) (fun zc32 => ?_)
          ·
            refine g_iconst F dL_isSubmitted_83 (v := 0) (by decide) ?_
            exact g_top (bi_f (fun q => (fun q => q zc32) q.2)) zhJ3
          ·
            refine g_iconst F dL_isSubmitted_79 (v := 1) (by decide) ?_
            refine g_goto F (tgt := 84) dL_isSubmitted_80 (by decide) ?_
            exact g_top (bi_t ⟨zc31, zc32⟩) zhJ3
    ·
      refine g_icmp_ge F (tgt := 62) dL_isSubmitted_48 (by decide) (fun zc33 => ?_) (fun zc33 => ?_)
      ·
        refine g_iconst F dL_isSubmitted_62 (v := 0) (by decide) ?_
        exact g_top (bi_f (fun q => (fun q => q zc33) q.1)) zhJ2
      ·
        refine g_iload F 2 dL_isSubmitted_51 rfl ?_
        refine g_bipush F dL_isSubmitted_53 (v := 6) (by decide) ?_
        refine g_icmp_ge F (tgt := 62) dL_isSubmitted_55 (by decide) (fun zc34 => ?_) (fun zc34 => ?_)
        ·
          refine g_iconst F dL_isSubmitted_62 (v := 0) (by decide) ?_
          exact g_top (bi_f (fun q => (fun q => q zc34) q.2)) zhJ2
        ·
          refine g_iconst F dL_isSubmitted_58 (v := 1) (by decide) ?_
          refine g_goto F (tgt := 63) dL_isSubmitted_59 (by decide) ?_
          exact g_top (bi_t ⟨zc33, zc34⟩) zhJ2
  ·
    refine g_if_ne F (tgt := 33) dL_isSubmitted_24 (by decide) (fun zc35 => ?_) (fun zc35 => ?_)
    ·
      refine g_iconst F dL_isSubmitted_33 (v := 1) (by decide) ?_
      refine g_iload F 11 dL_isSubmitted_34 rfl ?_
      refine g_bipush F dL_isSubmitted_36 (v := 7) (by decide) ?_
      refine g_idiv F dL_isSubmitted_38 (by decide) ?_
      refine g_top (y := (nI (o2 / 7))) (Eq.symm (by rw [show (nI o2) = nI o2 from rfl, show 7 = nI 7 from rfl]; exact pk_div (by omega) (by omega) (by omega))) ?_
      refine g_bipush F dL_isSubmitted_39 (v := 60) (by decide) ?_
      refine g_irem F dL_isSubmitted_41 (by decide) ?_
      refine g_top (y := (nI ((o2 / 7) % 60))) (Eq.symm (by rw [show (nI (o2 / 7)) = nI (o2 / 7) from rfl, show 60 = nI 60 from rfl]; exact pk_rem (by omega) (by omega) (by omega))) ?_
      refine g_iadd F dL_isSubmitted_42 ?_
      refine g_top (y := (nI (1 + ((o2 / 7) % 60)))) (Eq.symm (nI_addE (show 1 = nI 1 from rfl) (show (nI ((o2 / 7) % 60)) = nI ((o2 / 7) % 60) from rfl))) ?_
      exact g_top (by rw [if_neg zc35]) zhJ1
    ·
      refine g_sipush F dL_isSubmitted_27 (v := 501) (by decide) ?_
      refine g_goto F (tgt := 43) dL_isSubmitted_30 (by decide) ?_
      exact g_top (by rw [if_pos zc35]) zhJ1
