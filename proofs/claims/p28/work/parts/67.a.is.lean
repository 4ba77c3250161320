theorem inr_n {x a b : Nat} {u v : Int32} (hu : u = nI a) (hv : v = nI b) (hx : x < 2 ^ 31) (ha : a < 2 ^ 31) (hb : b < 2 ^ 31) : inR (nI x) u v ↔ (a ≤ x ∧ x ≤ b) := by
  rw [hu, hv]
  unfold inR
  rw [nI_ltI hx ha, nI_ltI hb hx]
  omega
theorem ac_n {x : Nat} (hx : x < 2 ^ 31) : accP (nI x) ↔ x < 4 := (inr_n (a := 0) (b := 3) rfl rfl hx (by decide) (by decide)).trans (by omega)
theorem rc_n {x : Nat} (hx : x < 2 ^ 31) : recP (nI x) ↔ x < 6 := (inr_n (a := 0) (b := 5) rfl rfl hx (by decide) (by decide)).trans (by omega)
theorem mg_n {x n : Nat} (hx : x < 2 ^ 31) (hn : n ≤ 1000) : inR (nI x) 0 (nI n - 1) ↔ x < n := by
  rw [inR_n hn, nI_ltI hx (by omega)]
  exact ⟨fun q => q.2, fun q => ⟨nI_pos hx, q⟩⟩
theorem bi_n {x : Nat} (hx : x < 2) : nI x = bi (nI x = 1) := by
  rcases (show x = 0 ∨ x = 1 by omega) with rfl | rfl <;> decide
/-- the state behind a call of the law's, its rows beside it -/
def PS (D : va_G) (cs : Nat → ClassId) (xd : Nat → Nat) (tb : Nat) (ad : Nat → Nat → Nat) (dm : Nat → Nat → Prop) (w : CF) : Prop := ∃ (n tq t : Nat) (σ : SG) (Lx : Nat → List Nat) (cap : Nat → Nat) (mk : Nat → Int32) (ev : SG) (zl tx mt tn : Nat → Nat) (tc la : SG) (wz : CF) (kt rd : Nat → Nat), (∀ k, k ≤ 10 → ad k 0 = xd k) ∧ t ≤ tb ∧ CD dm n cap tq ∧ (∀ k, 1 ≤ k → k ≤ 7 → dm k 0) ∧ LO n Lx cap ∧ INV n tq t σ Lx ev zl tx mt tn tc ∧ LJ n t σ la Lx kt rd ∧ w = cw D ad cs σ Lx cap mk ev zl tx mt tn tc (lwd cs la wz)
set_option maxHeartbeats 4000000 in
set_option maxRecDepth 100000 in
theorem lw_isDraft (l : Launch) (D : va_G) (A : Nat → Prop) (cs : Nat → ClassId) (ad : Nat → Nat → Nat) (dm : Nat → Nat → Prop) (σ : SG) (Lx : Nat → List Nat) (cap : Nat → Nat) (mk : Nat → Int32) (ev : SG) (zl tx mt tn : Nat → Nat) (tc : SG) (la : SG) (wz : CF) (n tq t : Nat) (kt rd : Nat → Nat) (hC : CD dm n cap tq) (hd7 : ∀ k, 1 ≤ k → k ≤ 7 → dm k 0) (hlo : LO n Lx cap) (hI : INV n tq t σ Lx ev zl tx mt tn tc) (hJ : LJ n t σ la Lx kt rd) (htb : t ≤ 100000) (hfl : l.stackTraces = false) (o1 o2 o3 : Nat) (ho1 : o1 ≤ 10000) (ho2 : o2 ≤ 10000) (ho3 : o3 ≤ 10000) : Met l yL_isDraft wsL_isDraft ({ frames := 9, cells := 5, slots := 34, locals := 170 }) (va_Pc [.ref (ad 10 0), .ref (ad 6 0), .int (nI o1), .int (nI o2), .int (nI o3)] (PW D A (tysG cs) ad dm (cw D ad cs σ Lx cap mk ev zl tx mt tn tc (lwd cs la wz)))) (QW D A (tysG cs) (fun rz ad1 dm1 w1 => rz = some (.int 1) ∧ PS D cs (fun k => ad k 0) (t + 100) ad1 dm1 w1)) 5 34 A := by
  refine g_start (own := RL) [.ref (ad 10 0), .ref (ad 6 0), .int (nI o1), .int (nI o2), .int (nI o3)] (cc := cL_isDraft) (maxL := 10) (ret := (some .boolean)) (lv0 := [(0, .ref (ad 10 0)), (1, .ref (ad 6 0)), (2, .int (nI o1)), (3, .int (nI o2)), (4, .int (nI o3))]) (by decide) rfl rfl (Nat.le_of_ble_eq_true rfl) rfl ?_
  intro p e s m below meth c F hr hlocks hno
  have hn40 : n ≤ 40 := hI.1
  have hn23 : n ≤ 23 := hJ.1
  have hL : Lx 0 = List.range n := hI.2.2.1.2.1.1.1
  have hmt := hI.hmt
  have hmm : ∀ j, j < n → okM σ j := hI.2.2.1.2.2.2.2
  have hlg : ∀ j, j < n → zl j ≤ elen σ j ∧ elen σ j ≤ 1000 := fun j hj => ⟨(hI.2.2.1.2.2.1 j hj).2.2.2, by have := (hmm j hj).2.2.2.2.2; unfold elen; omega⟩
  have hg0 : la 7 0 = nI n := hJ.2.1
  have hg1 : la 7 1 = nI t := hJ.2.2.1
  have hnow : σ 0 0 = nI t := hI.2.2.1.2.1.2.2.2.1
  refine g_forget (dm1 := rs9 dm n tq) (ad1 := ad) (w1 := (cw D ad cs σ Lx cap mk ev zl tx mt tn tc (lwd cs la wz))) (fun k i q => q.1) (fun _ _ _ => rfl) (fun _ _ _ => rfl) ?_
  have hC9 := rs9_CD hC
  have hub := rs9_UB dm n tq
  have hd79 : ∀ k, 1 ≤ k → k ≤ 7 → rs9 dm n tq k 0 := fun k h1 h2 => ⟨hd7 k h1 h2, .inl (by omega)⟩
  generalize rs9 dm n tq = d9 at hC9 hub hd79 ⊢
  refine g_iload_n F 2 dL_isDraft_0 rfl rfl ?_
  refine g_iconst F dL_isDraft_1 (v := 5) (by decide) ?_
  refine g_irem F dL_isDraft_2 (by decide) ?_
  refine g_top (y := (nI (o1 % 5))) (Eq.symm (by rw [show (nI o1) = nI o1 from rfl, show 5 = nI 5 from rfl]; exact pk_rem (by omega) (by omega) (by omega))) ?_
  refine g_istore F (lv1 := [(5, .int (nI (o1 % 5))), (0, .ref (ad 10 0)), (1, .ref (ad 6 0)), (2, .int (nI o1)), (3, .int (nI o2)), (4, .int (nI o3))]) dL_isDraft_3 (by decide) rfl ?_
  refine g_iload_n F 4 dL_isDraft_5 rfl rfl ?_
  refine g_sipush F dL_isDraft_6 (v := 502) (by decide) ?_
  refine g_irem F dL_isDraft_9 (by decide) ?_
  refine g_top (y := (nI (o2 % 502))) (Eq.symm (by rw [show (nI o2) = nI o2 from rfl, show 502 = nI 502 from rfl]; exact pk_rem (by omega) (by omega) (by omega))) ?_
  refine g_istore F (lv1 := [(6, .int (nI (o2 % 502))), (5, .int (nI (o1 % 5))), (0, .ref (ad 10 0)), (1, .ref (ad 6 0)), (2, .int (nI o1)), (3, .int (nI o2)), (4, .int (nI o3))]) dL_isDraft_10 (by decide) rfl ?_
  refine g_iload F 6 dL_isDraft_12 rfl ?_
  refine g_bipush F dL_isDraft_14 (v := 52) (by decide) ?_
  refine g_irem F dL_isDraft_16 (by decide) ?_
  refine g_top (y := (nI (o3 % 52))) (Eq.symm (by rw [show (nI o3) = nI o3 from rfl, show 52 = nI 52 from rfl]; exact pk_rem (by omega) (by omega) (by omega))) ?_
  refine g_istore F (lv1 := [(7, .int (nI (o3 % 52))), (6, .int (nI (o2 % 502))), (5, .int (nI (o1 % 5))), (0, .ref (ad 10 0)), (1, .ref (ad 6 0)), (2, .int (nI o1)), (3, .int (nI o2)), (4, .int (nI o3))]) dL_isDraft_17 (by decide) rfl ?_
  refine g_iload F 1 dL_isDraft_19 rfl ?_
  refine g_cut (w2 := (cw D ad cs σ Lx cap mk ev zl tx mt tn tc (lwd cs la wz))) (pc2 := 44) (lv2 := [(7, .int (nI (o3 % 52))), (6, .int (nI (o2 % 502))), (5, .int (nI (o1 % 5))), (0, .ref (ad 10 0)), (1, .ref (ad 6 0)), (2, .int (nI o1)), (3, .int (nI o2)), (4, .int (nI o3))]) (st2 := [.int (bi (((¬ (nI (o2 % 502)) ≤ 0) ∧ ((¬ 501 ≤ (nI (o2 % 502))) ∧ (¬ 51 ≤ (nI (o3 % 52)))))))]) ?_ (fun zhJ1 => ?_)
  ·
    refine g_istore F (lv1 := [(8, .int (bi (((¬ (nI (o2 % 502)) ≤ 0) ∧ ((¬ 501 ≤ (nI (o2 % 502))) ∧ (¬ 51 ≤ (nI (o3 % 52)))))))), (7, .int (nI (o3 % 52))), (6, .int (nI (o2 % 502))), (5, .int (nI (o1 % 5))), (0, .ref (ad 10 0)), (1, .ref (ad 6 0)), (2, .int (nI o1)), (3, .int (nI o2)), (4, .int (nI o3))]) dL_isDraft_44 (by decide) rfl ?_
    refine g_aload_n F 4 dL_isDraft_46 rfl rfl ?_
    refine g_iconst F dL_isDraft_47 (v := 0) (by decide) ?_
    refine g_iload F 3 dL_isDraft_48 rfl ?_
    refine g_iload F 2 dL_isDraft_50 rfl ?_
    refine g_iload F 1 dL_isDraft_52 rfl ?_
    refine g_iload_n F 6 dL_isDraft_54 rfl rfl ?_
    refine g_iconst F dL_isDraft_55 (v := 5) (by decide) ?_
    refine g_idiv F dL_isDraft_56 (by decide) ?_
    refine g_top (y := (nI (o1 / 5))) (Eq.symm (by rw [show (nI o1) = nI o1 from rfl, show 5 = nI 5 from rfl]; exact pk_div (by omega) (by omega) (by omega))) ?_
    refine g_iconst F dL_isDraft_57 (v := 2) (by decide) ?_
    refine g_irem F dL_isDraft_58 (by decide) ?_
    refine g_top (y := (nI ((o1 / 5) % 2))) (Eq.symm (by rw [show (nI (o1 / 5)) = nI (o1 / 5) from rfl, show 2 = nI 2 from rfl]; exact pk_rem (by omega) (by omega) (by omega))) ?_
    refine q_callSW F (rest := []) [.ref (ad 10 0), .int 0, .int (nI (o1 % 5)), .int (nI (o2 % 502)), .int (nI (o3 % 52)), .int (nI ((o1 / 5) % 2))] (ld_draft l D A cs ad d9 (cw D ad cs σ Lx cap mk ev zl tx mt tn tc (lwd cs la wz)) (nI (o1 % 5)) (nI (o2 % 502)) (nI (o3 % 52)) (nI ((o1 / 5) % 2)) (cc_draft l D A cs ad d9 σ Lx cap mk ev zl tx mt tn tc (lwd cs la wz) n tq hC9 (nI (o1 % 5)) (nI (o2 % 502)) (nI (o3 % 52)) ((nI ((o1 / 5) % 2)) = 1) hub (fun i hi => (hI.2.2.2.1 i hi).2.1) (fun j hj => (hmt j hj).1) hfl) hC9.1 rfl (fun v ad1 dm1 w1 h => ⟨_, h.2.1⟩) (fun E h => h.elim (fun q => .inl q.1) (fun q => .inr (.inl q.1)))) (vx_cwSW 6 F.1.2.2.2.2 gL_isDraft_L_does rfl rfl rfl (by decide +kernel) ⟨Nat.le_of_ble_eq_true rfl, Nat.le_of_ble_eq_true rfl⟩) rfl rfl (Nat.le_of_ble_eq_true rfl) dL_isDraft_59 ⟨show 0 + 5 ≤ 5 by omega, show 0 + 34 ≤ 34 by omega⟩ (fun rz ad1 dm1 w1 hv => ?_)
    rcases hv with hp | ⟨hp, rfl, e1, e2, e3⟩ | ⟨hp, rfl, e1, e2, e3⟩ | ⟨hp, rfl, e1, e2, e3⟩
    ·
      obtain ⟨⟨hA, hX, hY⟩, rfl, q9, e1, e2, e3⟩ := hp
      have hA := (ac_n (by omega)).mp hA
      have hX := (inr_n (a := 1) (b := 500) rfl rfl (by omega) (by decide) (by decide)).mp hX
      have hY := (inr_n (a := 0) (b := 50) rfl rfl (by omega) (by decide) (by decide)).mp hY
      have ex : ix (nI (o2 % 502)) = (o2 % 502) := ix_nI (by omega)
      have ey : ix (nI (o3 % 52)) = (o3 % 52) := ix_nI (by omega)
      have ea : ix (nI (o1 % 5)) = (o1 % 5) := ix_nI (by omega)
      rw [ex, ey, ea] at e3
      obtain ⟨τ, hG, hLJ⟩ := gx_draft (D := D) (cs := cs) (w0 := (lwd cs la wz)) (ad := ad) (mk := mk) hC9 hlo hI hA hX hY.2 ((nI ((o1 / 5) % 2)) = 1) q9
      rw [← e3, ← e1, ← e2] at hG
      obtain ⟨tq1, cap1, mk1, ev1, zl1, tx1, mt1, tn1, tc1, hC1, hlo1, hI1, had1, hdm1, rfl⟩ := hG
      have hd71 : ∀ k, 1 ≤ k → k ≤ 7 → dm1 k 0 := fun k h1 h2 => hdm1 k 0 (by omega) (hd79 k h1 h2)
      have hp8 := (pts_spec ((nI ((o1 / 5) % 2)) = 1) (o3 % 52) (o2 % 502) (by omega)).1
      have hp0 := pts_pos ((nI ((o1 / 5) % 2)) = 1) (o3 % 52) (o2 % 502) (by omega) (by omega)
      refine g_st (st1 := [.int (nI (pts ((nI ((o1 / 5) % 2)) = 1) (o3 % 52) (o2 % 502)))]) (by rw [ex, ey]; rfl) ?_
      refine g_lve (lv1 := [(8, .int (bi (((¬ (nI (o2 % 502)) ≤ 0) ∧ ((¬ 501 ≤ (nI (o2 % 502))) ∧ (¬ 51 ≤ (nI (o3 % 52)))))))), (7, .int (nI (o3 % 52))), (6, .int (nI (o2 % 502))), (5, .int (nI (o1 % 5))), (0, .ref (ad1 10 0)), (1, .ref (ad1 6 0)), (2, .int (nI o1)), (3, .int (nI o2)), (4, .int (nI o3))]) (by rw [had1 10 0 (by decide), had1 6 0 (by decide)]) ?_
      refine g_istore F (lv1 := [(9, .int (nI (pts ((nI ((o1 / 5) % 2)) = 1) (o3 % 52) (o2 % 502)))), (8, .int (bi (((¬ (nI (o2 % 502)) ≤ 0) ∧ ((¬ 501 ≤ (nI (o2 % 502))) ∧ (¬ 51 ≤ (nI (o3 % 52)))))))), (7, .int (nI (o3 % 52))), (6, .int (nI (o2 % 502))), (5, .int (nI (o1 % 5))), (0, .ref (ad1 10 0)), (1, .ref (ad1 6 0)), (2, .int (nI o1)), (3, .int (nI o2)), (4, .int (nI o3))]) dL_isDraft_62 (by decide) rfl ?_
      refine g_iload F 4 dL_isDraft_64 rfl ?_
      refine g_iconst F dL_isDraft_66 (v := 4) (by decide) ?_
      refine g_icmp_eq F (tgt := 75) dL_isDraft_67 (by decide) (fun zc2 => ?_) (fun zc2 => ?_)
      ·
        exact absurd ((nI_eqE (show (nI (o1 % 5)) = nI (o1 % 5) from rfl) (show 4 = nI 4 from rfl) (by omega) (by omega)).mp zc2) (by omega)
      ·
        refine g_iload F 1 dL_isDraft_70 rfl ?_
        refine g_ifb_ne F (tgt := 99) dL_isDraft_72 (by decide) (fun zc3 => ?_) (fun zc3 => ?_)
        ·
          refine g_aload_n F 6 dL_isDraft_99 rfl rfl ?_
          refine g_iload F 4 dL_isDraft_100 rfl ?_
          refine g_iload F 3 dL_isDraft_102 rfl ?_
          refine l_st F (K := 6) (j := (o1 % 5)) hd71 ⟨by decide, by decide⟩ rfl (show (o1 % 5) < 16 by omega) dL_isDraft_104 ?_
          refine g_iload F 0 dL_isDraft_105 rfl ?_
          refine g_if_le F (tgt := 134) dL_isDraft_107 (by decide) (fun zc4 => ?_) (fun zc4 => ?_)
          ·
            exact absurd ((nI_leE (show (nI (pts ((nI ((o1 / 5) % 2)) = 1) (o3 % 52) (o2 % 502))) = nI (pts ((nI ((o1 / 5) % 2)) = 1) (o3 % 52) (o2 % 502)) from rfl) (show 0 = nI 0 from rfl) (by omega) (by omega)).mp zc4) (by omega)
          ·
            refine g_iload F 0 dL_isDraft_110 rfl ?_
            refine g_bipush F dL_isDraft_112 (v := 9) (by decide) ?_
            refine g_icmp_ge F (tgt := 134) dL_isDraft_114 (by decide) (fun zc5 => ?_) (fun zc5 => ?_)
            ·
              exact absurd ((nI_leE (show 9 = nI 9 from rfl) (show (nI (pts ((nI ((o1 / 5) % 2)) = 1) (o3 % 52) (o2 % 502))) = nI (pts ((nI ((o1 / 5) % 2)) = 1) (o3 % 52) (o2 % 502)) from rfl) (by omega) (by omega)).mp zc5) (by omega)
            ·
              refine g_iload F 3 dL_isDraft_117 rfl ?_
              refine g_bipush F dL_isDraft_119 (v := 70) (by decide) ?_
              refine g_icmp_gt F (tgt := 130) dL_isDraft_121 (by decide) (fun zc6 => ?_) (fun zc6 => ?_)
              ·
                have zc6n : 70 < (o2 % 502) := (nI_ltE (show 70 = nI 70 from rfl) (show (nI (o2 % 502)) = nI (o2 % 502) from rfl) (by omega) (by omega)).mp zc6
                refine g_iconst F dL_isDraft_130 (v := 1) (by decide) ?_
                refine g_goto F (tgt := 135) dL_isDraft_131 (by decide) ?_
                exact g_qz F hr rfl hlocks (fun _ h => h) ⟨rfl, ⟨n, tq1, t, τ, Lx, cap1, mk1, ev1, zl1, tx1, mt1, tn1, tc1, (up2 la 6 (o1 % 5) (nI (o2 % 502))), wz, kt, rd, fun k hk => had1 k 0 hk, Nat.le_add_right _ _, hC1, hd71, hlo1, hI1, (hLJ la kt rd hJ), rfl⟩⟩ (show (0 + 5) ≤ 5 by omega) (show (0 + 34) ≤ 34 by omega) dL_isDraft_135
              ·
                have zc6n : ¬ (70 < (o2 % 502)) := fun q => zc6 ((nI_ltE (show 70 = nI 70 from rfl) (show (nI (o2 % 502)) = nI (o2 % 502) from rfl) (by omega) (by omega)).mpr q)
                have hps := pts_small ((nI ((o1 / 5) % 2)) = 1) (o3 % 52) (o2 % 502) (by omega) (by omega)
                refine g_iload F 0 dL_isDraft_124 rfl ?_
                refine g_iconst F dL_isDraft_126 (v := 1) (by decide) ?_
                refine g_icmp_ne F (tgt := 134) dL_isDraft_127 (by decide) (fun zc7 => ?_) (fun zc7 => ?_)
                ·
                  exact absurd ((nI_eqE (show (nI (pts ((nI ((o1 / 5) % 2)) = 1) (o3 % 52) (o2 % 502))) = nI (pts ((nI ((o1 / 5) % 2)) = 1) (o3 % 52) (o2 % 502)) from rfl) (show 1 = nI 1 from rfl) (by omega) (by omega)).mpr (by omega)) zc7
                ·
                  refine g_iconst F dL_isDraft_130 (v := 1) (by decide) ?_
                  refine g_goto F (tgt := 135) dL_isDraft_131 (by decide) ?_
                  exact g_qz F hr rfl hlocks (fun _ h => h) ⟨rfl, ⟨n, tq1, t, τ, Lx, cap1, mk1, ev1, zl1, tx1, mt1, tn1, tc1, (up2 la 6 (o1 % 5) (nI (o2 % 502))), wz, kt, rd, fun k hk => had1 k 0 hk, Nat.le_add_right _ _, hC1, hd71, hlo1, hI1, (hLJ la kt rd hJ), rfl⟩⟩ (show (0 + 5) ≤ 5 by omega) (show (0 + 34) ≤ 34 by omega) dL_isDraft_135
        ·
          exact absurd ((and_congr (not_congr (nI_leE (show (nI (o2 % 502)) = nI (o2 % 502) from rfl) (show 0 = nI 0 from rfl) (by omega) (by omega))) (and_congr (not_congr (nI_leE (show 501 = nI 501 from rfl) (show (nI (o2 % 502)) = nI (o2 % 502) from rfl) (by omega) (by omega))) (not_congr (nI_leE (show 51 = nI 51 from rfl) (show (nI (o3 % 52)) = nI (o3 % 52) from rfl) (by omega) (by omega))))).mpr (by omega)) zc3
    ·
      replace e1 := e1.symm
      subst e1
      replace e2 := e2.symm
      subst e2
      replace e3 := e3.symm
      subst e3
      have hp := (hp.resolve_right (fun q => absurd q.1 (by decide))).2
      refine g_st (st1 := [.int (-30)]) rfl ?_
      have hA : ¬ (o1 % 5) < 4 := fun q => hp ((ac_n (by omega)).mpr q)
      refine g_istore F (lv1 := [(9, .int (-30)), (8, .int (bi (((¬ (nI (o2 % 502)) ≤ 0) ∧ ((¬ 501 ≤ (nI (o2 % 502))) ∧ (¬ 51 ≤ (nI (o3 % 52)))))))), (7, .int (nI (o3 % 52))), (6, .int (nI (o2 % 502))), (5, .int (nI (o1 % 5))), (0, .ref (ad 10 0)), (1, .ref (ad 6 0)), (2, .int (nI o1)), (3, .int (nI o2)), (4, .int (nI o3))]) dL_isDraft_62 (by decide) rfl ?_
      refine g_iload F 4 dL_isDraft_64 rfl ?_
      refine g_iconst F dL_isDraft_66 (v := 4) (by decide) ?_
      refine g_icmp_eq F (tgt := 75) dL_isDraft_67 (by decide) (fun zc8 => ?_) (fun zc8 => ?_)
      ·
        refine g_iload F 0 dL_isDraft_75 rfl ?_
        refine g_iload F 4 dL_isDraft_77 rfl ?_
        refine g_iconst F dL_isDraft_79 (v := 4) (by decide) ?_
        refine g_icmp_ne F (tgt := 88) dL_isDraft_80 (by decide) (fun zc9 => ?_) (fun zc9 => ?_)
        ·
          exact absurd ((nI_eqE (show (nI (o1 % 5)) = nI (o1 % 5) from rfl) (show 4 = nI 4 from rfl) (by omega) (by omega)).mpr (by omega)) zc9
        ·
          refine g_bipush F dL_isDraft_83 (v := -30) (by decide) ?_
          refine g_goto F (tgt := 90) dL_isDraft_85 (by decide) ?_
          refine g_icmp_ne F (tgt := 97) dL_isDraft_90 (by decide) (fun zc10 => ?_) (fun zc10 => ?_)
          ·
            exact absurd zc10 (by decide)
          ·
            refine g_iconst F dL_isDraft_93 (v := 1) (by decide) ?_
            refine g_goto F (tgt := 98) dL_isDraft_94 (by decide) ?_
            exact g_qz F hr rfl hlocks (fun _ h => h) ⟨rfl, ⟨n, tq, t, σ, Lx, cap, mk, ev, zl, tx, mt, tn, tc, la, wz, kt, rd, fun _ _ => rfl, Nat.le_add_right _ _, hC9, hd79, hlo, hI, hJ, rfl⟩⟩ (show (0 + 5) ≤ 5 by omega) (show (0 + 34) ≤ 34 by omega) dL_isDraft_98
      ·
        exact absurd ((nI_eqE (show (nI (o1 % 5)) = nI (o1 % 5) from rfl) (show 4 = nI 4 from rfl) (by omega) (by omega)).mpr (by omega)) zc8
    ·
      replace e1 := e1.symm
      subst e1
      replace e2 := e2.symm
      subst e2
      replace e3 := e3.symm
      subst e3
      have hp := (hp.resolve_left (fun q => absurd q.1 (by decide))).2
      refine g_st (st1 := [.int (-20)]) rfl ?_
      have hA := (ac_n (by omega)).mp hp.1
      have hB : ¬ ((1 ≤ (o2 % 502) ∧ (o2 % 502) ≤ 500) ∧ (o3 % 52) ≤ 50) := fun q => hp.2 ⟨(inr_n (a := 1) (b := 500) rfl rfl (by omega) (by decide) (by decide)).mpr q.1, (inr_n (a := 0) (b := 50) rfl rfl (by omega) (by decide) (by decide)).mpr ⟨Nat.zero_le _, q.2⟩⟩
      refine g_istore F (lv1 := [(9, .int (-20)), (8, .int (bi (((¬ (nI (o2 % 502)) ≤ 0) ∧ ((¬ 501 ≤ (nI (o2 % 502))) ∧ (¬ 51 ≤ (nI (o3 % 52)))))))), (7, .int (nI (o3 % 52))), (6, .int (nI (o2 % 502))), (5, .int (nI (o1 % 5))), (0, .ref (ad 10 0)), (1, .ref (ad 6 0)), (2, .int (nI o1)), (3, .int (nI o2)), (4, .int (nI o3))]) dL_isDraft_62 (by decide) rfl ?_
      refine g_iload F 4 dL_isDraft_64 rfl ?_
      refine g_iconst F dL_isDraft_66 (v := 4) (by decide) ?_
      refine g_icmp_eq F (tgt := 75) dL_isDraft_67 (by decide) (fun zc11 => ?_) (fun zc11 => ?_)
      ·
        exact absurd ((nI_eqE (show (nI (o1 % 5)) = nI (o1 % 5) from rfl) (show 4 = nI 4 from rfl) (by omega) (by omega)).mp zc11) (by omega)
      ·
        refine g_iload F 1 dL_isDraft_70 rfl ?_
        refine g_ifb_ne F (tgt := 99) dL_isDraft_72 (by decide) (fun zc12 => ?_) (fun zc12 => ?_)
        ·
          exact absurd ((and_congr (not_congr (nI_leE (show (nI (o2 % 502)) = nI (o2 % 502) from rfl) (show 0 = nI 0 from rfl) (by omega) (by omega))) (and_congr (not_congr (nI_leE (show 501 = nI 501 from rfl) (show (nI (o2 % 502)) = nI (o2 % 502) from rfl) (by omega) (by omega))) (not_congr (nI_leE (show 51 = nI 51 from rfl) (show (nI (o3 % 52)) = nI (o3 % 52) from rfl) (by omega) (by omega))))).mp zc12) (by omega)
        ·
          refine g_iload F 0 dL_isDraft_75 rfl ?_
          refine g_iload F 4 dL_isDraft_77 rfl ?_
          refine g_iconst F dL_isDraft_79 (v := 4) (by decide) ?_
          refine g_icmp_ne F (tgt := 88) dL_isDraft_80 (by decide) (fun zc13 => ?_) (fun zc13 => ?_)
          ·
            refine g_bipush F dL_isDraft_88 (v := -20) (by decide) ?_
            refine g_icmp_ne F (tgt := 97) dL_isDraft_90 (by decide) (fun zc14 => ?_) (fun zc14 => ?_)
            ·
              exact absurd zc14 (by decide)
            ·
              refine g_iconst F dL_isDraft_93 (v := 1) (by decide) ?_
              refine g_goto F (tgt := 98) dL_isDraft_94 (by decide) ?_
              exact g_qz F hr rfl hlocks (fun _ h => h) ⟨rfl, ⟨n, tq, t, σ, Lx, cap, mk, ev, zl, tx, mt, tn, tc, la, wz, kt, rd, fun _ _ => rfl, Nat.le_add_right _ _, hC9, hd79, hlo, hI, hJ, rfl⟩⟩ (show (0 + 5) ≤ 5 by omega) (show (0 + 34) ≤ 34 by omega) dL_isDraft_98
          ·
            exact absurd ((nI_eqE (show (nI (o1 % 5)) = nI (o1 % 5) from rfl) (show 4 = nI 4 from rfl) (by omega) (by omega)).mp zc13) (by omega)
    ·
      exact absurd hp (fun q => q.elim (fun z => absurd z.1 (by decide)) (fun z => absurd z.1 (by decide)))
  ·
    refine g_if_le F (tgt := 43) dL_isDraft_21 (by decide) (fun zc15 => ?_) (fun zc15 => ?_)
    ·
      refine g_iconst F dL_isDraft_43 (v := 0) (by decide) ?_
      exact g_top (bi_f (fun q => (fun q => q zc15) q.1)) zhJ1
    ·
      refine g_iload F 1 dL_isDraft_24 rfl ?_
      refine g_sipush F dL_isDraft_26 (v := 501) (by decide) ?_
      refine g_icmp_ge F (tgt := 43) dL_isDraft_29 (by decide) (fun zc16 => ?_) (fun zc16 => ?_)
      ·
        refine g_iconst F dL_isDraft_43 (v := 0) (by decide) ?_
        exact g_top (bi_f (fun q => (fun q => (fun q => q zc16) q.1) q.2)) zhJ1
      ·
        refine g_iload F 0 dL_isDraft_32 rfl ?_
        refine g_bipush F dL_isDraft_34 (v := 51) (by decide) ?_
        refine g_icmp_ge F (tgt := 43) dL_isDraft_36 (by decide) (fun zc17 => ?_) (fun zc17 => ?_)
        ·
          refine g_iconst F dL_isDraft_43 (v := 0) (by decide) ?_
          exact g_top (bi_f (fun q => (fun q => (fun q => q zc17) q.2) q.2)) zhJ1
        ·
          refine g_iconst F dL_isDraft_39 (v := 1) (by decide) ?_
          refine g_goto F (tgt := 44) dL_isDraft_40 (by decide) ?_
          exact g_top (bi_t ⟨zc15, ⟨zc16, zc17⟩⟩) zhJ1
set_option maxHeartbeats 4000000 in
set_option maxRecDepth 100000 in
theorem lw_isReceipt (l : Launch) (D : va_G) (A : Nat → Prop) (cs : Nat → ClassId) (ad : Nat → Nat → Nat) (dm : Nat → Nat → Prop) (σ : SG) (Lx : Nat → List Nat) (cap : Nat → Nat) (mk : Nat → Int32) (ev : SG) (zl tx mt tn : Nat → Nat) (tc : SG) (la : SG) (wz : CF) (n tq t : Nat) (kt rd : Nat → Nat) (hC : CD dm n cap tq) (hd7 : ∀ k, 1 ≤ k → k ≤ 7 → dm k 0) (hlo : LO n Lx cap) (hI : INV n tq t σ Lx ev zl tx mt tn tc) (hJ : LJ n t σ la Lx kt rd) (htb : t ≤ 100000) (hfl : l.stackTraces = false) (o1 : Nat) (ho1 : o1 < 5) (hT : LT n σ la) : Met l yL_isReceipt wsL_isReceipt ({ frames := 9, cells := 5, slots := 34, locals := 160 }) (va_Pc [.ref (ad 10 0), .ref (ad 1 0), .ref (ad 3 0), .ref (ad 4 0), .ref (ad 6 0), .ref (ad 7 0), .int (nI o1)] (PW D A (tysG cs) ad dm (cw D ad cs σ Lx cap mk ev zl tx mt tn tc (lwd cs la wz)))) (QW D A (tysG cs) (fun rz ad1 dm1 w1 => rz = some (.int 1) ∧ PS D cs (fun k => ad k 0) (t + 100) ad1 dm1 w1)) 5 34 A := by
  refine g_start (own := RL) [.ref (ad 10 0), .ref (ad 1 0), .ref (ad 3 0), .ref (ad 4 0), .ref (ad 6 0), .ref (ad 7 0), .int (nI o1)] (cc := cL_isReceipt) (maxL := 8) (ret := (some .boolean)) (lv0 := [(0, .ref (ad 10 0)), (1, .ref (ad 1 0)), (2, .ref (ad 3 0)), (3, .ref (ad 4 0)), (4, .ref (ad 6 0)), (5, .ref (ad 7 0)), (6, .int (nI o1))]) (by decide) rfl rfl (Nat.le_of_ble_eq_true rfl) rfl ?_
  intro p e s m below meth c F hr hlocks hno
  have hn40 : n ≤ 40 := hI.1
  have hn23 : n ≤ 23 := hJ.1
  have hL : Lx 0 = List.range n := hI.2.2.1.2.1.1.1
  have hmt := hI.hmt
  have hmm : ∀ j, j < n → okM σ j := hI.2.2.1.2.2.2.2
  have hlg : ∀ j, j < n → zl j ≤ elen σ j ∧ elen σ j ≤ 1000 := fun j hj => ⟨(hI.2.2.1.2.2.1 j hj).2.2.2, by have := (hmm j hj).2.2.2.2.2; unfold elen; omega⟩
  have hg0 : la 7 0 = nI n := hJ.2.1
  have hg1 : la 7 1 = nI t := hJ.2.2.1
  have hnow : σ 0 0 = nI t := hI.2.2.1.2.1.2.2.2.1
  refine g_forget (dm1 := rs9 dm n tq) (ad1 := ad) (w1 := (cw D ad cs σ Lx cap mk ev zl tx mt tn tc (lwd cs la wz))) (fun k i q => q.1) (fun _ _ _ => rfl) (fun _ _ _ => rfl) ?_
  have hC9 := rs9_CD hC
  have hub := rs9_UB dm n tq
  have hd79 : ∀ k, 1 ≤ k → k ≤ 7 → rs9 dm n tq k 0 := fun k h1 h2 => ⟨hd7 k h1 h2, .inl (by omega)⟩
  generalize rs9 dm n tq = d9 at hC9 hub hd79 ⊢
  refine g_aload_n F 0 dL_isReceipt_0 rfl rfl ?_
  refine g_bipush F dL_isReceipt_1 (v := 9) (by decide) ?_
  refine g_iload F 6 dL_isReceipt_3 rfl ?_
  refine g_iconst F dL_isReceipt_5 (v := 0) (by decide) ?_
  refine g_iconst F dL_isReceipt_6 (v := 0) (by decide) ?_
  refine g_iconst F dL_isReceipt_7 (v := 0) (by decide) ?_
  refine q_callSW F (rest := []) [.ref (ad 10 0), .int 9, .int (nI o1), .int 0, .int 0, .int 0] (ld_takeReceipt l D A cs ad d9 (cw D ad cs σ Lx cap mk ev zl tx mt tn tc (lwd cs la wz)) (nI o1) 0 0 0 (cc_takeReceipt l D A cs ad d9 σ Lx cap mk ev zl tx mt tn tc (lwd cs la wz) n tq hC9 (nI o1) hlo hfl) hC9.1 rfl (fun v ad1 dm1 w1 h => ⟨_, h.2.1⟩) (fun E h => h.elim (fun q => .inl q.1) (fun q => .inr (.inr q.1)))) (vx_cwSW 6 F.1.2.2.2.2 gL_isReceipt_L_does rfl rfl rfl (by decide +kernel) ⟨Nat.le_of_ble_eq_true rfl, Nat.le_of_ble_eq_true rfl⟩) rfl rfl (Nat.le_of_ble_eq_true rfl) dL_isReceipt_8 ⟨show 0 + 2 ≤ 5 by omega, show 0 + 12 ≤ 34 by omega⟩ (fun rz ad1 dm1 w1 hv => ?_)
  rcases hv with hp | ⟨hp, rfl, e1, e2, e3⟩ | ⟨hp, rfl, e1, e2, e3⟩ | ⟨hp, rfl, e1, e2, e3⟩
  ·
    have ea : ix (nI o1) = o1 := ix_nI (by omega)
    rw [ea] at hp
    obtain ⟨⟨hA, hl⟩, rfl, rfl, rfl, e3⟩ := hp
    have hA := (ac_n (by omega)).mp hA
    have hl0 : ¬ (Lx (1 + o1)).length = 0 := fun q => hl (by rw [q]; rfl)
    obtain ⟨hrl, hrn⟩ := hJ.rec hT hA
    obtain ⟨τ, hG, hLJ⟩ := gx_take (D := D) (cs := cs) (w0 := (lwd cs la wz)) (ad := ad) hC9 hlo hI hA hl0 (va_up mk (1 + o1) ((mk (1 + o1)) + 1))
    rw [e3] at hG
    obtain ⟨hJ1, xj, xe, hv, hxj, hxe, hxe5, hm1, hw1, ht1⟩ := hLJ la kt rd hJ hT
    obtain ⟨tq1, cap1, mk1, ev1, zl1, tx1, mt1, tn1, tc1, hC1, hlo1, hI1, had1, hdm1, rfl⟩ := hG
    have hd71 : ∀ k, 1 ≤ k → k ≤ 7 → d9 k 0 := fun k h1 h2 => hdm1 k 0 (by omega) (hd79 k h1 h2)
    have hdv : (10 * xj + xe) / 10 = xj := by omega
    have hne : ¬ la 6 (12 + o1) = 0 := fun q => hl (hrl.symm.trans q)
    refine g_st (st1 := [.int (nI (10 * xj + xe))]) (congrArg (fun z : Int32 => Value.int z :: []) hv.symm) ?_
    refine g_istore F (lv1 := [(7, .int (nI (10 * xj + xe))), (0, .ref (ad 10 0)), (1, .ref (ad 1 0)), (2, .ref (ad 3 0)), (3, .ref (ad 4 0)), (4, .ref (ad 6 0)), (5, .ref (ad 7 0)), (6, .int (nI o1))]) dL_isReceipt_11 (by decide) rfl ?_
    refine g_iload F 7 dL_isReceipt_13 rfl ?_
    refine g_iconst F dL_isReceipt_15 (v := 4) (by decide) ?_
    refine g_icmp_eq F (tgt := 30) dL_isReceipt_16 (by decide) (fun zc1 => ?_) (fun zc1 => ?_)
    ·
      exact absurd ((nI_eqE (show (nI o1) = nI o1 from rfl) (show 4 = nI 4 from rfl) (by omega) (by omega)).mp zc1) (by omega)
    ·
      refine g_aload F 5 dL_isReceipt_19 rfl ?_
      refine g_bipush F dL_isReceipt_21 (v := 12) (by decide) ?_
      refine g_iload F 7 dL_isReceipt_23 rfl ?_
      refine g_iadd F dL_isReceipt_25 ?_
      refine g_top (y := (nI (12 + o1))) (Eq.symm (nI_addE (show 12 = nI 12 from rfl) (show (nI o1) = nI o1 from rfl))) ?_
      refine l_ld F (K := 6) (j := (12 + o1)) (v := (la 6 (12 + o1))) hd71 ⟨by decide, by decide⟩ rfl (show (12 + o1) < 16 by omega) rfl dL_isReceipt_26 ?_
      refine g_if_ne F (tgt := 54) dL_isReceipt_27 (by decide) (fun zc2 => ?_) (fun zc2 => ?_)
      ·
        refine g_aload F 5 dL_isReceipt_54 rfl ?_
        refine g_bipush F dL_isReceipt_56 (v := 12) (by decide) ?_
        refine g_iload F 7 dL_isReceipt_58 rfl ?_
        refine g_iadd F dL_isReceipt_60 ?_
        refine g_top (y := (nI (12 + o1))) (Eq.symm (nI_addE (show 12 = nI 12 from rfl) (show (nI o1) = nI o1 from rfl))) ?_
        refine g_dup2 F dL_isReceipt_61 rfl rfl ?_
        refine l_ld F (K := 6) (j := (12 + o1)) (v := (la 6 (12 + o1))) hd71 ⟨by decide, by decide⟩ rfl (show (12 + o1) < 16 by omega) rfl dL_isReceipt_62 ?_
        refine g_iconst F dL_isReceipt_63 (v := 1) (by decide) ?_
        refine g_isub F dL_isReceipt_64 ?_
        refine l_st F (K := 6) (j := (12 + o1)) hd71 ⟨by decide, by decide⟩ rfl (show (12 + o1) < 16 by omega) dL_isReceipt_65 ?_
        refine g_iload F 0 dL_isReceipt_66 rfl ?_
        refine g_if_lt F (tgt := 133) dL_isReceipt_68 (by decide) (fun zc3 => ?_) (fun zc3 => ?_)
        ·
          exact absurd ((nI_ltE (show (nI (10 * xj + xe)) = nI (10 * xj + xe) from rfl) (show 0 = nI 0 from rfl) (by omega) (by omega)).mp zc3) (by omega)
        ·
          refine g_iload F 0 dL_isReceipt_71 rfl ?_
          refine g_bipush F dL_isReceipt_73 (v := 10) (by decide) ?_
          refine g_idiv F dL_isReceipt_75 (by decide) ?_
          refine g_top (y := (nI ((10 * xj + xe) / 10))) (Eq.symm (by rw [show (nI (10 * xj + xe)) = nI (10 * xj + xe) from rfl, show 10 = nI 10 from rfl]; exact pk_div (by omega) (by omega) (by omega))) ?_
          refine g_aload F 6 dL_isReceipt_76 rfl ?_
          refine g_iconst F dL_isReceipt_78 (v := 0) (by decide) ?_
          refine l_ld F (K := 7) (j := 0) (v := (nI n)) hd71 ⟨by decide, by decide⟩ rfl (show 0 < 2 by omega) (((up2_ne _ _ (fun h => absurd h.1 (by decide))).trans rfl).trans hg0) dL_isReceipt_79 ?_
          refine g_icmp_ge F (tgt := 133) dL_isReceipt_80 (by decide) (fun zc4 => ?_) (fun zc4 => ?_)
          ·
            exact absurd ((nI_leE (show (nI n) = nI n from rfl) (show (nI ((10 * xj + xe) / 10)) = nI ((10 * xj + xe) / 10) from rfl) (by omega) (by omega)).mp zc4) (by omega)
          ·
            refine g_aload_n F 2 dL_isReceipt_83 rfl rfl ?_
            refine g_iload F 0 dL_isReceipt_84 rfl ?_
            refine g_bipush F dL_isReceipt_86 (v := 10) (by decide) ?_
            refine g_idiv F dL_isReceipt_88 (by decide) ?_
            refine g_top (y := (nI ((10 * xj + xe) / 10))) (Eq.symm (by rw [show (nI (10 * xj + xe)) = nI (10 * xj + xe) from rfl, show 10 = nI 10 from rfl]; exact pk_div (by omega) (by omega) (by omega))) ?_
            refine l_ld F (K := 1) (j := ((10 * xj + xe) / 10)) (v := (nI o1)) hd71 ⟨by decide, by decide⟩ rfl (show ((10 * xj + xe) / 10) < 48 by omega) (((up2_ne _ _ (fun h => absurd h.1 (by decide))).trans rfl).trans (by rw [hdv]; exact hm1)) dL_isReceipt_89 ?_
            refine g_iload F 7 dL_isReceipt_90 rfl ?_
            refine g_icmp_ne F (tgt := 133) dL_isReceipt_92 (by decide) (fun zc5 => ?_) (fun zc5 => ?_)
            ·
              exact absurd ((nI_eqE (show (nI o1) = nI o1 from rfl) (show (nI o1) = nI o1 from rfl) (by omega) (by omega)).mpr (by omega)) zc5
            ·
              refine g_aload_n F 4 dL_isReceipt_95 rfl rfl ?_
              refine g_iload F 0 dL_isReceipt_96 rfl ?_
              refine g_bipush F dL_isReceipt_98 (v := 10) (by decide) ?_
              refine g_idiv F dL_isReceipt_100 (by decide) ?_
              refine g_top (y := (nI ((10 * xj + xe) / 10))) (Eq.symm (by rw [show (nI (10 * xj + xe)) = nI (10 * xj + xe) from rfl, show 10 = nI 10 from rfl]; exact pk_div (by omega) (by omega) (by omega))) ?_
              refine l_ld F (K := 4) (j := ((10 * xj + xe) / 10)) (v := 1) hd71 ⟨by decide, by decide⟩ rfl (show ((10 * xj + xe) / 10) < 24 by omega) (((up2_ne _ _ (fun h => absurd h.1 (by decide))).trans rfl).trans (by rw [hdv]; exact hw1)) dL_isReceipt_101 ?_
              refine g_iconst F dL_isReceipt_102 (v := 1) (by decide) ?_
              refine g_icmp_ne F (tgt := 133) dL_isReceipt_103 (by decide) (fun zc6 => ?_) (fun zc6 => ?_)
              ·
                exact absurd zc6 (by decide)
              ·
                refine g_aload_n F 3 dL_isReceipt_106 rfl rfl ?_
                refine g_iload F 0 dL_isReceipt_107 rfl ?_
                refine g_bipush F dL_isReceipt_109 (v := 10) (by decide) ?_
                refine g_idiv F dL_isReceipt_111 (by decide) ?_
                refine g_top (y := (nI ((10 * xj + xe) / 10))) (Eq.symm (by rw [show (nI (10 * xj + xe)) = nI (10 * xj + xe) from rfl, show 10 = nI 10 from rfl]; exact pk_div (by omega) (by omega) (by omega))) ?_
                refine l_ld F (K := 3) (j := ((10 * xj + xe) / 10)) (v := (nI xe)) hd71 ⟨by decide, by decide⟩ rfl (show ((10 * xj + xe) / 10) < 48 by omega) (((up2_ne _ _ (fun h => absurd h.1 (by decide))).trans rfl).trans (by rw [hdv]; exact ht1)) dL_isReceipt_112 ?_
                refine g_iload F 0 dL_isReceipt_113 rfl ?_
                refine g_bipush F dL_isReceipt_115 (v := 10) (by decide) ?_
                refine g_irem F dL_isReceipt_117 (by decide) ?_
                refine g_top (y := (nI ((10 * xj + xe) % 10))) (Eq.symm (by rw [show (nI (10 * xj + xe)) = nI (10 * xj + xe) from rfl, show 10 = nI 10 from rfl]; exact pk_rem (by omega) (by omega) (by omega))) ?_
                refine g_icmp_ne F (tgt := 133) dL_isReceipt_118 (by decide) (fun zc7 => ?_) (fun zc7 => ?_)
                ·
                  exact absurd ((nI_eqE (show (nI xe) = nI xe from rfl) (show (nI ((10 * xj + xe) % 10)) = nI ((10 * xj + xe) % 10) from rfl) (by omega) (by omega)).mpr (by omega)) zc7
                ·
                  refine g_iload F 0 dL_isReceipt_121 rfl ?_
                  refine g_bipush F dL_isReceipt_123 (v := 10) (by decide) ?_
                  refine g_irem F dL_isReceipt_125 (by decide) ?_
                  refine g_top (y := (nI ((10 * xj + xe) % 10))) (Eq.symm (by rw [show (nI (10 * xj + xe)) = nI (10 * xj + xe) from rfl, show 10 = nI 10 from rfl]; exact pk_rem (by omega) (by omega) (by omega))) ?_
                  refine g_if_le F (tgt := 133) dL_isReceipt_126 (by decide) (fun zc8 => ?_) (fun zc8 => ?_)
                  ·
                    exact absurd ((nI_leE (show (nI ((10 * xj + xe) % 10)) = nI ((10 * xj + xe) % 10) from rfl) (show 0 = nI 0 from rfl) (by omega) (by omega)).mp zc8) (by omega)
                  ·
                    refine g_iconst F dL_isReceipt_129 (v := 1) (by decide) ?_
                    refine g_goto F (tgt := 134) dL_isReceipt_130 (by decide) ?_
                    exact g_qz F hr rfl hlocks (fun _ h => h) ⟨rfl, ⟨n, tq1, t, τ, (va_up Lx (1 + o1) ((Lx (1 + o1)).eraseIdx 0)), cap1, mk1, ev1, zl1, tx1, mt1, tn1, tc1, (up2 la 6 (12 + o1) ((la 6 (12 + o1)) - 1)), wz, (va_up kt o1 (kt o1 + 1)), rd, fun k hk => had1 k 0 hk, Nat.le_add_right _ _, hC1, hd71, hlo1, hI1, hJ1, rfl⟩⟩ (show (0 + 2) ≤ 5 by omega) (show (0 + 12) ≤ 34 by omega) dL_isReceipt_134
      ·
        exact absurd zc2 hne
  ·
    replace e1 := e1.symm
    subst e1
    replace e2 := e2.symm
    subst e2
    replace e3 := e3.symm
    subst e3
    have hp := (hp.resolve_right (fun q => absurd q.1 (by decide))).2
    refine g_st (st1 := [.int (-30)]) rfl ?_
    have hA : ¬ o1 < 4 := fun q => hp ((ac_n (by omega)).mpr q)
    refine g_istore F (lv1 := [(7, .int (-30)), (0, .ref (ad 10 0)), (1, .ref (ad 1 0)), (2, .ref (ad 3 0)), (3, .ref (ad 4 0)), (4, .ref (ad 6 0)), (5, .ref (ad 7 0)), (6, .int (nI o1))]) dL_isReceipt_11 (by decide) rfl ?_
    refine g_iload F 7 dL_isReceipt_13 rfl ?_
    refine g_iconst F dL_isReceipt_15 (v := 4) (by decide) ?_
    refine g_icmp_eq F (tgt := 30) dL_isReceipt_16 (by decide) (fun zc9 => ?_) (fun zc9 => ?_)
    ·
      refine g_iload F 0 dL_isReceipt_30 rfl ?_
      refine g_iload F 7 dL_isReceipt_32 rfl ?_
      refine g_iconst F dL_isReceipt_34 (v := 4) (by decide) ?_
      refine g_icmp_ne F (tgt := 43) dL_isReceipt_35 (by decide) (fun zc10 => ?_) (fun zc10 => ?_)
      ·
        exact absurd ((nI_eqE (show (nI o1) = nI o1 from rfl) (show 4 = nI 4 from rfl) (by omega) (by omega)).mpr (by omega)) zc10
      ·
        refine g_bipush F dL_isReceipt_38 (v := -30) (by decide) ?_
        refine g_goto F (tgt := 45) dL_isReceipt_40 (by decide) ?_
        refine g_icmp_ne F (tgt := 52) dL_isReceipt_45 (by decide) (fun zc11 => ?_) (fun zc11 => ?_)
        ·
          exact absurd zc11 (by decide)
        ·
          refine g_iconst F dL_isReceipt_48 (v := 1) (by decide) ?_
          refine g_goto F (tgt := 53) dL_isReceipt_49 (by decide) ?_
          exact g_qz F hr rfl hlocks (fun _ h => h) ⟨rfl, ⟨n, tq, t, σ, Lx, cap, mk, ev, zl, tx, mt, tn, tc, la, wz, kt, rd, fun _ _ => rfl, Nat.le_add_right _ _, hC9, hd79, hlo, hI, hJ, rfl⟩⟩ (show (0 + 2) ≤ 5 by omega) (show (0 + 12) ≤ 34 by omega) dL_isReceipt_53
    ·
      exact absurd ((nI_eqE (show (nI o1) = nI o1 from rfl) (show 4 = nI 4 from rfl) (by omega) (by omega)).mpr (by omega)) zc9
  ·
    exact absurd hp (fun q => q.elim (fun z => absurd z.1 (by decide)) (fun z => absurd z.1 (by decide)))
  ·
    replace e1 := e1.symm
    subst e1
    replace e2 := e2.symm
    subst e2
    replace e3 := e3.symm
    subst e3
    have hp := (hp.resolve_left (fun q => absurd q.1 (by decide))).2
    refine g_st (st1 := [.int (-10)]) rfl ?_
    have ea : ix (nI o1) = o1 := ix_nI (by omega)
    rw [ea] at hp
    have hA := (ac_n (by omega)).mp hp.1
    have h0 : la 6 (12 + o1) = 0 := (hJ.rec hT hA).1.trans hp.2
    refine g_istore F (lv1 := [(7, .int (-10)), (0, .ref (ad 10 0)), (1, .ref (ad 1 0)), (2, .ref (ad 3 0)), (3, .ref (ad 4 0)), (4, .ref (ad 6 0)), (5, .ref (ad 7 0)), (6, .int (nI o1))]) dL_isReceipt_11 (by decide) rfl ?_
    refine g_iload F 7 dL_isReceipt_13 rfl ?_
    refine g_iconst F dL_isReceipt_15 (v := 4) (by decide) ?_
    refine g_icmp_eq F (tgt := 30) dL_isReceipt_16 (by decide) (fun zc12 => ?_) (fun zc12 => ?_)
    ·
      exact absurd ((nI_eqE (show (nI o1) = nI o1 from rfl) (show 4 = nI 4 from rfl) (by omega) (by omega)).mp zc12) (by omega)
    ·
      refine g_aload F 5 dL_isReceipt_19 rfl ?_
      refine g_bipush F dL_isReceipt_21 (v := 12) (by decide) ?_
      refine g_iload F 7 dL_isReceipt_23 rfl ?_
      refine g_iadd F dL_isReceipt_25 ?_
      refine g_top (y := (nI (12 + o1))) (Eq.symm (nI_addE (show 12 = nI 12 from rfl) (show (nI o1) = nI o1 from rfl))) ?_
      refine l_ld F (K := 6) (j := (12 + o1)) (v := (la 6 (12 + o1))) hd79 ⟨by decide, by decide⟩ rfl (show (12 + o1) < 16 by omega) rfl dL_isReceipt_26 ?_
      refine g_if_ne F (tgt := 54) dL_isReceipt_27 (by decide) (fun zc13 => ?_) (fun zc13 => ?_)
      ·
        exact absurd h0 zc13
      ·
        refine g_iload F 0 dL_isReceipt_30 rfl ?_
        refine g_iload F 7 dL_isReceipt_32 rfl ?_
        refine g_iconst F dL_isReceipt_34 (v := 4) (by decide) ?_
        refine g_icmp_ne F (tgt := 43) dL_isReceipt_35 (by decide) (fun zc14 => ?_) (fun zc14 => ?_)
        ·
          refine g_bipush F dL_isReceipt_43 (v := -10) (by decide) ?_
          refine g_icmp_ne F (tgt := 52) dL_isReceipt_45 (by decide) (fun zc15 => ?_) (fun zc15 => ?_)
          ·
            exact absurd zc15 (by decide)
          ·
            refine g_iconst F dL_isReceipt_48 (v := 1) (by decide) ?_
            refine g_goto F (tgt := 53) dL_isReceipt_49 (by decide) ?_
            exact g_qz F hr rfl hlocks (fun _ h => h) ⟨rfl, ⟨n, tq, t, σ, Lx, cap, mk, ev, zl, tx, mt, tn, tc, la, wz, kt, rd, fun _ _ => rfl, Nat.le_add_right _ _, hC9, hd79, hlo, hI, hJ, rfl⟩⟩ (show (0 + 2) ≤ 5 by omega) (show (0 + 12) ≤ 34 by omega) dL_isReceipt_53
        ·
          exact absurd ((nI_eqE (show (nI o1) = nI o1 from rfl) (show 4 = nI 4 from rfl) (by omega) (by omega)).mp zc14) (by omega)
