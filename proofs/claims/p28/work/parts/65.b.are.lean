theorem wc_b {σ : SG} {j r b e : Nat} (h13 : σ 13 j = nI b) (hb : b < 6) (hr : r < 6) (h23 : σ 23 j = nI e) (he : e < 5) : nI (qf σ j r).length + bi ((nI b = nI r) ∧ (nI e = 0)) = nI (qf σ (j + 1) r).length := by
  have e1 : (nI b = nI r) ↔ ix (σ 13 j) = r := by
    rw [h13, ix_nI (by omega)]
    exact nI_eq (by omega) (by omega)
  have e2 : (nI e = 0) ↔ σ 23 j = 0 := by rw [h23]
  rw [qf_s]
  by_cases c : (nI b = nI r) ∧ (nI e = 0)
  · rw [bi_t c, if_pos ⟨e2.mp c.2, e1.mp c.1⟩, List.length_append, List.length_singleton]
    exact nI_1 _
  · rw [bi_f c, if_neg (fun q => c ⟨e1.mpr q.2, e2.mpr q.1⟩), List.append_nil]
    exact Int32.add_zero _
theorem sd_b {σ : SG} {j r b d : Nat} (h13 : σ 13 j = nI b) (hb : b < 6) (hr : r < 6) (h24 : σ 24 j = nI d) (hd : d ≤ 500) : nI (sumd σ r j) + (if nI b = nI r then nI d else 0) = nI (sumd σ r (j + 1)) := by
  have e1 : (nI b = nI r) ↔ ix (σ 13 j) = r := by
    rw [h13, ix_nI (by omega)]
    exact nI_eq (by omega) (by omega)
  show _ = nI (if ix (σ 13 j) = r then sumd σ r j + ix (σ 24 j) else sumd σ r j)
  by_cases c : nI b = nI r
  · rw [if_pos c, if_pos (e1.mp c), h24, ix_nI (by omega)]
    exact nI_add _ _
  · rw [if_neg c, if_neg (fun q => c (e1.mpr q))]
    exact Int32.add_zero _
theorem nI_sb {a b c : Nat} (h : a + b = c) : nI c - nI b = nI a := by rw [← h, ← nI_add, Int32.add_sub_cancel]
theorem sumd_le {σ : SG} {r m : Nat} : ∀ {n : Nat}, (∀ k, k < n → ix (σ 24 k) ≤ m) → sumd σ r n ≤ m * n
  | 0, _ => Nat.zero_le _
  | n + 1, h => by
    have i := sumd_le (r := r) (n := n) (fun k hk => h k (by omega))
    have := h n (by omega)
    unfold sumd
    rw [Nat.mul_succ]
    split <;> omega
set_option maxHeartbeats 4000000 in
set_option maxRecDepth 100000 in
theorem lw_areRecipients (l : Launch) (D : va_G) (A : Nat → Prop) (cs : Nat → ClassId) (ad : Nat → Nat → Nat) (dm : Nat → Nat → Prop) (σ : SG) (Lx : Nat → List Nat) (cap : Nat → Nat) (mk : Nat → Int32) (ev : SG) (zl tx mt tn : Nat → Nat) (tc : SG) (la : SG) (wz : CF) (n tq t : Nat) (kt rd : Nat → Nat) (hC : CD dm n cap tq) (hd7 : ∀ k, 1 ≤ k → k ≤ 7 → dm k 0) (hlo : LO n Lx cap) (hI : INV n tq t σ Lx ev zl tx mt tn tc) (hJ : LJ n t σ la Lx kt rd) (htb : t ≤ 100000) (hfl : l.stackTraces = false)  (hT : LT n σ la) : Met l yL_areRecipients wsL_areRecipients ({ frames := 9, cells := 60, slots := 360, locals := 157 }) (va_Pc [.ref (ad 10 0), .ref (ad 1 0), .ref (ad 3 0), .ref (ad 5 0), .ref (ad 7 0)] (PW D A (tysG cs) ad dm (cw D ad cs σ Lx cap mk ev zl tx mt tn tc (lwd cs la wz)))) (QW D A (tysG cs) (fun rz ad1 dm1 w1 => rz = some (.int 1) ∧ ad = ad1 ∧ dm = dm1 ∧ (cw D ad cs σ Lx cap mk ev zl tx mt tn tc (lwd cs la wz)) = w1)) 60 360 A := by
  refine g_start (own := RL) [.ref (ad 10 0), .ref (ad 1 0), .ref (ad 3 0), .ref (ad 5 0), .ref (ad 7 0)] (cc := cL_areRecipients) (maxL := 11) (ret := (some .boolean)) (lv0 := [(0, .ref (ad 10 0)), (1, .ref (ad 1 0)), (2, .ref (ad 3 0)), (3, .ref (ad 5 0)), (4, .ref (ad 7 0))]) (by decide) rfl rfl (Nat.le_of_ble_eq_true rfl) rfl ?_
  intro p e s m below meth c F hr hlocks hno
  have hn40 : n ≤ 40 := hI.1
  have hn23 : n ≤ 23 := hJ.1
  have hL : Lx 0 = List.range n := hI.2.2.1.2.1.1.1
  have hmt := hI.hmt
  have hmm : ∀ j, j < n → okM σ j := hI.2.2.1.2.2.2.2
  have hlg : ∀ j, j < n → zl j ≤ elen σ j ∧ elen σ j ≤ 1000 := fun j hj => ⟨(hI.2.2.1.2.2.1 j hj).2.2.2, by have := (hmm j hj).2.2.2.2.2; unfold elen; omega⟩
  have hg0 : la 7 0 = nI n := hJ.2.1
  have hg1 : la 7 1 = nI t := hJ.2.2.1
  have hnow : σ 0 0 = nI t := hI.2.2.1.2.1.2.2.2.1
  refine g_aload_n F 0 dL_areRecipients_0 rfl rfl ?_
  refine g_bipush F dL_areRecipients_1 (v := 7) (by decide) ?_
  refine g_bipush F dL_areRecipients_3 (v := 6) (by decide) ?_
  refine g_iconst F dL_areRecipients_5 (v := 0) (by decide) ?_
  refine lq_asks F (rest := []) (lk_inRoom l D A cs ad dm σ Lx cap mk ev zl tx mt tn tc (lwd cs la wz) n tq hC  hfl 6 0 (by decide)) (vx_cwSW 4 F.1.2.2.2.2 gL_areRecipients_L_asks rfl rfl rfl (by decide +kernel) ⟨Nat.le_of_ble_eq_true rfl, Nat.le_of_ble_eq_true rfl⟩) (Nat.le_of_ble_eq_true rfl) dL_areRecipients_6 ⟨show 0 + 1 ≤ 60 by omega, show 0 + 6 ≤ 360 by omega⟩ ?_
  refine g_bipush F dL_areRecipients_9 (v := -30) (by decide) ?_
  refine g_icmp_ne F (tgt := 59) dL_areRecipients_11 (by decide) (fun zc1 => ?_) (fun zc1 => ?_)
  ·
    exact absurd rfl zc1
  ·
    refine g_aload_n F 0 dL_areRecipients_14 rfl rfl ?_
    refine g_bipush F dL_areRecipients_15 (v := 8) (by decide) ?_
    refine g_iconst F dL_areRecipients_17 (v := -1) (by decide) ?_
    refine g_iconst F dL_areRecipients_18 (v := 0) (by decide) ?_
    refine lq_asks F (rest := []) (lk_marks l D A cs ad dm σ Lx cap mk ev zl tx mt tn tc (lwd cs la wz) n tq hC  hfl (-1) 0 (fun q => q.1 (by decide))) (vx_cwSW 4 F.1.2.2.2.2 gL_areRecipients_L_asks rfl rfl rfl (by decide +kernel) ⟨Nat.le_of_ble_eq_true rfl, Nat.le_of_ble_eq_true rfl⟩) (Nat.le_of_ble_eq_true rfl) dL_areRecipients_19 ⟨show (0 + 1) + 1 ≤ 60 by omega, show (0 + 6) + 6 ≤ 360 by omega⟩ ?_
    refine g_bipush F dL_areRecipients_22 (v := -30) (by decide) ?_
    refine g_icmp_ne F (tgt := 59) dL_areRecipients_24 (by decide) (fun zc2 => ?_) (fun zc2 => ?_)
    ·
      exact absurd rfl zc2
    ·
      refine g_aload_n F 0 dL_areRecipients_27 rfl rfl ?_
      refine g_bipush F dL_areRecipients_28 (v := 9) (by decide) ?_
      refine g_bipush F dL_areRecipients_30 (v := 6) (by decide) ?_
      refine g_iconst F dL_areRecipients_32 (v := 0) (by decide) ?_
      refine lq_asks F (rest := []) (lk_waiting l D A cs ad dm σ Lx cap mk ev zl tx mt tn tc (lwd cs la wz) n tq hC  hfl 6 0 (by decide)) (vx_cwSW 4 F.1.2.2.2.2 gL_areRecipients_L_asks rfl rfl rfl (by decide +kernel) ⟨Nat.le_of_ble_eq_true rfl, Nat.le_of_ble_eq_true rfl⟩) (Nat.le_of_ble_eq_true rfl) dL_areRecipients_33 ⟨show ((0 + 1) + 1) + 1 ≤ 60 by omega, show ((0 + 6) + 6) + 6 ≤ 360 by omega⟩ ?_
      refine g_bipush F dL_areRecipients_36 (v := -30) (by decide) ?_
      refine g_icmp_ne F (tgt := 59) dL_areRecipients_38 (by decide) (fun zc3 => ?_) (fun zc3 => ?_)
      ·
        exact absurd rfl zc3
      ·
        refine g_aload_n F 0 dL_areRecipients_41 rfl rfl ?_
        refine g_bipush F dL_areRecipients_42 (v := 10) (by decide) ?_
        refine g_bipush F dL_areRecipients_44 (v := 6) (by decide) ?_
        refine g_iconst F dL_areRecipients_46 (v := 0) (by decide) ?_
        refine lq_asks F (rest := []) (lk_next l D A cs ad dm σ Lx cap mk ev zl tx mt tn tc (lwd cs la wz) n tq hC hlo hfl 6 0 (by decide)) (vx_cwSW 4 F.1.2.2.2.2 gL_areRecipients_L_asks rfl rfl rfl (by decide +kernel) ⟨Nat.le_of_ble_eq_true rfl, Nat.le_of_ble_eq_true rfl⟩) (Nat.le_of_ble_eq_true rfl) dL_areRecipients_47 ⟨show (((0 + 1) + 1) + 1) + 1 ≤ 60 by omega, show (((0 + 6) + 6) + 6) + 6 ≤ 360 by omega⟩ ?_
        refine g_bipush F dL_areRecipients_50 (v := -30) (by decide) ?_
        refine g_icmp_ne F (tgt := 59) dL_areRecipients_52 (by decide) (fun zc4 => ?_) (fun zc4 => ?_)
        ·
          exact absurd rfl zc4
        ·
          refine g_iconst F dL_areRecipients_55 (v := 1) (by decide) ?_
          refine g_goto F (tgt := 60) dL_areRecipients_56 (by decide) ?_
          refine g_istore F (lv1 := [(5, .int 1), (0, .ref (ad 10 0)), (1, .ref (ad 1 0)), (2, .ref (ad 3 0)), (3, .ref (ad 5 0)), (4, .ref (ad 7 0))]) dL_areRecipients_60 (by decide) rfl ?_
          refine g_iconst F dL_areRecipients_62 (v := 0) (by decide) ?_
          refine g_istore F (lv1 := [(6, .int 0), (5, .int 1), (0, .ref (ad 10 0)), (1, .ref (ad 1 0)), (2, .ref (ad 3 0)), (3, .ref (ad 5 0)), (4, .ref (ad 7 0))]) dL_areRecipients_63 (by decide) rfl ?_
          refine g_lv (lv1 := [(0, .ref (ad 10 0)), (1, .ref (ad 1 0)), (2, .ref (ad 3 0)), (3, .ref (ad 5 0)), (4, .ref (ad 7 0)), (5, .int 1), (6, .int (nI 0))]) [2, 3, 4, 5, 6, 1, 0] rfl ?_
          refine g_loopP 6 0 (Nat.zero_le _) (fun zk ad1 dm1 w1 lv1 => ad = ad1 ∧ dm = dm1 ∧ (cw D ad cs σ Lx cap mk ev zl tx mt tn tc (lwd cs la wz)) = w1 ∧ lv1 = [(0, .ref (ad 10 0)), (1, .ref (ad 1 0)), (2, .ref (ad 3 0)), (3, .ref (ad 5 0)), (4, .ref (ad 7 0)), (5, .int 1), (6, .int (nI zk))]) (fun zk => ((((0 + 1) + 1) + 1) + 1) + 6 * zk) (fun zk => ((((0 + 6) + 6) + 6) + 6) + 36 * zk) rfl rfl ⟨rfl, rfl, rfl, rfl⟩ ?_ (fun zk hz0 hz1 ih => ?_)
          ·
            intro ad1 dm1 w1 lv1 h9
            obtain ⟨rfl, rfl, rfl, rfl⟩ := h9
            show GG p l e _ s m _ below meth c D A ad dm _ (((((0 + 1) + 1) + 1) + 1) + 6 * 6) (((((0 + 6) + 6) + 6) + 6) + 36 * 6) _ (cw D ad cs σ Lx cap mk ev zl tx mt tn tc (lwd cs la wz)) 65 [(0, .ref (ad 10 0)), (1, .ref (ad 1 0)), (2, .ref (ad 3 0)), (3, .ref (ad 5 0)), (4, .ref (ad 7 0)), (5, .int 1), (6, .int (nI 6))] []
            refine g_iload F 6 dL_areRecipients_65 rfl ?_
            refine g_bipush F dL_areRecipients_67 (v := 6) (by decide) ?_
            refine g_icmp_ge F (tgt := 311) dL_areRecipients_69 (by decide) (fun zc5 => ?_) (fun zc5 => ?_)
            ·
              refine g_iload F 5 dL_areRecipients_311 rfl ?_
              exact g_qz F hr rfl hlocks (fun _ h => h) ⟨rfl, rfl, rfl, rfl⟩ (show (((((0 + 1) + 1) + 1) + 1) + 6 * 6) ≤ 60 by omega) (show (((((0 + 6) + 6) + 6) + 6) + 36 * 6) ≤ 360 by omega) dL_areRecipients_313
            ·
              exact absurd ((nI_leE (show 6 = nI 6 from rfl) (show (nI 6) = nI 6 from rfl) (by omega) (by omega)).mpr (by omega)) zc5
          ·
            intro ad1 dm1 w1 lv1 h9
            obtain ⟨rfl, rfl, rfl, rfl⟩ := h9
            show GG p l e _ s m _ below meth c D A ad dm _ (((((0 + 1) + 1) + 1) + 1) + 6 * zk) (((((0 + 6) + 6) + 6) + 6) + 36 * zk) _ (cw D ad cs σ Lx cap mk ev zl tx mt tn tc (lwd cs la wz)) 65 [(0, .ref (ad 10 0)), (1, .ref (ad 1 0)), (2, .ref (ad 3 0)), (3, .ref (ad 5 0)), (4, .ref (ad 7 0)), (5, .int 1), (6, .int (nI zk))] []
            obtain ⟨xm, xk, xi, hm4, hk50, hi50, h31, h29, h30, hmk, hm1, hsum⟩ := hJ.2.2.2.2.2.2.2.1 zk hz1
            obtain ⟨hr28, hr29, hr12⟩ := hJ.2.2.2.2.1 zk hz1
            have hq : Lx (5 + zk) = qf σ n zk := hI.2.2.1.2.1.1.2 zk hz1
            have hqn : (qf σ n zk).length ≤ n := qf_len σ n zk
            have hsn : sumd σ zk n ≤ 500 * n := sumd_le (fun k hk => by obtain ⟨-, -, -, d0, d, q, u, -, g2, -, -, -, g6, g7, -⟩ := hJ.2.2.2.2.2.2.1 k hk; rw [g2, ix_nI (by omega)]; omega)
            refine g_iload F 6 dL_areRecipients_65 rfl ?_
            refine g_bipush F dL_areRecipients_67 (v := 6) (by decide) ?_
            refine g_icmp_ge F (tgt := 311) dL_areRecipients_69 (by decide) (fun zc6 => ?_) (fun zc6 => ?_)
            ·
              exact absurd ((nI_leE (show 6 = nI 6 from rfl) (show (nI zk) = nI zk from rfl) (by omega) (by omega)).mp zc6) (by omega)
            ·
              refine g_iload F 5 dL_areRecipients_72 rfl ?_
              refine g_if_eq F (tgt := 311) dL_areRecipients_74 (by decide) (fun zc7 => ?_) (fun zc7 => ?_)
              ·
                exact absurd ((nI_eqE (show 1 = nI 1 from rfl) (show 0 = nI 0 from rfl) (by omega) (by omega)).mp zc7) (by omega)
              ·
                refine g_iconst F dL_areRecipients_77 (v := 0) (by decide) ?_
                refine g_istore F (lv1 := [(7, .int 0), (0, .ref (ad 10 0)), (1, .ref (ad 1 0)), (2, .ref (ad 3 0)), (3, .ref (ad 5 0)), (4, .ref (ad 7 0)), (5, .int 1), (6, .int (nI zk))]) dL_areRecipients_78 (by decide) rfl ?_
                refine g_iconst F dL_areRecipients_80 (v := 0) (by decide) ?_
                refine g_istore F (lv1 := [(8, .int 0), (7, .int 0), (0, .ref (ad 10 0)), (1, .ref (ad 1 0)), (2, .ref (ad 3 0)), (3, .ref (ad 5 0)), (4, .ref (ad 7 0)), (5, .int 1), (6, .int (nI zk))]) dL_areRecipients_81 (by decide) rfl ?_
                refine g_iconst F dL_areRecipients_83 (v := 0) (by decide) ?_
                refine g_istore F (lv1 := [(9, .int 0), (8, .int 0), (7, .int 0), (0, .ref (ad 10 0)), (1, .ref (ad 1 0)), (2, .ref (ad 3 0)), (3, .ref (ad 5 0)), (4, .ref (ad 7 0)), (5, .int 1), (6, .int (nI zk))]) dL_areRecipients_84 (by decide) rfl ?_
                refine g_loop n 0 (Nat.zero_le _) (fun zj => (cw D ad cs σ Lx cap mk ev zl tx mt tn tc (lwd cs la wz))) (fun zj => [(9, .int (nI zj)), (8, .int (nI (sumd σ zk zj))), (7, .int (nI ((qf σ zj zk).length))), (0, .ref (ad 10 0)), (1, .ref (ad 1 0)), (2, .ref (ad 3 0)), (3, .ref (ad 5 0)), (4, .ref (ad 7 0)), (5, .int 1), (6, .int (nI zk))]) rfl rfl ?_ (fun zj hj0 hj1 ihj => ?_)
                ·
                  show GG p l e _ s m _ below meth c D A ad dm _ (((((0 + 1) + 1) + 1) + 1) + 6 * zk) (((((0 + 6) + 6) + 6) + 6) + 36 * zk) _ (cw D ad cs σ Lx cap mk ev zl tx mt tn tc (lwd cs la wz)) 86 [(9, .int (nI n)), (8, .int (nI (sumd σ zk n))), (7, .int (nI ((qf σ n zk).length))), (0, .ref (ad 10 0)), (1, .ref (ad 1 0)), (2, .ref (ad 3 0)), (3, .ref (ad 5 0)), (4, .ref (ad 7 0)), (5, .int 1), (6, .int (nI zk))] []
                  refine g_iload F 0 dL_areRecipients_86 rfl ?_
                  refine g_aload F 7 dL_areRecipients_88 rfl ?_
                  refine g_iconst F dL_areRecipients_90 (v := 0) (by decide) ?_
                  refine l_ld F (K := 7) (j := 0) (v := (nI n)) hd7 ⟨by decide, by decide⟩ rfl (show 0 < 2 by omega) hg0 dL_areRecipients_91 ?_
                  refine g_icmp_ge F (tgt := 158) dL_areRecipients_92 (by decide) (fun zc8 => ?_) (fun zc8 => ?_)
                  ·
                    refine g_aload_n F 3 dL_areRecipients_158 rfl rfl ?_
                    refine g_iload F 9 dL_areRecipients_159 rfl ?_
                    refine lq_marks F hC hn40 hL hlo hfl (r := zk) (by omega) (v := (nI xm)) h31 (cwV 1 F.1.2.2.2.2 gL_areRecipients_X5_marks rfl rfl rfl (by decide +kernel) ⟨Nat.le_of_ble_eq_true rfl, Nat.le_of_ble_eq_true rfl⟩) (Nat.le_of_ble_eq_true rfl) dL_areRecipients_161 ⟨show (((((0 + 1) + 1) + 1) + 1) + 6 * zk) + 1 ≤ 60 by omega, show (((((0 + 6) + 6) + 6) + 6) + 36 * zk) + 6 ≤ 360 by omega⟩ ?_
                    refine g_istore F (lv1 := [(9, .int (nI xm)), (8, .int (nI (sumd σ zk n))), (7, .int (nI ((qf σ n zk).length))), (0, .ref (ad 10 0)), (1, .ref (ad 1 0)), (2, .ref (ad 3 0)), (3, .ref (ad 5 0)), (4, .ref (ad 7 0)), (5, .int 1), (6, .int (nI zk))]) dL_areRecipients_164 (by decide) rfl ?_
                    refine g_aload_n F 3 dL_areRecipients_166 rfl rfl ?_
                    refine g_iload F 9 dL_areRecipients_167 rfl ?_
                    refine lq_next F hC hn40 hL hlo hfl (r := zk) (by omega) (v := (ovN (frL σ 2147483647 (Lx (5 + zk))))) rfl (cwV 1 F.1.2.2.2.2 gL_areRecipients_X5_next rfl rfl rfl (by decide +kernel) ⟨Nat.le_of_ble_eq_true rfl, Nat.le_of_ble_eq_true rfl⟩) (Nat.le_of_ble_eq_true rfl) dL_areRecipients_169 ⟨show ((((((0 + 1) + 1) + 1) + 1) + 6 * zk) + 1) + 1 ≤ 60 by omega, show ((((((0 + 6) + 6) + 6) + 6) + 36 * zk) + 6) + 6 ≤ 360 by omega⟩ ?_
                    refine g_istore F (lv1 := [(10, .int (ovN (frL σ 2147483647 (Lx (5 + zk))))), (9, .int (nI xm)), (8, .int (nI (sumd σ zk n))), (7, .int (nI ((qf σ n zk).length))), (0, .ref (ad 10 0)), (1, .ref (ad 1 0)), (2, .ref (ad 3 0)), (3, .ref (ad 5 0)), (4, .ref (ad 7 0)), (5, .int 1), (6, .int (nI zk))]) dL_areRecipients_172 (by decide) rfl ?_
                    refine g_aload_n F 4 dL_areRecipients_174 rfl rfl ?_
                    refine g_iload F 10 dL_areRecipients_175 rfl ?_
                    refine lq_waiting F hC hn40 hL hlo hfl (r := zk) (by omega) (v := (nI ((qf σ n zk).length))) (congrArg (fun y : List Nat => nI y.length) hq) (cwV 1 F.1.2.2.2.2 gL_areRecipients_X5_waiting rfl rfl rfl (by decide +kernel) ⟨Nat.le_of_ble_eq_true rfl, Nat.le_of_ble_eq_true rfl⟩) (Nat.le_of_ble_eq_true rfl) dL_areRecipients_177 ⟨show (((((((0 + 1) + 1) + 1) + 1) + 6 * zk) + 1) + 1) + 1 ≤ 60 by omega, show (((((((0 + 6) + 6) + 6) + 6) + 36 * zk) + 6) + 6) + 6 ≤ 360 by omega⟩ ?_
                    refine g_iload F 3 dL_areRecipients_180 rfl ?_
                    refine g_icmp_ne F (tgt := 302) dL_areRecipients_182 (by decide) (fun zc9 => ?_) (fun zc9 => ?_)
                    ·
                      exact absurd ((nI_eqE (show (nI ((qf σ n zk).length)) = nI ((qf σ n zk).length) from rfl) (show (nI ((qf σ n zk).length)) = nI ((qf σ n zk).length) from rfl) (by omega) (by omega)).mpr (by omega)) zc9
                    ·
                      refine g_aload_n F 4 dL_areRecipients_185 rfl rfl ?_
                      refine g_iload F 10 dL_areRecipients_186 rfl ?_
                      refine lq_inRoom F hC hn40 hL hlo hfl (r := zk) (by omega) (v := (nI xi)) h30 (cwV 1 F.1.2.2.2.2 gL_areRecipients_X5_inRoom rfl rfl rfl (by decide +kernel) ⟨Nat.le_of_ble_eq_true rfl, Nat.le_of_ble_eq_true rfl⟩) (Nat.le_of_ble_eq_true rfl) dL_areRecipients_188 ⟨show ((((((((0 + 1) + 1) + 1) + 1) + 6 * zk) + 1) + 1) + 1) + 1 ≤ 60 by omega, show ((((((((0 + 6) + 6) + 6) + 6) + 36 * zk) + 6) + 6) + 6) + 6 ≤ 360 by omega⟩ ?_
                      refine g_iload F 2 dL_areRecipients_191 rfl ?_
                      refine g_aload_n F 7 dL_areRecipients_193 rfl rfl ?_
                      refine g_bipush F dL_areRecipients_194 (v := 12) (by decide) ?_
                      refine g_iload F 10 dL_areRecipients_196 rfl ?_
                      refine g_iadd F dL_areRecipients_198 ?_
                      refine l_ld F (K := 5) (j := (12 + zk)) (v := (nI (rd zk))) hd7 ⟨by decide, by decide⟩ (nI_addE (show 12 = nI 12 from rfl) (show (nI zk) = nI zk from rfl)) (show (12 + zk) < 18 by omega) hr12 dL_areRecipients_199 ?_
                      refine g_isub F dL_areRecipients_200 ?_
                      refine g_icmp_ne F (tgt := 302) dL_areRecipients_201 (by decide) (fun zc10 => ?_) (fun zc10 => ?_)
                      ·
                        exact absurd (nI_sb hsum).symm zc10
                      ·
                        refine g_iload F 1 dL_areRecipients_204 rfl ?_
                        refine g_if_lt F (tgt := 302) dL_areRecipients_206 (by decide) (fun zc11 => ?_) (fun zc11 => ?_)
                        ·
                          exact absurd ((nI_ltE (show (nI xm) = nI xm from rfl) (show 0 = nI 0 from rfl) (by omega) (by omega)).mp zc11) (by omega)
                        ·
                          refine g_iload F 1 dL_areRecipients_209 rfl ?_
                          refine g_iconst F dL_areRecipients_211 (v := 4) (by decide) ?_
                          refine g_icmp_ge F (tgt := 302) dL_areRecipients_212 (by decide) (fun zc12 => ?_) (fun zc12 => ?_)
                          ·
                            exact absurd ((nI_leE (show 4 = nI 4 from rfl) (show (nI xm) = nI xm from rfl) (by omega) (by omega)).mp zc12) (by omega)
                          ·
                            refine g_iload F 1 dL_areRecipients_215 rfl ?_
                            refine g_iconst F dL_areRecipients_217 (v := 2) (by decide) ?_
                            refine g_cutC (cells1 := ((((((((((0 + 1) + 1) + 1) + 1) + 6 * zk) + 1) + 1) + 1) + 1) + 1)) (slots1 := ((((((((((0 + 6) + 6) + 6) + 6) + 36 * zk) + 6) + 6) + 6) + 6) + 6)) (w2 := (cw D ad cs σ Lx cap mk ev zl tx mt tn tc (lwd cs la wz))) (pc2 := 237) (lv2 := [(10, .int (ovN (frL σ 2147483647 (Lx (5 + zk))))), (9, .int (nI xm)), (8, .int (nI (sumd σ zk n))), (7, .int (nI ((qf σ n zk).length))), (0, .ref (ad 10 0)), (1, .ref (ad 1 0)), (2, .ref (ad 3 0)), (3, .ref (ad 5 0)), (4, .ref (ad 7 0)), (5, .int 1), (6, .int (nI zk))]) (st2 := []) ?_ (fun zhJ13 => ?_)
                            ·
                              refine g_iload F 1 dL_areRecipients_237 rfl ?_
                              refine g_iconst F dL_areRecipients_239 (v := 2) (by decide) ?_
                              refine g_irem F dL_areRecipients_240 (by decide) ?_
                              refine g_cutC (cells1 := ((((((((((0 + 1) + 1) + 1) + 1) + 6 * zk) + 1) + 1) + 1) + 1) + 1)) (slots1 := ((((((((((0 + 6) + 6) + 6) + 6) + 36 * zk) + 6) + 6) + 6) + 6) + 6)) (w2 := (cw D ad cs σ Lx cap mk ev zl tx mt tn tc (lwd cs la wz))) (pc2 := 251) (lv2 := [(10, .int (ovN (frL σ 2147483647 (Lx (5 + zk))))), (9, .int (nI xm)), (8, .int (nI (sumd σ zk n))), (7, .int (nI ((qf σ n zk).length))), (0, .ref (ad 10 0)), (1, .ref (ad 1 0)), (2, .ref (ad 3 0)), (3, .ref (ad 5 0)), (4, .ref (ad 7 0)), (5, .int 1), (6, .int (nI zk))]) (st2 := []) ?_ (fun zhJ14 => ?_)
                              ·
                                rcases hI.next hz1 with ⟨hl0, hx⟩ | ⟨hl0, jn, hx, hjn, hj23, hj13⟩
                                ·
                                  rw [hq] at hl0
                                  refine g_iload F 3 dL_areRecipients_251 rfl ?_
                                  refine g_if_ne F (tgt := 265) dL_areRecipients_253 (by decide) (fun zc15 => ?_) (fun zc15 => ?_)
                                  ·
                                    exact absurd ((nI_eqE (show (nI ((qf σ n zk).length)) = nI ((qf σ n zk).length) from rfl) (show 0 = nI 0 from rfl) (by omega) (by omega)).mpr (by omega)) zc15
                                  ·
                                    refine g_iload F 0 dL_areRecipients_256 rfl ?_
                                    refine g_iconst F dL_areRecipients_258 (v := -1) (by decide) ?_
                                    refine g_icmp_ne F (tgt := 302) dL_areRecipients_259 (by decide) (fun zc16 => ?_) (fun zc16 => ?_)
                                    ·
                                      exact absurd hx zc16
                                    ·
                                      refine g_goto F (tgt := 298) dL_areRecipients_262 (by decide) ?_
                                      refine g_iconst F dL_areRecipients_298 (v := 1) (by decide) ?_
                                      refine g_goto F (tgt := 303) dL_areRecipients_299 (by decide) ?_
                                      refine g_istore F (lv1 := [(5, .int 1), (10, .int (ovN (frL σ 2147483647 (Lx (5 + zk))))), (9, .int (nI xm)), (8, .int (nI (sumd σ zk n))), (7, .int (nI ((qf σ n zk).length))), (0, .ref (ad 10 0)), (1, .ref (ad 1 0)), (2, .ref (ad 3 0)), (3, .ref (ad 5 0)), (4, .ref (ad 7 0)), (6, .int (nI zk))]) dL_areRecipients_303 (by decide) rfl ?_
                                      refine g_iinc F (v := (nI (zk + 1))) (lv1 := [(6, .int (nI (zk + 1))), (5, .int 1), (10, .int (ovN (frL σ 2147483647 (Lx (5 + zk))))), (9, .int (nI xm)), (8, .int (nI (sumd σ zk n))), (7, .int (nI ((qf σ n zk).length))), (0, .ref (ad 10 0)), (1, .ref (ad 1 0)), (2, .ref (ad 3 0)), (3, .ref (ad 5 0)), (4, .ref (ad 7 0))]) 10 dL_areRecipients_305 rfl (nI_1 zk) (by decide) rfl ?_
                                      refine g_goto F (tgt := 65) dL_areRecipients_308 (by decide) ?_
                                      refine g_lv (lv1 := [(0, .ref (ad 10 0)), (1, .ref (ad 1 0)), (2, .ref (ad 3 0)), (3, .ref (ad 5 0)), (4, .ref (ad 7 0)), (5, .int 1), (6, .int (nI (zk + 1)))]) [6, 7, 8, 9, 10, 1, 0] rfl ?_
                                      refine g_widen (cells1 := ((((0 + 1) + 1) + 1) + 1) + 6 * (zk + 1)) (slots1 := ((((0 + 6) + 6) + 6) + 6) + 36 * (zk + 1)) (show ((((((((((0 + 1) + 1) + 1) + 1) + 6 * zk) + 1) + 1) + 1) + 1) + 1) ≤ ((((0 + 1) + 1) + 1) + 1) + 6 * (zk + 1) by omega) (show ((((((((((0 + 6) + 6) + 6) + 6) + 36 * zk) + 6) + 6) + 6) + 6) + 6) ≤ ((((0 + 6) + 6) + 6) + 6) + 36 * (zk + 1) by omega) ?_
                                      exact ih _ _ _ _ ⟨rfl, rfl, rfl, rfl⟩
                                ·
                                  rw [hq] at hl0
                                  refine g_lve (lv1 := [(10, .int (nI jn)), (9, .int (nI xm)), (8, .int (nI (sumd σ zk n))), (7, .int (nI ((qf σ n zk).length))), (0, .ref (ad 10 0)), (1, .ref (ad 1 0)), (2, .ref (ad 3 0)), (3, .ref (ad 5 0)), (4, .ref (ad 7 0)), (5, .int 1), (6, .int (nI zk))]) (by rw [hx]) ?_
                                  refine g_iload F 3 dL_areRecipients_251 rfl ?_
                                  refine g_if_ne F (tgt := 265) dL_areRecipients_253 (by decide) (fun zc17 => ?_) (fun zc17 => ?_)
                                  ·
                                    refine g_iload F 0 dL_areRecipients_265 rfl ?_
                                    refine g_if_lt F (tgt := 302) dL_areRecipients_267 (by decide) (fun zc18 => ?_) (fun zc18 => ?_)
                                    ·
                                      exact absurd ((nI_ltE (show (nI jn) = nI jn from rfl) (show 0 = nI 0 from rfl) (by omega) (by omega)).mp zc18) (by omega)
                                    ·
                                      refine g_iload F 0 dL_areRecipients_270 rfl ?_
                                      refine g_aload F 8 dL_areRecipients_272 rfl ?_
                                      refine g_iconst F dL_areRecipients_274 (v := 0) (by decide) ?_
                                      refine l_ld F (K := 7) (j := 0) (v := (nI n)) hd7 ⟨by decide, by decide⟩ rfl (show 0 < 2 by omega) hg0 dL_areRecipients_275 ?_
                                      refine g_icmp_ge F (tgt := 302) dL_areRecipients_276 (by decide) (fun zc19 => ?_) (fun zc19 => ?_)
                                      ·
                                        exact absurd ((nI_leE (show (nI n) = nI n from rfl) (show (nI jn) = nI jn from rfl) (by omega) (by omega)).mp zc19) (by omega)
                                      ·
                                        refine g_aload_n F 6 dL_areRecipients_279 rfl rfl ?_
                                        refine g_iload F 0 dL_areRecipients_280 rfl ?_
                                        refine l_ld F (K := 3) (j := jn) (v := 0) hd7 ⟨by decide, by decide⟩ rfl (show jn < 48 by omega) ((hT jn hjn).1.trans hj23) dL_areRecipients_282 ?_
                                        refine g_if_ne F (tgt := 302) dL_areRecipients_283 (by decide) (fun zc20 => ?_) (fun zc20 => ?_)
                                        ·
                                          exact absurd ((nI_eqE (show 0 = nI 0 from rfl) (show 0 = nI 0 from rfl) (by omega) (by omega)).mpr (by omega)) zc20
                                        ·
                                          refine g_aload_n F 5 dL_areRecipients_286 rfl rfl ?_
                                          refine g_bipush F dL_areRecipients_287 (v := 24) (by decide) ?_
                                          refine g_iload F 0 dL_areRecipients_289 rfl ?_
                                          refine g_iadd F dL_areRecipients_291 ?_
                                          refine l_ld F (K := 1) (j := (24 + jn)) (v := (nI zk)) hd7 ⟨by decide, by decide⟩ (nI_addE (show 24 = nI 24 from rfl) (show (nI jn) = nI jn from rfl)) (show (24 + jn) < 48 by omega) ((hJ.2.2.2.1 jn hjn).2.1.trans hj13) dL_areRecipients_292 ?_
                                          refine g_iload F 10 dL_areRecipients_293 rfl ?_
                                          refine g_icmp_ne F (tgt := 302) dL_areRecipients_295 (by decide) (fun zc21 => ?_) (fun zc21 => ?_)
                                          ·
                                            exact absurd ((nI_eqE (show (nI zk) = nI zk from rfl) (show (nI zk) = nI zk from rfl) (by omega) (by omega)).mpr (by omega)) zc21
                                          ·
                                            refine g_iconst F dL_areRecipients_298 (v := 1) (by decide) ?_
                                            refine g_goto F (tgt := 303) dL_areRecipients_299 (by decide) ?_
                                            refine g_istore F (lv1 := [(5, .int 1), (10, .int (nI jn)), (9, .int (nI xm)), (8, .int (nI (sumd σ zk n))), (7, .int (nI ((qf σ n zk).length))), (0, .ref (ad 10 0)), (1, .ref (ad 1 0)), (2, .ref (ad 3 0)), (3, .ref (ad 5 0)), (4, .ref (ad 7 0)), (6, .int (nI zk))]) dL_areRecipients_303 (by decide) rfl ?_
                                            refine g_iinc F (v := (nI (zk + 1))) (lv1 := [(6, .int (nI (zk + 1))), (5, .int 1), (10, .int (nI jn)), (9, .int (nI xm)), (8, .int (nI (sumd σ zk n))), (7, .int (nI ((qf σ n zk).length))), (0, .ref (ad 10 0)), (1, .ref (ad 1 0)), (2, .ref (ad 3 0)), (3, .ref (ad 5 0)), (4, .ref (ad 7 0))]) 10 dL_areRecipients_305 rfl (nI_1 zk) (by decide) rfl ?_
                                            refine g_goto F (tgt := 65) dL_areRecipients_308 (by decide) ?_
                                            refine g_lv (lv1 := [(0, .ref (ad 10 0)), (1, .ref (ad 1 0)), (2, .ref (ad 3 0)), (3, .ref (ad 5 0)), (4, .ref (ad 7 0)), (5, .int 1), (6, .int (nI (zk + 1)))]) [6, 7, 8, 9, 10, 1, 0] rfl ?_
                                            refine g_widen (cells1 := ((((0 + 1) + 1) + 1) + 1) + 6 * (zk + 1)) (slots1 := ((((0 + 6) + 6) + 6) + 6) + 36 * (zk + 1)) (show ((((((((((0 + 1) + 1) + 1) + 1) + 6 * zk) + 1) + 1) + 1) + 1) + 1) ≤ ((((0 + 1) + 1) + 1) + 1) + 6 * (zk + 1) by omega) (show ((((((((((0 + 6) + 6) + 6) + 6) + 36 * zk) + 6) + 6) + 6) + 6) + 6) ≤ ((((0 + 6) + 6) + 6) + 6) + 36 * (zk + 1) by omega) ?_
                                            exact ih _ _ _ _ ⟨rfl, rfl, rfl, rfl⟩
                                  ·
                                    exact absurd ((nI_eqE (show (nI ((qf σ n zk).length)) = nI ((qf σ n zk).length) from rfl) (show 0 = nI 0 from rfl) (by omega) (by omega)).mp zc17) (by omega)
                              ·
                                refine g_if_eq F (tgt := 251) dL_areRecipients_241 (by decide) (fun zc22 => ?_) (fun zc22 => ?_)
                                ·
                                  exact zhJ14
                                ·
                                  have hodd : ¬ xm % 2 = 0 := fun q => zc22 ((nI_eqE (show ((nI xm) - (nI xm) / 2 * 2) = nI (xm % 2) from (by rw [show (nI xm) = nI xm from rfl, show 2 = nI 2 from rfl]; exact pk_rem (by omega) (by omega) (by omega))) (show 0 = nI 0 from rfl) (by omega) (by omega)).mpr q)
                                  refine g_aload_n F 7 dL_areRecipients_244 rfl rfl ?_
                                  refine g_iload F 10 dL_areRecipients_245 rfl ?_
                                  refine l_ld F (K := 5) (j := zk) (v := (la 5 zk)) hd7 ⟨by decide, by decide⟩ rfl (show zk < 18 by omega) rfl dL_areRecipients_247 ?_
                                  refine g_if_eq F (tgt := 302) dL_areRecipients_248 (by decide) (fun zc23 => ?_) (fun zc23 => ?_)
                                  ·
                                    exact (hm1 (by omega) (hr28.symm.trans zc23)).elim
                                  ·
                                    exact zhJ14
                            ·
                              refine g_icmp_lt F (tgt := 237) dL_areRecipients_218 (by decide) (fun zc24 => ?_) (fun zc24 => ?_)
                              ·
                                exact g_widen (show (((((((((0 + 1) + 1) + 1) + 1) + 6 * zk) + 1) + 1) + 1) + 1) ≤ ((((((((((0 + 1) + 1) + 1) + 1) + 6 * zk) + 1) + 1) + 1) + 1) + 1) by omega) (show (((((((((0 + 6) + 6) + 6) + 6) + 36 * zk) + 6) + 6) + 6) + 6) ≤ ((((((((((0 + 6) + 6) + 6) + 6) + 36 * zk) + 6) + 6) + 6) + 6) + 6) by omega) zhJ13
                              ·
                                have hki := hmk (by have z : ¬ xm < 2 := fun q => zc24 ((nI_ltE (show (nI xm) = nI xm from rfl) (show 2 = nI 2 from rfl) (by omega) (by omega)).mpr q); omega)
                                refine g_aload_n F 4 dL_areRecipients_221 rfl rfl ?_
                                refine g_iload F 10 dL_areRecipients_222 rfl ?_
                                refine lq_inRoom F hC hn40 hL hlo hfl (r := zk) (by omega) (v := (nI xi)) h30 (cwV 1 F.1.2.2.2.2 gL_areRecipients_X5_inRoom rfl rfl rfl (by decide +kernel) ⟨Nat.le_of_ble_eq_true rfl, Nat.le_of_ble_eq_true rfl⟩) (Nat.le_of_ble_eq_true rfl) dL_areRecipients_224 ⟨show (((((((((0 + 1) + 1) + 1) + 1) + 6 * zk) + 1) + 1) + 1) + 1) + 1 ≤ 60 by omega, show (((((((((0 + 6) + 6) + 6) + 6) + 36 * zk) + 6) + 6) + 6) + 6) + 6 ≤ 360 by omega⟩ ?_
                                refine g_aload_n F 7 dL_areRecipients_227 rfl rfl ?_
                                refine g_bipush F dL_areRecipients_228 (v := 6) (by decide) ?_
                                refine g_iload F 10 dL_areRecipients_230 rfl ?_
                                refine g_iadd F dL_areRecipients_232 ?_
                                refine l_ld F (K := 5) (j := (6 + zk)) (v := (nI xk)) hd7 ⟨by decide, by decide⟩ (nI_addE (show 6 = nI 6 from rfl) (show (nI zk) = nI zk from rfl)) (show (6 + zk) < 18 by omega) (hr29.trans h29) dL_areRecipients_233 ?_
                                refine g_icmp_lt F (tgt := 302) dL_areRecipients_234 (by decide) (fun zc25 => ?_) (fun zc25 => ?_)
                                ·
                                  exact absurd ((nI_ltE (show (nI xi) = nI xi from rfl) (show (nI xk) = nI xk from rfl) (by omega) (by omega)).mp zc25) (by omega)
                                ·
                                  exact zhJ13
                  ·
                    exact absurd ((nI_leE (show (nI n) = nI n from rfl) (show (nI n) = nI n from rfl) (by omega) (by omega)).mpr (by omega)) zc8
                ·
                  replace ihj : GG p l e _ s m _ below meth c D A ad dm _ (((((0 + 1) + 1) + 1) + 1) + 6 * zk) (((((0 + 6) + 6) + 6) + 6) + 36 * zk) _ (cw D ad cs σ Lx cap mk ev zl tx mt tn tc (lwd cs la wz)) 86 [(9, .int (nI (zj + 1))), (8, .int (nI (sumd σ zk (zj + 1)))), (7, .int (nI ((qf σ (zj + 1) zk).length))), (0, .ref (ad 10 0)), (1, .ref (ad 1 0)), (2, .ref (ad 3 0)), (3, .ref (ad 5 0)), (4, .ref (ad 7 0)), (5, .int 1), (6, .int (nI zk))] [] := ihj
                  show GG p l e _ s m _ below meth c D A ad dm _ (((((0 + 1) + 1) + 1) + 1) + 6 * zk) (((((0 + 6) + 6) + 6) + 6) + 36 * zk) _ (cw D ad cs σ Lx cap mk ev zl tx mt tn tc (lwd cs la wz)) 86 [(9, .int (nI zj)), (8, .int (nI (sumd σ zk zj))), (7, .int (nI ((qf σ zj zk).length))), (0, .ref (ad 10 0)), (1, .ref (ad 1 0)), (2, .ref (ad 3 0)), (3, .ref (ad 5 0)), (4, .ref (ad 7 0)), (5, .int 1), (6, .int (nI zk))] []
                  obtain ⟨xe, d0, xd, xq, xu, xa, ⟨he5, ha4, hd0, hdq, hq5, -⟩, ⟨h23, h24, -⟩, -⟩ := hJ.body hI hj1
                  obtain ⟨xb, hxb, h13⟩ : ∃ b, b < 6 ∧ σ 13 zj = nI b := ⟨_, (hmm zj hj1).2.1.2, (hmm zj hj1).2.1.1⟩
                  refine g_iload F 0 dL_areRecipients_86 rfl ?_
                  refine g_aload F 7 dL_areRecipients_88 rfl ?_
                  refine g_iconst F dL_areRecipients_90 (v := 0) (by decide) ?_
                  refine l_ld F (K := 7) (j := 0) (v := (nI n)) hd7 ⟨by decide, by decide⟩ rfl (show 0 < 2 by omega) hg0 dL_areRecipients_91 ?_
                  refine g_icmp_ge F (tgt := 158) dL_areRecipients_92 (by decide) (fun zc26 => ?_) (fun zc26 => ?_)
                  ·
                    exact absurd ((nI_leE (show (nI n) = nI n from rfl) (show (nI zj) = nI zj from rfl) (by omega) (by omega)).mp zc26) (by omega)
                  ·
                    refine g_iload F 2 dL_areRecipients_95 rfl ?_
                    refine g_aload_n F 4 dL_areRecipients_97 rfl rfl ?_
                    refine g_bipush F dL_areRecipients_98 (v := 24) (by decide) ?_
                    refine g_iload F 0 dL_areRecipients_100 rfl ?_
                    refine g_iadd F dL_areRecipients_102 ?_
                    refine l_ld F (K := 1) (j := (24 + zj)) (v := (nI xb)) hd7 ⟨by decide, by decide⟩ (nI_addE (show 24 = nI 24 from rfl) (show (nI zj) = nI zj from rfl)) (show (24 + zj) < 48 by omega) ((hJ.2.2.2.1 zj hj1).2.1.trans h13) dL_areRecipients_103 ?_
                    refine g_iload F 9 dL_areRecipients_104 rfl ?_
                    refine g_cut (w2 := (cw D ad cs σ Lx cap mk ev zl tx mt tn tc (lwd cs la wz))) (pc2 := 121) (lv2 := [(9, .int (nI zj)), (8, .int (nI (sumd σ zk zj))), (7, .int (nI ((qf σ zj zk).length))), (0, .ref (ad 10 0)), (1, .ref (ad 1 0)), (2, .ref (ad 3 0)), (3, .ref (ad 5 0)), (4, .ref (ad 7 0)), (5, .int 1), (6, .int (nI zk))]) (st2 := [.int (bi ((((nI xb) = (nI zk)) ∧ ((nI xe) = 0)))), .int (nI ((qf σ zj zk).length))]) ?_ (fun zhJ27 => ?_)
                    ·
                      refine g_iadd F dL_areRecipients_121 ?_
                      refine g_istore F (lv1 := [(7, .int ((nI ((qf σ zj zk).length)) + (bi ((((nI xb) = (nI zk)) ∧ ((nI xe) = 0)))))), (9, .int (nI zj)), (8, .int (nI (sumd σ zk zj))), (0, .ref (ad 10 0)), (1, .ref (ad 1 0)), (2, .ref (ad 3 0)), (3, .ref (ad 5 0)), (4, .ref (ad 7 0)), (5, .int 1), (6, .int (nI zk))]) dL_areRecipients_122 (by decide) rfl ?_
                      refine g_iload F 2 dL_areRecipients_124 rfl ?_
                      refine g_aload_n F 4 dL_areRecipients_126 rfl rfl ?_
                      refine g_bipush F dL_areRecipients_127 (v := 24) (by decide) ?_
                      refine g_iload F 1 dL_areRecipients_129 rfl ?_
                      refine g_iadd F dL_areRecipients_131 ?_
                      refine l_ld F (K := 1) (j := (24 + zj)) (v := (nI xb)) hd7 ⟨by decide, by decide⟩ (nI_addE (show 24 = nI 24 from rfl) (show (nI zj) = nI zj from rfl)) (show (24 + zj) < 48 by omega) ((hJ.2.2.2.1 zj hj1).2.1.trans h13) dL_areRecipients_132 ?_
                      refine g_iload F 9 dL_areRecipients_133 rfl ?_
                      refine g_cut (w2 := (cw D ad cs σ Lx cap mk ev zl tx mt tn tc (lwd cs la wz))) (pc2 := 149) (lv2 := [(7, .int ((nI ((qf σ zj zk).length)) + (bi ((((nI xb) = (nI zk)) ∧ ((nI xe) = 0)))))), (9, .int (nI zj)), (8, .int (nI (sumd σ zk zj))), (0, .ref (ad 10 0)), (1, .ref (ad 1 0)), (2, .ref (ad 3 0)), (3, .ref (ad 5 0)), (4, .ref (ad 7 0)), (5, .int 1), (6, .int (nI zk))]) (st2 := [.int (if (nI xb) = (nI zk) then (nI xd) else 0 : Int32), .int (nI (sumd σ zk zj))]) ?_ (fun zhJ28 => ?_)
                      ·
                        refine g_iadd F dL_areRecipients_149 ?_
                        refine g_istore F (lv1 := [(8, .int ((nI (sumd σ zk zj)) + (if (nI xb) = (nI zk) then (nI xd) else 0 : Int32))), (7, .int ((nI ((qf σ zj zk).length)) + (bi ((((nI xb) = (nI zk)) ∧ ((nI xe) = 0)))))), (9, .int (nI zj)), (0, .ref (ad 10 0)), (1, .ref (ad 1 0)), (2, .ref (ad 3 0)), (3, .ref (ad 5 0)), (4, .ref (ad 7 0)), (5, .int 1), (6, .int (nI zk))]) dL_areRecipients_150 (by decide) rfl ?_
                        refine g_iinc F (v := (nI (zj + 1))) (lv1 := [(9, .int (nI (zj + 1))), (8, .int ((nI (sumd σ zk zj)) + (if (nI xb) = (nI zk) then (nI xd) else 0 : Int32))), (7, .int ((nI ((qf σ zj zk).length)) + (bi ((((nI xb) = (nI zk)) ∧ ((nI xe) = 0)))))), (0, .ref (ad 10 0)), (1, .ref (ad 1 0)), (2, .ref (ad 3 0)), (3, .ref (ad 5 0)), (4, .ref (ad 7 0)), (5, .int 1), (6, .int (nI zk))]) 2 dL_areRecipients_152 rfl (nI_1 zj) (by decide) rfl ?_
                        refine g_goto F (tgt := 86) dL_areRecipients_155 (by decide) ?_
                        refine g_lv (lv1 := [(9, .int (nI (zj + 1))), (8, .int ((nI (sumd σ zk zj)) + (if (nI xb) = (nI zk) then (nI xd) else 0 : Int32))), (7, .int ((nI ((qf σ zj zk).length)) + (bi ((((nI xb) = (nI zk)) ∧ ((nI xe) = 0)))))), (0, .ref (ad 10 0)), (1, .ref (ad 1 0)), (2, .ref (ad 3 0)), (3, .ref (ad 5 0)), (4, .ref (ad 7 0)), (5, .int 1), (6, .int (nI zk))]) [0, 1, 2, 3, 4, 5, 6, 7, 8, 9] rfl ?_
                        exact g_lve (lv1 := [(9, .int (nI (zj + 1))), (8, .int (nI (sumd σ zk (zj + 1)))), (7, .int (nI ((qf σ (zj + 1) zk).length))), (0, .ref (ad 10 0)), (1, .ref (ad 1 0)), (2, .ref (ad 3 0)), (3, .ref (ad 5 0)), (4, .ref (ad 7 0)), (5, .int 1), (6, .int (nI zk))]) (by rw [wc_b h13 hxb hz1 h23 he5, sd_b h13 hxb hz1 h24 (by omega)]) ihj
                      ·
                        refine g_icmp_ne F (tgt := 148) dL_areRecipients_135 (by decide) (fun zc29 => ?_) (fun zc29 => ?_)
                        ·
                          refine g_iconst F dL_areRecipients_148 (v := 0) (by decide) ?_
                          exact g_top (by rw [if_neg zc29]) zhJ28
                        ·
                          refine g_aload_n F 5 dL_areRecipients_138 rfl rfl ?_
                          refine g_bipush F dL_areRecipients_139 (v := 24) (by decide) ?_
                          refine g_iload F 1 dL_areRecipients_141 rfl ?_
                          refine g_iadd F dL_areRecipients_143 ?_
                          refine l_ld F (K := 3) (j := (24 + zj)) (v := (nI xd)) hd7 ⟨by decide, by decide⟩ (nI_addE (show 24 = nI 24 from rfl) (show (nI zj) = nI zj from rfl)) (show (24 + zj) < 48 by omega) ((hT zj hj1).2.trans h24) dL_areRecipients_144 ?_
                          refine g_goto F (tgt := 149) dL_areRecipients_145 (by decide) ?_
                          exact g_top (by rw [if_pos zc29]) zhJ28
                    ·
                      refine g_icmp_ne F (tgt := 120) dL_areRecipients_106 (by decide) (fun zc30 => ?_) (fun zc30 => ?_)
                      ·
                        refine g_iconst F dL_areRecipients_120 (v := 0) (by decide) ?_
                        exact g_top (bi_f (fun q => zc30 q.1)) zhJ27
                      ·
                        refine g_aload_n F 5 dL_areRecipients_109 rfl rfl ?_
                        refine g_iload F 0 dL_areRecipients_110 rfl ?_
                        refine l_ld F (K := 3) (j := zj) (v := (nI xe)) hd7 ⟨by decide, by decide⟩ rfl (show zj < 48 by omega) ((hT zj hj1).1.trans h23) dL_areRecipients_112 ?_
                        refine g_if_ne F (tgt := 120) dL_areRecipients_113 (by decide) (fun zc31 => ?_) (fun zc31 => ?_)
                        ·
                          refine g_iconst F dL_areRecipients_120 (v := 0) (by decide) ?_
                          exact g_top (bi_f (fun q => zc31 q.2)) zhJ27
                        ·
                          refine g_iconst F dL_areRecipients_116 (v := 1) (by decide) ?_
                          refine g_goto F (tgt := 121) dL_areRecipients_117 (by decide) ?_
                          exact g_top (bi_t ⟨zc30, zc31⟩) zhJ27
set_option maxHeartbeats 4000000 in
set_option maxRecDepth 100000 in
theorem lw_areReceipts (l : Launch) (D : va_G) (A : Nat → Prop) (cs : Nat → ClassId) (ad : Nat → Nat → Nat) (dm : Nat → Nat → Prop) (σ : SG) (Lx : Nat → List Nat) (cap : Nat → Nat) (mk : Nat → Int32) (ev : SG) (zl tx mt tn : Nat → Nat) (tc : SG) (la : SG) (wz : CF) (n tq t : Nat) (kt rd : Nat → Nat) (hC : CD dm n cap tq) (hd7 : ∀ k, 1 ≤ k → k ≤ 7 → dm k 0) (hlo : LO n Lx cap) (hI : INV n tq t σ Lx ev zl tx mt tn tc) (hJ : LJ n t σ la Lx kt rd) (htb : t ≤ 100000) (hfl : l.stackTraces = false)  (hT : LT n σ la) : Met l yL_areReceipts wsL_areReceipts ({ frames := 9, cells := 10, slots := 60, locals := 156 }) (va_Pc [.ref (ad 10 0), .ref (ad 6 0)] (PW D A (tysG cs) ad dm (cw D ad cs σ Lx cap mk ev zl tx mt tn tc (lwd cs la wz)))) (QW D A (tysG cs) (fun rz ad1 dm1 w1 => rz = some (.int 1) ∧ ad = ad1 ∧ dm = dm1 ∧ (cw D ad cs σ Lx cap mk ev zl tx mt tn tc (lwd cs la wz)) = w1)) 10 60 A := by
  refine g_start (own := RL) [.ref (ad 10 0), .ref (ad 6 0)] (cc := cL_areReceipts) (maxL := 4) (ret := (some .boolean)) (lv0 := [(0, .ref (ad 10 0)), (1, .ref (ad 6 0))]) (by decide) rfl rfl (Nat.le_of_ble_eq_true rfl) rfl ?_
  intro p e s m below meth c F hr hlocks hno
  have hn40 : n ≤ 40 := hI.1
  have hn23 : n ≤ 23 := hJ.1
  have hL : Lx 0 = List.range n := hI.2.2.1.2.1.1.1
  have hmt := hI.hmt
  have hmm : ∀ j, j < n → okM σ j := hI.2.2.1.2.2.2.2
  have hlg : ∀ j, j < n → zl j ≤ elen σ j ∧ elen σ j ≤ 1000 := fun j hj => ⟨(hI.2.2.1.2.2.1 j hj).2.2.2, by have := (hmm j hj).2.2.2.2.2; unfold elen; omega⟩
  have hg0 : la 7 0 = nI n := hJ.2.1
  have hg1 : la 7 1 = nI t := hJ.2.2.1
  have hnow : σ 0 0 = nI t := hI.2.2.1.2.1.2.2.2.1
  refine g_aload_n F 0 dL_areReceipts_0 rfl rfl ?_
  refine g_bipush F dL_areReceipts_1 (v := 11) (by decide) ?_
  refine g_iconst F dL_areReceipts_3 (v := 4) (by decide) ?_
  refine g_iconst F dL_areReceipts_4 (v := 0) (by decide) ?_
  refine lq_asks F (rest := []) (lk_receipts l D A cs ad dm σ Lx cap mk ev zl tx mt tn tc (lwd cs la wz) n tq hC  hfl 4 0 (by decide)) (vx_cwSW 4 F.1.2.2.2.2 gL_areReceipts_L_asks rfl rfl rfl (by decide +kernel) ⟨Nat.le_of_ble_eq_true rfl, Nat.le_of_ble_eq_true rfl⟩) (Nat.le_of_ble_eq_true rfl) dL_areReceipts_5 ⟨show 0 + 1 ≤ 10 by omega, show 0 + 6 ≤ 60 by omega⟩ ?_
  refine g_bipush F dL_areReceipts_8 (v := -30) (by decide) ?_
  refine g_icmp_ne F (tgt := 17) dL_areReceipts_10 (by decide) (fun zc1 => ?_) (fun zc1 => ?_)
  ·
    exact absurd rfl zc1
  ·
    refine g_iconst F dL_areReceipts_13 (v := 1) (by decide) ?_
    refine g_goto F (tgt := 18) dL_areReceipts_14 (by decide) ?_
    refine g_istore_n F (lv1 := [(2, .int 1), (0, .ref (ad 10 0)), (1, .ref (ad 6 0))]) dL_areReceipts_18 rfl (by decide) rfl ?_
    refine g_iconst F dL_areReceipts_19 (v := 0) (by decide) ?_
    refine g_istore_n F (lv1 := [(3, .int 0), (2, .int 1), (0, .ref (ad 10 0)), (1, .ref (ad 6 0))]) dL_areReceipts_20 rfl (by decide) rfl ?_
    refine g_lv (lv1 := [(0, .ref (ad 10 0)), (1, .ref (ad 6 0)), (2, .int 1), (3, .int (nI 0))]) [2, 3, 1, 0] rfl ?_
    refine g_loopP 4 0 (Nat.zero_le _) (fun zk ad1 dm1 w1 lv1 => ad = ad1 ∧ dm = dm1 ∧ (cw D ad cs σ Lx cap mk ev zl tx mt tn tc (lwd cs la wz)) = w1 ∧ lv1 = [(0, .ref (ad 10 0)), (1, .ref (ad 6 0)), (2, .int 1), (3, .int (nI zk))]) (fun zk => (0 + 1) + zk) (fun zk => (0 + 6) + 6 * zk) rfl rfl ⟨rfl, rfl, rfl, rfl⟩ ?_ (fun zk hz0 hz1 ih => ?_)
    ·
      intro ad1 dm1 w1 lv1 h9
      obtain ⟨rfl, rfl, rfl, rfl⟩ := h9
      show GG p l e _ s m _ below meth c D A ad dm _ ((0 + 1) + 4) ((0 + 6) + 6 * 4) _ (cw D ad cs σ Lx cap mk ev zl tx mt tn tc (lwd cs la wz)) 21 [(0, .ref (ad 10 0)), (1, .ref (ad 6 0)), (2, .int 1), (3, .int (nI 4))] []
      refine g_iload_n F 3 dL_areReceipts_21 rfl rfl ?_
      refine g_iconst F dL_areReceipts_22 (v := 4) (by decide) ?_
      refine g_icmp_ge F (tgt := 56) dL_areReceipts_23 (by decide) (fun zc2 => ?_) (fun zc2 => ?_)
      ·
        refine g_iload_n F 2 dL_areReceipts_56 rfl rfl ?_
        exact g_qz F hr rfl hlocks (fun _ h => h) ⟨rfl, rfl, rfl, rfl⟩ (show ((0 + 1) + 4) ≤ 10 by omega) (show ((0 + 6) + 6 * 4) ≤ 60 by omega) dL_areReceipts_57
      ·
        exact absurd ((nI_leE (show 4 = nI 4 from rfl) (show (nI 4) = nI 4 from rfl) (by omega) (by omega)).mpr (by omega)) zc2
    ·
      intro ad1 dm1 w1 lv1 h9
      obtain ⟨rfl, rfl, rfl, rfl⟩ := h9
      show GG p l e _ s m _ below meth c D A ad dm _ ((0 + 1) + zk) ((0 + 6) + 6 * zk) _ (cw D ad cs σ Lx cap mk ev zl tx mt tn tc (lwd cs la wz)) 21 [(0, .ref (ad 10 0)), (1, .ref (ad 6 0)), (2, .int 1), (3, .int (nI zk))] []
      obtain ⟨hrl, hrn⟩ := hJ.rec hT hz1
      refine g_iload_n F 3 dL_areReceipts_21 rfl rfl ?_
      refine g_iconst F dL_areReceipts_22 (v := 4) (by decide) ?_
      refine g_icmp_ge F (tgt := 56) dL_areReceipts_23 (by decide) (fun zc3 => ?_) (fun zc3 => ?_)
      ·
        exact absurd ((nI_leE (show 4 = nI 4 from rfl) (show (nI zk) = nI zk from rfl) (by omega) (by omega)).mp zc3) (by omega)
      ·
        refine g_iload_n F 2 dL_areReceipts_26 rfl rfl ?_
        refine g_if_eq F (tgt := 56) dL_areReceipts_27 (by decide) (fun zc4 => ?_) (fun zc4 => ?_)
        ·
          exact absurd ((nI_eqE (show 1 = nI 1 from rfl) (show 0 = nI 0 from rfl) (by omega) (by omega)).mp zc4) (by omega)
        ·
          refine g_aload_n F 0 dL_areReceipts_30 rfl rfl ?_
          refine g_iload_n F 3 dL_areReceipts_31 rfl rfl ?_
          refine lq_receipts F hC hn40 hL hlo hfl (r := zk) (by omega) (v := (nI ((Lx (1 + zk)).length))) rfl (cwV 1 F.1.2.2.2.2 gL_areReceipts_X5_receipts rfl rfl rfl (by decide +kernel) ⟨Nat.le_of_ble_eq_true rfl, Nat.le_of_ble_eq_true rfl⟩) (Nat.le_of_ble_eq_true rfl) dL_areReceipts_32 ⟨show ((0 + 1) + zk) + 1 ≤ 10 by omega, show ((0 + 6) + 6 * zk) + 6 ≤ 60 by omega⟩ ?_
          refine g_aload_n F 1 dL_areReceipts_35 rfl rfl ?_
          refine g_bipush F dL_areReceipts_36 (v := 12) (by decide) ?_
          refine g_iload_n F 3 dL_areReceipts_38 rfl rfl ?_
          refine g_iadd F dL_areReceipts_39 ?_
          refine l_ld F (K := 6) (j := (12 + zk)) (v := (nI ((Lx (1 + zk)).length))) hd7 ⟨by decide, by decide⟩ (nI_addE (show 12 = nI 12 from rfl) (show (nI zk) = nI zk from rfl)) (show (12 + zk) < 16 by omega) hrl dL_areReceipts_40 ?_
          refine g_icmp_ne F (tgt := 48) dL_areReceipts_41 (by decide) (fun zc5 => ?_) (fun zc5 => ?_)
          ·
            exact absurd ((nI_eqE (show (nI ((Lx (1 + zk)).length)) = nI ((Lx (1 + zk)).length) from rfl) (show (nI ((Lx (1 + zk)).length)) = nI ((Lx (1 + zk)).length) from rfl) (by omega) (by omega)).mpr (by omega)) zc5
          ·
            refine g_iconst F dL_areReceipts_44 (v := 1) (by decide) ?_
            refine g_goto F (tgt := 49) dL_areReceipts_45 (by decide) ?_
            refine g_istore_n F (lv1 := [(2, .int 1), (0, .ref (ad 10 0)), (1, .ref (ad 6 0)), (3, .int (nI zk))]) dL_areReceipts_49 rfl (by decide) rfl ?_
            refine g_iinc F (v := (nI (zk + 1))) (lv1 := [(3, .int (nI (zk + 1))), (2, .int 1), (0, .ref (ad 10 0)), (1, .ref (ad 6 0))]) 3 dL_areReceipts_50 rfl (nI_1 zk) (by decide) rfl ?_
            refine g_goto F (tgt := 21) dL_areReceipts_53 (by decide) ?_
            refine g_lv (lv1 := [(0, .ref (ad 10 0)), (1, .ref (ad 6 0)), (2, .int 1), (3, .int (nI (zk + 1)))]) [2, 3, 1, 0] rfl ?_
            refine g_widen (cells1 := (0 + 1) + (zk + 1)) (slots1 := (0 + 6) + 6 * (zk + 1)) (show (((0 + 1) + zk) + 1) ≤ (0 + 1) + (zk + 1) by omega) (show (((0 + 6) + 6 * zk) + 6) ≤ (0 + 6) + 6 * (zk + 1) by omega) ?_
            exact ih _ _ _ _ ⟨rfl, rfl, rfl, rfl⟩
