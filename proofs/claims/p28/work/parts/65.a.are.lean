set_option maxHeartbeats 4000000 in
set_option maxRecDepth 100000 in
theorem lw_areMessages (l : Launch) (D : va_G) (A : Nat → Prop) (cs : Nat → ClassId) (ad : Nat → Nat → Nat) (dm : Nat → Nat → Prop) (σ : SG) (Lx : Nat → List Nat) (cap : Nat → Nat) (mk : Nat → Int32) (ev : SG) (zl tx mt tn : Nat → Nat) (tc : SG) (la : SG) (wz : CF) (n tq t : Nat) (kt rd : Nat → Nat) (hC : CD dm n cap tq) (hd7 : ∀ k, 1 ≤ k → k ≤ 7 → dm k 0) (hlo : LO n Lx cap) (hI : INV n tq t σ Lx ev zl tx mt tn tc) (hJ : LJ n t σ la Lx kt rd) (htb : t ≤ 100000) (hfl : l.stackTraces = false)   : Met l yL_areMessages wsL_areMessages ({ frames := 10, cells := 1500, slots := 9000, locals := 178 }) (va_Pc [.ref (ad 10 0), .ref (ad 1 0), .ref (ad 2 0), .ref (ad 3 0), .ref (ad 4 0), .ref (ad 6 0), .ref (ad 7 0)] (PW D A (tysG cs) ad dm (cw D ad cs σ Lx cap mk ev zl tx mt tn tc (lwd cs la wz)))) (QW D A (tysG cs) (fun rz ad1 dm1 w1 => rz = some (.int 1) ∧ ad = ad1 ∧ dm = dm1 ∧ ∃ lb : SG, (cw D ad cs σ Lx cap mk ev zl tx mt tn tc (lwd cs lb wz)) = w1 ∧ LJ n t σ lb Lx kt rd ∧ LT n σ lb)) 1500 9000 A := by
  refine g_start (own := RL) [.ref (ad 10 0), .ref (ad 1 0), .ref (ad 2 0), .ref (ad 3 0), .ref (ad 4 0), .ref (ad 6 0), .ref (ad 7 0)] (cc := cL_areMessages) (maxL := 16) (ret := (some .boolean)) (lv0 := [(0, .ref (ad 10 0)), (1, .ref (ad 1 0)), (2, .ref (ad 2 0)), (3, .ref (ad 3 0)), (4, .ref (ad 4 0)), (5, .ref (ad 6 0)), (6, .ref (ad 7 0))]) (by decide) rfl rfl (Nat.le_of_ble_eq_true rfl) rfl ?_
  intro p e s m below meth c F hr hlocks hno
  have hn40 : n ≤ 40 := hI.1
  have hn23 : n ≤ 23 := hJ.1
  have hL : Lx 0 = List.range n := hI.2.2.1.2.1.1.1
  have hmt := hI.hmt
  have hmm : ∀ j, j < n → okM σ j := hI.2.2.1.2.2.2.2
  have hlg : ∀ j, j < n → zl j ≤ elen σ j ∧ elen σ j ≤ 1000 := fun j hj => ⟨(hI.2.2.1.2.2.1 j hj).2.2.2, by have := (hmm j hj).2.2.2.2.2; unfold elen; omega⟩
  have hg0 : la 7 0 = nI n := hJ.2.1
  have hg1 : la 7 1 = nI t := hJ.2.2.1
  have hnow : σ 0 0 = nI t := hI.2.2.1.2.1.2.2.2.1
  refine g_iconst F dL_areMessages_0 (v := 0) (by decide) ?_
  refine g_istore F (lv1 := [(7, .int 0), (0, .ref (ad 10 0)), (1, .ref (ad 1 0)), (2, .ref (ad 2 0)), (3, .ref (ad 3 0)), (4, .ref (ad 4 0)), (5, .ref (ad 6 0)), (6, .ref (ad 7 0))]) dL_areMessages_1 (by decide) rfl ?_
  refine g_iconst F dL_areMessages_3 (v := 0) (by decide) ?_
  refine g_istore F (lv1 := [(8, .int 0), (7, .int 0), (0, .ref (ad 10 0)), (1, .ref (ad 1 0)), (2, .ref (ad 2 0)), (3, .ref (ad 3 0)), (4, .ref (ad 4 0)), (5, .ref (ad 6 0)), (6, .ref (ad 7 0))]) dL_areMessages_4 (by decide) rfl ?_
  refine g_aload_n F 2 dL_areMessages_6 rfl rfl ?_
  refine lq_messages F hC hn40 hL hlo hfl  (v := (nI n)) rfl (cwV 0 F.1.2.2.2.2 gL_areMessages_X5_messages rfl rfl rfl (by decide +kernel) ⟨Nat.le_of_ble_eq_true rfl, Nat.le_of_ble_eq_true rfl⟩) (Nat.le_of_ble_eq_true rfl) dL_areMessages_7 ⟨show 0 + 0 ≤ 1500 by omega, show 0 + 0 ≤ 9000 by omega⟩ ?_
  refine g_aload F 8 dL_areMessages_10 rfl ?_
  refine g_iconst F dL_areMessages_12 (v := 0) (by decide) ?_
  refine l_ld F (K := 7) (j := 0) (v := (nI n)) hd7 ⟨by decide, by decide⟩ rfl (show 0 < 2 by omega) hg0 dL_areMessages_13 ?_
  refine g_icmp_ne F (tgt := 117) dL_areMessages_14 (by decide) (fun zc1 => ?_) (fun zc1 => ?_)
  ·
    exact absurd ((nI_eqE (show (nI n) = nI n from rfl) (show (nI n) = nI n from rfl) (by omega) (by omega)).mpr (by omega)) zc1
  ·
    refine g_aload_n F 2 dL_areMessages_17 rfl rfl ?_
    refine lq_now F hC hn40 hL hlo hfl  (v := (nI t)) hnow (cwV 0 F.1.2.2.2.2 gL_areMessages_X5_now rfl rfl rfl (by decide +kernel) ⟨Nat.le_of_ble_eq_true rfl, Nat.le_of_ble_eq_true rfl⟩) (Nat.le_of_ble_eq_true rfl) dL_areMessages_18 ⟨show (0 + 0) + 0 ≤ 1500 by omega, show (0 + 0) + 0 ≤ 9000 by omega⟩ ?_
    refine g_aload F 8 dL_areMessages_21 rfl ?_
    refine g_iconst F dL_areMessages_23 (v := 1) (by decide) ?_
    refine l_ld F (K := 7) (j := 1) (v := (nI t)) hd7 ⟨by decide, by decide⟩ rfl (show 1 < 2 by omega) hg1 dL_areMessages_24 ?_
    refine g_icmp_ne F (tgt := 117) dL_areMessages_25 (by decide) (fun zc2 => ?_) (fun zc2 => ?_)
    ·
      exact absurd ((nI_eqE (show (nI t) = nI t from rfl) (show (nI t) = nI t from rfl) (by omega) (by omega)).mpr (by omega)) zc2
    ·
      refine g_aload_n F 2 dL_areMessages_28 rfl rfl ?_
      refine g_iconst F dL_areMessages_29 (v := 0) (by decide) ?_
      refine g_aload F 8 dL_areMessages_30 rfl ?_
      refine g_iconst F dL_areMessages_32 (v := 0) (by decide) ?_
      refine l_ld F (K := 7) (j := 0) (v := (nI n)) hd7 ⟨by decide, by decide⟩ rfl (show 0 < 2 by omega) hg0 dL_areMessages_33 ?_
      refine g_iconst F dL_areMessages_34 (v := 0) (by decide) ?_
      refine lq_asks F (rest := []) (lk_state l D A cs ad dm σ Lx cap mk ev zl tx mt tn tc (lwd cs la wz) n tq hC hn40 hL hlo hfl (nI n) 0 (mg_out (by omega))) (vx_cwSW 4 F.1.2.2.2.2 gL_areMessages_L_asks rfl rfl rfl (by decide +kernel) ⟨Nat.le_of_ble_eq_true rfl, Nat.le_of_ble_eq_true rfl⟩) (Nat.le_of_ble_eq_true rfl) dL_areMessages_35 ⟨show ((0 + 0) + 0) + 1 ≤ 1500 by omega, show ((0 + 0) + 0) + 6 ≤ 9000 by omega⟩ ?_
      refine g_bipush F dL_areMessages_38 (v := -30) (by decide) ?_
      refine g_icmp_ne F (tgt := 117) dL_areMessages_40 (by decide) (fun zc3 => ?_) (fun zc3 => ?_)
      ·
        exact absurd rfl zc3
      ·
        refine g_aload_n F 2 dL_areMessages_43 rfl rfl ?_
        refine g_iconst F dL_areMessages_44 (v := 1) (by decide) ?_
        refine g_iconst F dL_areMessages_45 (v := -1) (by decide) ?_
        refine g_iconst F dL_areMessages_46 (v := 0) (by decide) ?_
        refine lq_asks F (rest := []) (lk_stateByLog l D A cs ad dm σ Lx cap mk ev zl tx mt tn tc (lwd cs la wz) n tq hC hn40 hL hlo hmt hlg hfl (-1) 0 (mg_m1 _)) (vx_cwSW 4 F.1.2.2.2.2 gL_areMessages_L_asks rfl rfl rfl (by decide +kernel) ⟨Nat.le_of_ble_eq_true rfl, Nat.le_of_ble_eq_true rfl⟩) (Nat.le_of_ble_eq_true rfl) dL_areMessages_47 ⟨show (((0 + 0) + 0) + 1) + 1 ≤ 1500 by omega, show (((0 + 0) + 0) + 6) + 6 ≤ 9000 by omega⟩ ?_
        refine g_bipush F dL_areMessages_50 (v := -30) (by decide) ?_
        refine g_icmp_ne F (tgt := 117) dL_areMessages_52 (by decide) (fun zc4 => ?_) (fun zc4 => ?_)
        ·
          exact absurd rfl zc4
        ·
          refine g_aload_n F 2 dL_areMessages_55 rfl rfl ?_
          refine g_iconst F dL_areMessages_56 (v := 2) (by decide) ?_
          refine g_aload F 8 dL_areMessages_57 rfl ?_
          refine g_iconst F dL_areMessages_59 (v := 0) (by decide) ?_
          refine l_ld F (K := 7) (j := 0) (v := (nI n)) hd7 ⟨by decide, by decide⟩ rfl (show 0 < 2 by omega) hg0 dL_areMessages_60 ?_
          refine g_iconst F dL_areMessages_61 (v := 0) (by decide) ?_
          refine lq_asks F (rest := []) (lk_parts l D A cs ad dm σ Lx cap mk ev zl tx mt tn tc (lwd cs la wz) n tq hC hn40 hL hlo hmt hfl (nI n) 0 (mg_out (by omega))) (vx_cwSW 4 F.1.2.2.2.2 gL_areMessages_L_asks rfl rfl rfl (by decide +kernel) ⟨Nat.le_of_ble_eq_true rfl, Nat.le_of_ble_eq_true rfl⟩) (Nat.le_of_ble_eq_true rfl) dL_areMessages_62 ⟨show ((((0 + 0) + 0) + 1) + 1) + 1 ≤ 1500 by omega, show ((((0 + 0) + 0) + 6) + 6) + 6 ≤ 9000 by omega⟩ ?_
          refine g_bipush F dL_areMessages_65 (v := -30) (by decide) ?_
          refine g_icmp_ne F (tgt := 117) dL_areMessages_67 (by decide) (fun zc5 => ?_) (fun zc5 => ?_)
          ·
            exact absurd rfl zc5
          ·
            refine g_aload_n F 2 dL_areMessages_70 rfl rfl ?_
            refine g_iconst F dL_areMessages_71 (v := 4) (by decide) ?_
            refine g_aload F 8 dL_areMessages_72 rfl ?_
            refine g_iconst F dL_areMessages_74 (v := 0) (by decide) ?_
            refine l_ld F (K := 7) (j := 0) (v := (nI n)) hd7 ⟨by decide, by decide⟩ rfl (show 0 < 2 by omega) hg0 dL_areMessages_75 ?_
            refine g_iconst F dL_areMessages_76 (v := 0) (by decide) ?_
            refine lq_asks F (rest := []) (lk_delivered l D A cs ad dm σ Lx cap mk ev zl tx mt tn tc (lwd cs la wz) n tq hC hn40 hL hlo hfl (nI n) 0 (mg_out (by omega))) (vx_cwSW 4 F.1.2.2.2.2 gL_areMessages_L_asks rfl rfl rfl (by decide +kernel) ⟨Nat.le_of_ble_eq_true rfl, Nat.le_of_ble_eq_true rfl⟩) (Nat.le_of_ble_eq_true rfl) dL_areMessages_77 ⟨show (((((0 + 0) + 0) + 1) + 1) + 1) + 1 ≤ 1500 by omega, show (((((0 + 0) + 0) + 6) + 6) + 6) + 6 ≤ 9000 by omega⟩ ?_
            refine g_bipush F dL_areMessages_80 (v := -30) (by decide) ?_
            refine g_icmp_ne F (tgt := 117) dL_areMessages_82 (by decide) (fun zc6 => ?_) (fun zc6 => ?_)
            ·
              exact absurd rfl zc6
            ·
              refine g_aload_n F 2 dL_areMessages_85 rfl rfl ?_
              refine g_iconst F dL_areMessages_86 (v := 5) (by decide) ?_
              refine g_iconst F dL_areMessages_87 (v := -1) (by decide) ?_
              refine g_iconst F dL_areMessages_88 (v := 0) (by decide) ?_
              refine lq_asks F (rest := []) (lk_attempts l D A cs ad dm σ Lx cap mk ev zl tx mt tn tc (lwd cs la wz) n tq hC hn40 hL hlo hfl (-1) 0 (mg_m1 _)) (vx_cwSW 4 F.1.2.2.2.2 gL_areMessages_L_asks rfl rfl rfl (by decide +kernel) ⟨Nat.le_of_ble_eq_true rfl, Nat.le_of_ble_eq_true rfl⟩) (Nat.le_of_ble_eq_true rfl) dL_areMessages_89 ⟨show ((((((0 + 0) + 0) + 1) + 1) + 1) + 1) + 1 ≤ 1500 by omega, show ((((((0 + 0) + 0) + 6) + 6) + 6) + 6) + 6 ≤ 9000 by omega⟩ ?_
              refine g_bipush F dL_areMessages_92 (v := -30) (by decide) ?_
              refine g_icmp_ne F (tgt := 117) dL_areMessages_94 (by decide) (fun zc7 => ?_) (fun zc7 => ?_)
              ·
                exact absurd rfl zc7
              ·
                refine g_aload_n F 2 dL_areMessages_97 rfl rfl ?_
                refine g_bipush F dL_areMessages_98 (v := 6) (by decide) ?_
                refine g_aload F 8 dL_areMessages_100 rfl ?_
                refine g_iconst F dL_areMessages_102 (v := 0) (by decide) ?_
                refine l_ld F (K := 7) (j := 0) (v := (nI n)) hd7 ⟨by decide, by decide⟩ rfl (show 0 < 2 by omega) hg0 dL_areMessages_103 ?_
                refine g_iconst F dL_areMessages_104 (v := 0) (by decide) ?_
                refine lq_asks F (rest := []) (lk_due l D A cs ad dm σ Lx cap mk ev zl tx mt tn tc (lwd cs la wz) n tq hC hn40 hL hlo hfl (nI n) 0 (mg_out (by omega))) (vx_cwSW 4 F.1.2.2.2.2 gL_areMessages_L_asks rfl rfl rfl (by decide +kernel) ⟨Nat.le_of_ble_eq_true rfl, Nat.le_of_ble_eq_true rfl⟩) (Nat.le_of_ble_eq_true rfl) dL_areMessages_105 ⟨show (((((((0 + 0) + 0) + 1) + 1) + 1) + 1) + 1) + 2 ≤ 1500 by omega, show (((((((0 + 0) + 0) + 6) + 6) + 6) + 6) + 6) + 12 ≤ 9000 by omega⟩ ?_
                refine g_bipush F dL_areMessages_108 (v := -30) (by decide) ?_
                refine g_icmp_ne F (tgt := 117) dL_areMessages_110 (by decide) (fun zc8 => ?_) (fun zc8 => ?_)
                ·
                  exact absurd rfl zc8
                ·
                  refine g_iconst F dL_areMessages_113 (v := 1) (by decide) ?_
                  refine g_goto F (tgt := 118) dL_areMessages_114 (by decide) ?_
                  refine g_istore F (lv1 := [(9, .int 1), (8, .int 0), (7, .int 0), (0, .ref (ad 10 0)), (1, .ref (ad 1 0)), (2, .ref (ad 2 0)), (3, .ref (ad 3 0)), (4, .ref (ad 4 0)), (5, .ref (ad 6 0)), (6, .ref (ad 7 0))]) dL_areMessages_118 (by decide) rfl ?_
                  refine g_iconst F dL_areMessages_120 (v := 0) (by decide) ?_
                  refine g_istore F (lv1 := [(10, .int 0), (9, .int 1), (8, .int 0), (7, .int 0), (0, .ref (ad 10 0)), (1, .ref (ad 1 0)), (2, .ref (ad 2 0)), (3, .ref (ad 3 0)), (4, .ref (ad 4 0)), (5, .ref (ad 6 0)), (6, .ref (ad 7 0))]) dL_areMessages_121 (by decide) rfl ?_
                  refine g_lv (lv1 := [(0, .ref (ad 10 0)), (1, .ref (ad 1 0)), (2, .ref (ad 2 0)), (3, .ref (ad 3 0)), (4, .ref (ad 4 0)), (5, .ref (ad 6 0)), (6, .ref (ad 7 0)), (7, .int (nI (dvN σ 0))), (8, .int (nI (edN σ 0))), (9, .int 1), (10, .int (nI 0))]) [4, 5, 6, 7, 8, 9, 10, 3, 2, 1, 0] rfl ?_
                  refine g_loopP n 0 (Nat.zero_le _) (fun zk ad1 dm1 w1 lv1 => ∃ lb : SG, ad = ad1 ∧ dm = dm1 ∧ (cw D ad cs σ Lx cap mk ev zl tx mt tn tc (lwd cs lb wz)) = w1 ∧ (LJ n t σ lb Lx kt rd ∧ ∀ j, j < zk → lb 3 j = σ 23 j ∧ lb 3 (24 + j) = σ 24 j) ∧ lv1 = [(0, .ref (ad 10 0)), (1, .ref (ad 1 0)), (2, .ref (ad 2 0)), (3, .ref (ad 3 0)), (4, .ref (ad 4 0)), (5, .ref (ad 6 0)), (6, .ref (ad 7 0)), (7, .int (nI (dvN σ zk))), (8, .int (nI (edN σ zk))), (9, .int 1), (10, .int (nI zk))]) (fun zk => ((((((((0 + 0) + 0) + 1) + 1) + 1) + 1) + 1) + 2) + 60 * zk) (fun zk => ((((((((0 + 0) + 0) + 6) + 6) + 6) + 6) + 6) + 12) + 360 * zk) rfl rfl ⟨la, rfl, rfl, rfl, ⟨hJ, fun j hj => absurd hj (Nat.not_lt_zero j)⟩, rfl⟩ ?_ (fun zk hz0 hz1 ih => ?_)
                  ·
                    intro ad1 dm1 w1 lv1 h9
                    obtain ⟨lb, rfl, rfl, rfl, ⟨hJb, hTb⟩, rfl⟩ := h9
                    have hg0 : lb 7 0 = nI n := hJb.2.1
                    show GG p l e _ s m _ below meth c D A ad dm _ (((((((((0 + 0) + 0) + 1) + 1) + 1) + 1) + 1) + 2) + 60 * n) (((((((((0 + 0) + 0) + 6) + 6) + 6) + 6) + 6) + 12) + 360 * n) _ (cw D ad cs σ Lx cap mk ev zl tx mt tn tc (lwd cs lb wz)) 123 [(0, .ref (ad 10 0)), (1, .ref (ad 1 0)), (2, .ref (ad 2 0)), (3, .ref (ad 3 0)), (4, .ref (ad 4 0)), (5, .ref (ad 6 0)), (6, .ref (ad 7 0)), (7, .int (nI (dvN σ n))), (8, .int (nI (edN σ n))), (9, .int 1), (10, .int (nI n))] []
                    refine g_iload F 10 dL_areMessages_123 rfl ?_
                    refine g_aload F 6 dL_areMessages_125 rfl ?_
                    refine g_iconst F dL_areMessages_127 (v := 0) (by decide) ?_
                    refine l_ld F (K := 7) (j := 0) (v := (nI n)) hd7 ⟨by decide, by decide⟩ rfl (show 0 < 2 by omega) hg0 dL_areMessages_128 ?_
                    refine g_icmp_ge F (tgt := 492) dL_areMessages_129 (by decide) (fun zc9 => ?_) (fun zc9 => ?_)
                    ·
                      refine g_iload F 9 dL_areMessages_492 rfl ?_
                      refine g_if_eq F (tgt := 525) dL_areMessages_494 (by decide) (fun zc10 => ?_) (fun zc10 => ?_)
                      ·
                        exact absurd ((nI_eqE (show 1 = nI 1 from rfl) (show 0 = nI 0 from rfl) (by omega) (by omega)).mp zc10) (by omega)
                      ·
                        refine g_aload_n F 0 dL_areMessages_497 rfl rfl ?_
                        refine lq_share F hC hn40 hL hlo hfl  (v := (shV (dvN σ n) (edN σ n))) rfl (cwV 0 F.1.2.2.2.2 gL_areMessages_X5_share rfl rfl rfl (by decide +kernel) ⟨Nat.le_of_ble_eq_true rfl, Nat.le_of_ble_eq_true rfl⟩) (Nat.le_of_ble_eq_true rfl) dL_areMessages_498 ⟨show (((((((((0 + 0) + 0) + 1) + 1) + 1) + 1) + 1) + 2) + 60 * n) + 0 ≤ 1500 by omega, show (((((((((0 + 0) + 0) + 6) + 6) + 6) + 6) + 6) + 12) + 360 * n) + 0 ≤ 9000 by omega⟩ ?_
                        refine g_iload F 8 dL_areMessages_501 rfl ?_
                        refine g_if_ne F (tgt := 510) dL_areMessages_503 (by decide) (fun zc11 => ?_) (fun zc11 => ?_)
                        ·
                          refine g_iload F 7 dL_areMessages_510 rfl ?_
                          refine g_i2f F dL_areMessages_512 ?_
                          refine g_iload F 8 dL_areMessages_513 rfl ?_
                          refine g_i2f F dL_areMessages_515 ?_
                          refine g_fdiv F dL_areMessages_516 (sh_nn (Nat.le_trans (dvN_le σ n) hn40) (Nat.le_trans (edN_le σ n) hn40) zc11) ?_
                          refine g_fcmpE F dL_areMessages_517 (by rw [← sh_1 zc11]; exact sf_cmp (Nat.le_trans (dvN_le σ n) hn40) (Nat.le_trans (edN_le σ n) hn40)) ?_
                          refine g_if_ne F (tgt := 525) dL_areMessages_518 (by decide) (fun zc12 => ?_) (fun zc12 => ?_)
                          ·
                            exact absurd rfl zc12
                          ·
                            refine g_iconst F dL_areMessages_521 (v := 1) (by decide) ?_
                            refine g_goto F (tgt := 526) dL_areMessages_522 (by decide) ?_
                            exact g_qz F hr rfl hlocks (fun _ h => h) ⟨rfl, rfl, rfl, lb, rfl, hJb, hTb⟩ (show ((((((((((0 + 0) + 0) + 1) + 1) + 1) + 1) + 1) + 2) + 60 * n) + 0) ≤ 1500 by omega) (show ((((((((((0 + 0) + 0) + 6) + 6) + 6) + 6) + 6) + 12) + 360 * n) + 0) ≤ 9000 by omega) dL_areMessages_526
                        ·
                          refine g_fconst0 F dL_areMessages_506 ?_
                          refine g_goto F (tgt := 517) dL_areMessages_507 (by decide) ?_
                          refine g_fcmpE F dL_areMessages_517 (by rw [sh_0 (Nat.le_trans (edN_le σ n) hn40) zc11]; decide +kernel) ?_
                          refine g_if_ne F (tgt := 525) dL_areMessages_518 (by decide) (fun zc13 => ?_) (fun zc13 => ?_)
                          ·
                            exact absurd rfl zc13
                          ·
                            refine g_iconst F dL_areMessages_521 (v := 1) (by decide) ?_
                            refine g_goto F (tgt := 526) dL_areMessages_522 (by decide) ?_
                            exact g_qz F hr rfl hlocks (fun _ h => h) ⟨rfl, rfl, rfl, lb, rfl, hJb, hTb⟩ (show ((((((((((0 + 0) + 0) + 1) + 1) + 1) + 1) + 1) + 2) + 60 * n) + 0) ≤ 1500 by omega) (show ((((((((((0 + 0) + 0) + 6) + 6) + 6) + 6) + 6) + 12) + 360 * n) + 0) ≤ 9000 by omega) dL_areMessages_526
                    ·
                      exact absurd ((nI_leE (show (nI n) = nI n from rfl) (show (nI n) = nI n from rfl) (by omega) (by omega)).mpr (by omega)) zc9
                  ·
                    intro ad1 dm1 w1 lv1 h9
                    obtain ⟨lb, rfl, rfl, rfl, ⟨hJb, hTb⟩, rfl⟩ := h9
                    have hg0 : lb 7 0 = nI n := hJb.2.1
                    show GG p l e _ s m _ below meth c D A ad dm _ (((((((((0 + 0) + 0) + 1) + 1) + 1) + 1) + 1) + 2) + 60 * zk) (((((((((0 + 0) + 0) + 6) + 6) + 6) + 6) + 6) + 12) + 360 * zk) _ (cw D ad cs σ Lx cap mk ev zl tx mt tn tc (lwd cs lb wz)) 123 [(0, .ref (ad 10 0)), (1, .ref (ad 1 0)), (2, .ref (ad 2 0)), (3, .ref (ad 3 0)), (4, .ref (ad 4 0)), (5, .ref (ad 6 0)), (6, .ref (ad 7 0)), (7, .int (nI (dvN σ zk))), (8, .int (nI (edN σ zk))), (9, .int 1), (10, .int (nI zk))] []
                    obtain ⟨xe, d0, xd, xq, xu, xa, ⟨he5, ha4, hd0, hdq, hq5, hu, h4, hdp, h1p, hp8⟩, ⟨h23, h24, h25, h26, hT24, hm1, h12⟩, hT3, h22⟩ := hJb.body hI hz1
                    obtain ⟨al, hal, hl2, hlt, hls, hlm⟩ := hJb.text hI hz1
                    refine g_iload F 10 dL_areMessages_123 rfl ?_
                    refine g_aload F 6 dL_areMessages_125 rfl ?_
                    refine g_iconst F dL_areMessages_127 (v := 0) (by decide) ?_
                    refine l_ld F (K := 7) (j := 0) (v := (nI n)) hd7 ⟨by decide, by decide⟩ rfl (show 0 < 2 by omega) hg0 dL_areMessages_128 ?_
                    refine g_icmp_ge F (tgt := 492) dL_areMessages_129 (by decide) (fun zc14 => ?_) (fun zc14 => ?_)
                    ·
                      exact absurd ((nI_leE (show (nI n) = nI n from rfl) (show (nI zk) = nI zk from rfl) (by omega) (by omega)).mp zc14) (by omega)
                    ·
                      refine g_iload F 9 dL_areMessages_132 rfl ?_
                      refine g_if_eq F (tgt := 492) dL_areMessages_134 (by decide) (fun zc15 => ?_) (fun zc15 => ?_)
                      ·
                        exact absurd ((nI_eqE (show 1 = nI 1 from rfl) (show 0 = nI 0 from rfl) (by omega) (by omega)).mp zc15) (by omega)
                      ·
                        refine g_aload_n F 0 dL_areMessages_137 rfl rfl ?_
                        refine g_iload F 10 dL_areMessages_138 rfl ?_
                        refine lq_state F hC hn40 hL hlo hfl (k := zk) (by omega) (v := (nI xe)) h23 (cwV 1 F.1.2.2.2.2 gL_areMessages_X5_state rfl rfl rfl (by decide +kernel) ⟨Nat.le_of_ble_eq_true rfl, Nat.le_of_ble_eq_true rfl⟩) (Nat.le_of_ble_eq_true rfl) dL_areMessages_140 ⟨show (((((((((0 + 0) + 0) + 1) + 1) + 1) + 1) + 1) + 2) + 60 * zk) + 1 ≤ 1500 by omega, show (((((((((0 + 0) + 0) + 6) + 6) + 6) + 6) + 6) + 12) + 360 * zk) + 6 ≤ 9000 by omega⟩ ?_
                        refine g_istore F (lv1 := [(11, .int (nI xe)), (0, .ref (ad 10 0)), (1, .ref (ad 1 0)), (2, .ref (ad 2 0)), (3, .ref (ad 3 0)), (4, .ref (ad 4 0)), (5, .ref (ad 6 0)), (6, .ref (ad 7 0)), (7, .int (nI (dvN σ zk))), (8, .int (nI (edN σ zk))), (9, .int 1), (10, .int (nI zk))]) dL_areMessages_143 (by decide) rfl ?_
                        refine g_aload_n F 1 dL_areMessages_145 rfl rfl ?_
                        refine g_iload F 11 dL_areMessages_146 rfl ?_
                        refine lq_parts F hC hn40 hL hlo hfl hmt (k := zk) (by omega) (v := (nI (tn (mt zk)))) rfl (cwV 1 F.1.2.2.2.2 gL_areMessages_X5_parts rfl rfl rfl (by decide +kernel) ⟨Nat.le_of_ble_eq_true rfl, Nat.le_of_ble_eq_true rfl⟩) (Nat.le_of_ble_eq_true rfl) dL_areMessages_148 ⟨show ((((((((((0 + 0) + 0) + 1) + 1) + 1) + 1) + 1) + 2) + 60 * zk) + 1) + 1 ≤ 1500 by omega, show ((((((((((0 + 0) + 0) + 6) + 6) + 6) + 6) + 6) + 12) + 360 * zk) + 6) + 6 ≤ 9000 by omega⟩ ?_
                        refine g_istore F (lv1 := [(12, .int (nI (tn (mt zk)))), (11, .int (nI xe)), (0, .ref (ad 10 0)), (1, .ref (ad 1 0)), (2, .ref (ad 2 0)), (3, .ref (ad 3 0)), (4, .ref (ad 4 0)), (5, .ref (ad 6 0)), (6, .ref (ad 7 0)), (7, .int (nI (dvN σ zk))), (8, .int (nI (edN σ zk))), (9, .int 1), (10, .int (nI zk))]) dL_areMessages_151 (by decide) rfl ?_
                        refine g_aload_n F 2 dL_areMessages_153 rfl rfl ?_
                        refine g_iload F 12 dL_areMessages_154 rfl ?_
                        refine lq_delivered F hC hn40 hL hlo hfl (k := zk) (by omega) (v := (nI xd)) h24 (cwV 1 F.1.2.2.2.2 gL_areMessages_X5_delivered rfl rfl rfl (by decide +kernel) ⟨Nat.le_of_ble_eq_true rfl, Nat.le_of_ble_eq_true rfl⟩) (Nat.le_of_ble_eq_true rfl) dL_areMessages_156 ⟨show (((((((((((0 + 0) + 0) + 1) + 1) + 1) + 1) + 1) + 2) + 60 * zk) + 1) + 1) + 1 ≤ 1500 by omega, show (((((((((((0 + 0) + 0) + 6) + 6) + 6) + 6) + 6) + 12) + 360 * zk) + 6) + 6) + 6 ≤ 9000 by omega⟩ ?_
                        refine g_istore F (lv1 := [(13, .int (nI xd)), (12, .int (nI (tn (mt zk)))), (11, .int (nI xe)), (0, .ref (ad 10 0)), (1, .ref (ad 1 0)), (2, .ref (ad 2 0)), (3, .ref (ad 3 0)), (4, .ref (ad 4 0)), (5, .ref (ad 6 0)), (6, .ref (ad 7 0)), (7, .int (nI (dvN σ zk))), (8, .int (nI (edN σ zk))), (9, .int 1), (10, .int (nI zk))]) dL_areMessages_159 (by decide) rfl ?_
                        refine g_iconst F dL_areMessages_161 (v := 0) (by decide) ?_
                        refine g_istore F (lv1 := [(14, .int 0), (13, .int (nI xd)), (12, .int (nI (tn (mt zk)))), (11, .int (nI xe)), (0, .ref (ad 10 0)), (1, .ref (ad 1 0)), (2, .ref (ad 2 0)), (3, .ref (ad 3 0)), (4, .ref (ad 4 0)), (5, .ref (ad 6 0)), (6, .ref (ad 7 0)), (7, .int (nI (dvN σ zk))), (8, .int (nI (edN σ zk))), (9, .int 1), (10, .int (nI zk))]) dL_areMessages_162 (by decide) rfl ?_
                        refine g_iconst F dL_areMessages_164 (v := 0) (by decide) ?_
                        refine g_istore F (lv1 := [(15, .int 0), (14, .int 0), (13, .int (nI xd)), (12, .int (nI (tn (mt zk)))), (11, .int (nI xe)), (0, .ref (ad 10 0)), (1, .ref (ad 1 0)), (2, .ref (ad 2 0)), (3, .ref (ad 3 0)), (4, .ref (ad 4 0)), (5, .ref (ad 6 0)), (6, .ref (ad 7 0)), (7, .int (nI (dvN σ zk))), (8, .int (nI (edN σ zk))), (9, .int 1), (10, .int (nI zk))]) dL_areMessages_165 (by decide) rfl ?_
                        refine g_loopP (tn (mt zk)) 0 (Nat.zero_le _) (fun zj ad1 dm1 w1 lv1 => ad = ad1 ∧ dm = dm1 ∧ (cw D ad cs σ Lx cap mk ev zl tx mt tn tc (lwd cs lb wz)) = w1 ∧ lv1 = [(15, .int (nI zj)), (14, .int (nI (lsum (loM σ zk) zj))), (13, .int (nI xd)), (12, .int (nI (tn (mt zk)))), (11, .int (nI xe)), (0, .ref (ad 10 0)), (1, .ref (ad 1 0)), (2, .ref (ad 2 0)), (3, .ref (ad 3 0)), (4, .ref (ad 4 0)), (5, .ref (ad 6 0)), (6, .ref (ad 7 0)), (7, .int (nI (dvN σ zk))), (8, .int (nI (edN σ zk))), (9, .int 1), (10, .int (nI zk))]) (fun zj => ((((((((((((0 + 0) + 0) + 1) + 1) + 1) + 1) + 1) + 2) + 60 * zk) + 1) + 1) + 1) + 4 * zj) (fun zj => ((((((((((((0 + 0) + 0) + 6) + 6) + 6) + 6) + 6) + 12) + 360 * zk) + 6) + 6) + 6) + 24 * zj) rfl rfl ⟨rfl, rfl, rfl, rfl⟩ ?_ (fun zj hj0 hj1 ihj => ?_)
                        ·
                          intro ad1 dm1 w1 lv1 h9
                          obtain ⟨rfl, rfl, rfl, rfl⟩ := h9
                          show GG p l e _ s m _ below meth c D A ad dm _ (((((((((((((0 + 0) + 0) + 1) + 1) + 1) + 1) + 1) + 2) + 60 * zk) + 1) + 1) + 1) + 4 * (tn (mt zk))) (((((((((((((0 + 0) + 0) + 6) + 6) + 6) + 6) + 6) + 12) + 360 * zk) + 6) + 6) + 6) + 24 * (tn (mt zk))) _ (cw D ad cs σ Lx cap mk ev zl tx mt tn tc (lwd cs lb wz)) 167 [(15, .int (nI (tn (mt zk)))), (14, .int (nI (lsum (loM σ zk) (tn (mt zk))))), (13, .int (nI xd)), (12, .int (nI (tn (mt zk)))), (11, .int (nI xe)), (0, .ref (ad 10 0)), (1, .ref (ad 1 0)), (2, .ref (ad 2 0)), (3, .ref (ad 3 0)), (4, .ref (ad 4 0)), (5, .ref (ad 6 0)), (6, .ref (ad 7 0)), (7, .int (nI (dvN σ zk))), (8, .int (nI (edN σ zk))), (9, .int 1), (10, .int (nI zk))] []
                          refine g_widen (cells1 := (((((((((((((0 + 0) + 0) + 1) + 1) + 1) + 1) + 1) + 2) + 60 * zk) + 1) + 1) + 1) + 32)) (slots1 := (((((((((((((0 + 0) + 0) + 6) + 6) + 6) + 6) + 6) + 12) + 360 * zk) + 6) + 6) + 6) + 192)) (show (((((((((((((0 + 0) + 0) + 1) + 1) + 1) + 1) + 1) + 2) + 60 * zk) + 1) + 1) + 1) + 4 * (tn (mt zk))) ≤ (((((((((((((0 + 0) + 0) + 1) + 1) + 1) + 1) + 1) + 2) + 60 * zk) + 1) + 1) + 1) + 32) by omega) (show (((((((((((((0 + 0) + 0) + 6) + 6) + 6) + 6) + 6) + 12) + 360 * zk) + 6) + 6) + 6) + 24 * (tn (mt zk))) ≤ (((((((((((((0 + 0) + 0) + 6) + 6) + 6) + 6) + 6) + 12) + 360 * zk) + 6) + 6) + 6) + 192) by omega) ?_
                          refine g_iload F 0 dL_areMessages_167 rfl ?_
                          refine g_iload F 3 dL_areMessages_169 rfl ?_
                          refine g_icmp_ge F (tgt := 216) dL_areMessages_171 (by decide) (fun zc16 => ?_) (fun zc16 => ?_)
                          ·
                            refine g_iload F 14 dL_areMessages_216 rfl ?_
                            refine g_if_eq F (tgt := 403) dL_areMessages_218 (by decide) (fun zc17 => ?_) (fun zc17 => ?_)
                            ·
                              exact absurd ((nI_eqE (show 1 = nI 1 from rfl) (show 0 = nI 0 from rfl) (by omega) (by omega)).mp zc17) (by omega)
                            ·
                              refine g_iload F 4 dL_areMessages_221 rfl ?_
                              refine g_if_lt F (tgt := 403) dL_areMessages_223 (by decide) (fun zc18 => ?_) (fun zc18 => ?_)
                              ·
                                exact absurd ((nI_ltE (show (nI xe) = nI xe from rfl) (show 0 = nI 0 from rfl) (by omega) (by omega)).mp zc18) (by omega)
                              ·
                                refine g_iload F 4 dL_areMessages_226 rfl ?_
                                refine g_iconst F dL_areMessages_228 (v := 5) (by decide) ?_
                                refine g_icmp_ge F (tgt := 403) dL_areMessages_229 (by decide) (fun zc19 => ?_) (fun zc19 => ?_)
                                ·
                                  exact absurd ((nI_leE (show 5 = nI 5 from rfl) (show (nI xe) = nI xe from rfl) (by omega) (by omega)).mp zc19) (by omega)
                                ·
                                  refine g_aload_n F 5 dL_areMessages_232 rfl rfl ?_
                                  refine g_iload F 15 dL_areMessages_233 rfl ?_
                                  refine lq_stateByLog F hC hn40 hL hlo hfl hmt hlg (k := zk) (by omega) (v := (nI xe)) ((sm_log hI hz1).trans h23) (cwV 1 F.1.2.2.2.2 gL_areMessages_X5_stateByLog rfl rfl rfl (by decide +kernel) ⟨Nat.le_of_ble_eq_true rfl, Nat.le_of_ble_eq_true rfl⟩) (Nat.le_of_ble_eq_true rfl) dL_areMessages_235 ⟨show (((((((((((((0 + 0) + 0) + 1) + 1) + 1) + 1) + 1) + 2) + 60 * zk) + 1) + 1) + 1) + 32) + 1 ≤ 1500 by omega, show (((((((((((((0 + 0) + 0) + 6) + 6) + 6) + 6) + 6) + 12) + 360 * zk) + 6) + 6) + 6) + 192) + 6 ≤ 9000 by omega⟩ ?_
                                  refine g_iload F 4 dL_areMessages_238 rfl ?_
                                  refine g_icmp_ne F (tgt := 403) dL_areMessages_240 (by decide) (fun zc20 => ?_) (fun zc20 => ?_)
                                  ·
                                    exact absurd ((nI_eqE (show (nI xe) = nI xe from rfl) (show (nI xe) = nI xe from rfl) (by omega) (by omega)).mpr (by omega)) zc20
                                  ·
                                    refine g_aload_n F 8 dL_areMessages_243 rfl rfl ?_
                                    refine g_iload F 15 dL_areMessages_244 rfl ?_
                                    refine l_ld F (K := 3) (j := zk) (v := (lb 3 zk)) hd7 ⟨by decide, by decide⟩ rfl (show zk < 48 by omega) rfl dL_areMessages_246 ?_
                                    refine g_cutC (cells1 := ((((((((((((((0 + 0) + 0) + 1) + 1) + 1) + 1) + 1) + 2) + 60 * zk) + 1) + 1) + 1) + 32) + 1)) (slots1 := ((((((((((((((0 + 0) + 0) + 6) + 6) + 6) + 6) + 6) + 12) + 360 * zk) + 6) + 6) + 6) + 192) + 6)) (w2 := (cw D ad cs σ Lx cap mk ev zl tx mt tn tc (lwd cs lb wz))) (pc2 := 259) (lv2 := [(15, .int (nI (tn (mt zk)))), (14, .int (nI (lsum (loM σ zk) (tn (mt zk))))), (13, .int (nI xd)), (12, .int (nI (tn (mt zk)))), (11, .int (nI xe)), (0, .ref (ad 10 0)), (1, .ref (ad 1 0)), (2, .ref (ad 2 0)), (3, .ref (ad 3 0)), (4, .ref (ad 4 0)), (5, .ref (ad 6 0)), (6, .ref (ad 7 0)), (7, .int (nI (dvN σ zk))), (8, .int (nI (edN σ zk))), (9, .int 1), (10, .int (nI zk))]) (st2 := []) ?_ (fun zhJ21 => ?_)
                                    ·
                                      refine g_iload F 1 dL_areMessages_259 rfl ?_
                                      refine g_aload_n F 7 dL_areMessages_261 rfl rfl ?_
                                      refine g_iload F 15 dL_areMessages_262 rfl ?_
                                      refine l_ld F (K := 2) (j := zk) (v := (nI al)) hd7 ⟨by decide, by decide⟩ rfl (show zk < 24 by omega) hl2 dL_areMessages_264 ?_
                                      refine g_icmp_ne F (tgt := 403) dL_areMessages_265 (by decide) (fun zc22 => ?_) (fun zc22 => ?_)
                                      ·
                                        exact absurd ((nI_eqE (show (nI (lsum (loM σ zk) (tn (mt zk)))) = nI (lsum (loM σ zk) (tn (mt zk))) from rfl) (show (nI al) = nI al from rfl) (by omega) (by omega)).mpr (by omega)) zc22
                                      ·
                                        refine g_aload_n F 5 dL_areMessages_268 rfl rfl ?_
                                        refine g_iconst F dL_areMessages_269 (v := 3) (by decide) ?_
                                        refine g_iload F 15 dL_areMessages_270 rfl ?_
                                        refine g_iload F 3 dL_areMessages_272 rfl ?_
                                        refine lq_asks F (rest := []) (lk_lettersIn l D A cs ad dm σ Lx cap mk ev zl tx mt tn tc (lwd cs lb wz) n tq hC hn40 hL hlo hmt hfl (nI zk) (nI (tn (mt zk))) (fun q => mg_out (n := tn (mt zk)) (by omega) (by have z := q.2; rw [ix_nI (show zk < 2 ^ 31 by omega)] at z; exact z))) (vx_cwSW 4 F.1.2.2.2.2 gL_areMessages_L_asks rfl rfl rfl (by decide +kernel) ⟨Nat.le_of_ble_eq_true rfl, Nat.le_of_ble_eq_true rfl⟩) (Nat.le_of_ble_eq_true rfl) dL_areMessages_274 ⟨show ((((((((((((((0 + 0) + 0) + 1) + 1) + 1) + 1) + 1) + 2) + 60 * zk) + 1) + 1) + 1) + 32) + 1) + 2 ≤ 1500 by omega, show ((((((((((((((0 + 0) + 0) + 6) + 6) + 6) + 6) + 6) + 12) + 360 * zk) + 6) + 6) + 6) + 192) + 6) + 12 ≤ 9000 by omega⟩ ?_
                                        refine g_bipush F dL_areMessages_277 (v := -30) (by decide) ?_
                                        refine g_icmp_ne F (tgt := 403) dL_areMessages_279 (by decide) (fun zc23 => ?_) (fun zc23 => ?_)
                                        ·
                                          exact absurd rfl zc23
                                        ·
                                          refine g_aload_n F 5 dL_areMessages_282 rfl rfl ?_
                                          refine g_iconst F dL_areMessages_283 (v := 3) (by decide) ?_
                                          refine g_iload F 15 dL_areMessages_284 rfl ?_
                                          refine g_iconst F dL_areMessages_286 (v := -1) (by decide) ?_
                                          refine lq_asks F (rest := []) (lk_lettersIn l D A cs ad dm σ Lx cap mk ev zl tx mt tn tc (lwd cs lb wz) n tq hC hn40 hL hlo hmt hfl (nI zk) (-1) (fun q => mg_m1 _ q.2)) (vx_cwSW 4 F.1.2.2.2.2 gL_areMessages_L_asks rfl rfl rfl (by decide +kernel) ⟨Nat.le_of_ble_eq_true rfl, Nat.le_of_ble_eq_true rfl⟩) (Nat.le_of_ble_eq_true rfl) dL_areMessages_287 ⟨show (((((((((((((((0 + 0) + 0) + 1) + 1) + 1) + 1) + 1) + 2) + 60 * zk) + 1) + 1) + 1) + 32) + 1) + 2) + 2 ≤ 1500 by omega, show (((((((((((((((0 + 0) + 0) + 6) + 6) + 6) + 6) + 6) + 12) + 360 * zk) + 6) + 6) + 6) + 192) + 6) + 12) + 12 ≤ 9000 by omega⟩ ?_
                                          refine g_bipush F dL_areMessages_290 (v := -30) (by decide) ?_
                                          refine g_icmp_ne F (tgt := 403) dL_areMessages_292 (by decide) (fun zc24 => ?_) (fun zc24 => ?_)
                                          ·
                                            exact absurd rfl zc24
                                          ·
                                            refine g_iload F 2 dL_areMessages_295 rfl ?_
                                            refine g_aload_n F 8 dL_areMessages_297 rfl rfl ?_
                                            refine g_bipush F dL_areMessages_298 (v := 24) (by decide) ?_
                                            refine g_iload F 15 dL_areMessages_300 rfl ?_
                                            refine g_iadd F dL_areMessages_302 ?_
                                            refine l_ld F (K := 3) (j := (24 + zk)) (v := (nI d0)) hd7 ⟨by decide, by decide⟩ (nI_addE (show 24 = nI 24 from rfl) (show (nI zk) = nI zk from rfl)) (show (24 + zk) < 48 by omega) hT24 dL_areMessages_303 ?_
                                            refine g_icmp_lt F (tgt := 403) dL_areMessages_304 (by decide) (fun zc25 => ?_) (fun zc25 => ?_)
                                            ·
                                              exact absurd ((nI_ltE (show (nI xd) = nI xd from rfl) (show (nI d0) = nI d0 from rfl) (by omega) (by omega)).mp zc25) (by omega)
                                            ·
                                              refine g_iload F 2 dL_areMessages_307 rfl ?_
                                              refine g_iload F 3 dL_areMessages_309 rfl ?_
                                              refine g_icmp_gt F (tgt := 403) dL_areMessages_311 (by decide) (fun zc26 => ?_) (fun zc26 => ?_)
                                              ·
                                                exact absurd ((nI_ltE (show (nI (tn (mt zk))) = nI (tn (mt zk)) from rfl) (show (nI xd) = nI xd from rfl) (by omega) (by omega)).mp zc26) (by omega)
                                              ·
                                                refine g_iload F 4 dL_areMessages_314 rfl ?_
                                                refine g_iconst F dL_areMessages_316 (v := 1) (by decide) ?_
                                                refine g_cut (w2 := (cw D ad cs σ Lx cap mk ev zl tx mt tn tc (lwd cs lb wz))) (pc2 := 325) (lv2 := [(15, .int (nI (tn (mt zk)))), (14, .int (nI (lsum (loM σ zk) (tn (mt zk))))), (13, .int (nI xd)), (12, .int (nI (tn (mt zk)))), (11, .int (nI xe)), (0, .ref (ad 10 0)), (1, .ref (ad 1 0)), (2, .ref (ad 2 0)), (3, .ref (ad 3 0)), (4, .ref (ad 4 0)), (5, .ref (ad 6 0)), (6, .ref (ad 7 0)), (7, .int (nI (dvN σ zk))), (8, .int (nI (edN σ zk))), (9, .int 1), (10, .int (nI zk))]) (st2 := [.int (bi ((nI xe) = 1))]) ?_ (fun zhJ27 => ?_)
                                                ·
                                                  refine g_iload F 2 dL_areMessages_325 rfl ?_
                                                  refine g_iload F 3 dL_areMessages_327 rfl ?_
                                                  refine g_cut (w2 := (cw D ad cs σ Lx cap mk ev zl tx mt tn tc (lwd cs lb wz))) (pc2 := 337) (lv2 := [(15, .int (nI (tn (mt zk)))), (14, .int (nI (lsum (loM σ zk) (tn (mt zk))))), (13, .int (nI xd)), (12, .int (nI (tn (mt zk)))), (11, .int (nI xe)), (0, .ref (ad 10 0)), (1, .ref (ad 1 0)), (2, .ref (ad 2 0)), (3, .ref (ad 3 0)), (4, .ref (ad 4 0)), (5, .ref (ad 6 0)), (6, .ref (ad 7 0)), (7, .int (nI (dvN σ zk))), (8, .int (nI (edN σ zk))), (9, .int 1), (10, .int (nI zk))]) (st2 := [.int (bi ((nI xd) = (nI (tn (mt zk))))), .int (bi ((nI xe) = 1))]) ?_ (fun zhJ28 => ?_)
                                                  ·
                                                    refine g_icmp_ne F (tgt := 403) dL_areMessages_337 (by decide) (fun zc29 => ?_) (fun zc29 => ?_)
                                                    ·
                                                      exact absurd (bi_iff (((nI_eqE (show nI xe = nI xe from rfl) (show (1 : Int32) = nI 1 from rfl) (by omega) (by decide)).trans h1p).trans (nI_eqE (show nI xd = nI xd from rfl) (show nI (tn (mt zk)) = nI (tn (mt zk)) from rfl) (by omega) (by omega)).symm)) zc29
                                                    ·
                                                      refine g_aload_n F 5 dL_areMessages_340 rfl rfl ?_
                                                      refine g_iload F 15 dL_areMessages_341 rfl ?_
                                                      refine lq_attempts F hC hn40 hL hlo hfl (k := zk) (by omega) (v := (nI xq)) h25 (cwV 1 F.1.2.2.2.2 gL_areMessages_X5_attempts rfl rfl rfl (by decide +kernel) ⟨Nat.le_of_ble_eq_true rfl, Nat.le_of_ble_eq_true rfl⟩) (Nat.le_of_ble_eq_true rfl) dL_areMessages_343 ⟨show ((((((((((((((((0 + 0) + 0) + 1) + 1) + 1) + 1) + 1) + 2) + 60 * zk) + 1) + 1) + 1) + 32) + 1) + 2) + 2) + 1 ≤ 1500 by omega, show ((((((((((((((((0 + 0) + 0) + 6) + 6) + 6) + 6) + 6) + 12) + 360 * zk) + 6) + 6) + 6) + 192) + 6) + 12) + 12) + 6 ≤ 9000 by omega⟩ ?_
                                                      refine g_iload F 2 dL_areMessages_346 rfl ?_
                                                      refine g_icmp_lt F (tgt := 403) dL_areMessages_348 (by decide) (fun zc30 => ?_) (fun zc30 => ?_)
                                                      ·
                                                        exact absurd ((nI_ltE (show (nI xq) = nI xq from rfl) (show (nI xd) = nI xd from rfl) (by omega) (by omega)).mp zc30) (by omega)
                                                      ·
                                                        refine g_iload F 4 dL_areMessages_351 rfl ?_
                                                        refine g_iconst F dL_areMessages_353 (v := 4) (by decide) ?_
                                                        refine g_cutC (cells1 := ((((((((((((((((((0 + 0) + 0) + 1) + 1) + 1) + 1) + 1) + 2) + 60 * zk) + 1) + 1) + 1) + 32) + 1) + 2) + 2) + 1) + 1)) (slots1 := ((((((((((((((((((0 + 0) + 0) + 6) + 6) + 6) + 6) + 6) + 12) + 360 * zk) + 6) + 6) + 6) + 192) + 6) + 12) + 12) + 6) + 6)) (w2 := (cw D ad cs σ Lx cap mk ev zl tx mt tn tc (lwd cs lb wz))) (pc2 := 368) (lv2 := [(15, .int (nI (tn (mt zk)))), (14, .int (nI (lsum (loM σ zk) (tn (mt zk))))), (13, .int (nI xd)), (12, .int (nI (tn (mt zk)))), (11, .int (nI xe)), (0, .ref (ad 10 0)), (1, .ref (ad 1 0)), (2, .ref (ad 2 0)), (3, .ref (ad 3 0)), (4, .ref (ad 4 0)), (5, .ref (ad 6 0)), (6, .ref (ad 7 0)), (7, .int (nI (dvN σ zk))), (8, .int (nI (edN σ zk))), (9, .int 1), (10, .int (nI zk))]) (st2 := []) ?_ (fun zhJ31 => ?_)
                                                        ·
                                                          refine g_iload F 4 dL_areMessages_368 rfl ?_
                                                          refine g_cutC (cells1 := (((((((((((((((((((0 + 0) + 0) + 1) + 1) + 1) + 1) + 1) + 2) + 60 * zk) + 1) + 1) + 1) + 32) + 1) + 2) + 2) + 1) + 1) + 2)) (slots1 := (((((((((((((((((((0 + 0) + 0) + 6) + 6) + 6) + 6) + 6) + 12) + 360 * zk) + 6) + 6) + 6) + 192) + 6) + 12) + 12) + 6) + 6) + 12)) (w2 := (cw D ad cs σ Lx cap mk ev zl tx mt tn tc (lwd cs lb wz))) (pc2 := 399) (lv2 := [(15, .int (nI (tn (mt zk)))), (14, .int (nI (lsum (loM σ zk) (tn (mt zk))))), (13, .int (nI xd)), (12, .int (nI (tn (mt zk)))), (11, .int (nI xe)), (0, .ref (ad 10 0)), (1, .ref (ad 1 0)), (2, .ref (ad 2 0)), (3, .ref (ad 3 0)), (4, .ref (ad 4 0)), (5, .ref (ad 6 0)), (6, .ref (ad 7 0)), (7, .int (nI (dvN σ zk))), (8, .int (nI (edN σ zk))), (9, .int 1), (10, .int (nI zk))]) (st2 := []) ?_ (fun zhJ32 => ?_)
                                                          ·
                                                            refine g_iconst F dL_areMessages_399 (v := 1) (by decide) ?_
                                                            refine g_goto F (tgt := 404) dL_areMessages_400 (by decide) ?_
                                                            refine g_istore F (lv1 := [(9, .int 1), (15, .int (nI (tn (mt zk)))), (14, .int (nI (lsum (loM σ zk) (tn (mt zk))))), (13, .int (nI xd)), (12, .int (nI (tn (mt zk)))), (11, .int (nI xe)), (0, .ref (ad 10 0)), (1, .ref (ad 1 0)), (2, .ref (ad 2 0)), (3, .ref (ad 3 0)), (4, .ref (ad 4 0)), (5, .ref (ad 6 0)), (6, .ref (ad 7 0)), (7, .int (nI (dvN σ zk))), (8, .int (nI (edN σ zk))), (10, .int (nI zk))]) dL_areMessages_404 (by decide) rfl ?_
                                                            refine g_aload F 11 dL_areMessages_406 rfl ?_
                                                            refine g_bipush F dL_areMessages_408 (v := 12) (by decide) ?_
                                                            refine g_aload_n F 7 dL_areMessages_410 rfl rfl ?_
                                                            refine g_iload F 15 dL_areMessages_411 rfl ?_
                                                            refine l_ld F (K := 1) (j := zk) (v := (nI xa)) hd7 ⟨by decide, by decide⟩ rfl (show zk < 48 by omega) hm1 dL_areMessages_413 ?_
                                                            refine g_iadd F dL_areMessages_414 ?_
                                                            refine g_dup2 F dL_areMessages_415 rfl rfl ?_
                                                            refine l_ld F (K := 6) (j := (12 + xa)) (v := (lb 6 (12 + xa))) hd7 ⟨by decide, by decide⟩ (nI_addE (show 12 = nI 12 from rfl) (show (nI xa) = nI xa from rfl)) (show (12 + xa) < 16 by omega) rfl dL_areMessages_416 ?_
                                                            refine g_aload_n F 9 dL_areMessages_417 rfl rfl ?_
                                                            refine g_iload F 15 dL_areMessages_418 rfl ?_
                                                            refine l_ld F (K := 3) (j := zk) (v := (lb 3 zk)) hd7 ⟨by decide, by decide⟩ rfl (show zk < 48 by omega) rfl dL_areMessages_420 ?_
                                                            refine g_cut (w2 := (cw D ad cs σ Lx cap mk ev zl tx mt tn tc (lwd cs lb wz))) (pc2 := 438) (lv2 := [(9, .int 1), (15, .int (nI (tn (mt zk)))), (14, .int (nI (lsum (loM σ zk) (tn (mt zk))))), (13, .int (nI xd)), (12, .int (nI (tn (mt zk)))), (11, .int (nI xe)), (0, .ref (ad 10 0)), (1, .ref (ad 1 0)), (2, .ref (ad 2 0)), (3, .ref (ad 3 0)), (4, .ref (ad 4 0)), (5, .ref (ad 6 0)), (6, .ref (ad 7 0)), (7, .int (nI (dvN σ zk))), (8, .int (nI (edN σ zk))), (10, .int (nI zk))]) (st2 := [.int (if (lb 3 zk) = 0 then (if (nI xe) ≤ 0 then 0 else (lb 4 zk)) else 0 : Int32), .int (lb 6 (12 + xa)), .int (12 + (nI xa)), .ref (ad 6 0)]) ?_ (fun zhJ33 => ?_)
                                                            ·
                                                              refine g_iadd F dL_areMessages_438 ?_
                                                              refine l_st F (K := 6) (j := (12 + xa)) hd7 ⟨by decide, by decide⟩ (nI_addE (show 12 = nI 12 from rfl) (show (nI xa) = nI xa from rfl)) (show (12 + xa) < 16 by omega) dL_areMessages_439 ?_
                                                              refine g_aload_n F 9 dL_areMessages_440 rfl rfl ?_
                                                              refine g_iload F 15 dL_areMessages_441 rfl ?_
                                                              refine g_iload F 5 dL_areMessages_443 rfl ?_
                                                              refine l_st F (K := 3) (j := zk) hd7 ⟨by decide, by decide⟩ rfl (show zk < 48 by omega) dL_areMessages_445 ?_
                                                              refine g_aload_n F 9 dL_areMessages_446 rfl rfl ?_
                                                              refine g_bipush F dL_areMessages_447 (v := 24) (by decide) ?_
                                                              refine g_iload F 15 dL_areMessages_449 rfl ?_
                                                              refine g_iadd F dL_areMessages_451 ?_
                                                              refine g_iload F 3 dL_areMessages_452 rfl ?_
                                                              refine l_st F (K := 3) (j := (24 + zk)) hd7 ⟨by decide, by decide⟩ (nI_addE (show 24 = nI 24 from rfl) (show (nI zk) = nI zk from rfl)) (show (24 + zk) < 48 by omega) dL_areMessages_454 ?_
                                                              refine g_iload F 13 dL_areMessages_455 rfl ?_
                                                              refine g_iload F 5 dL_areMessages_457 rfl ?_
                                                              refine g_iconst F dL_areMessages_459 (v := 1) (by decide) ?_
                                                              refine g_cut (w2 := (cw D ad cs σ Lx cap mk ev zl tx mt tn tc (lwd cs (up2 (up2 (up2 lb 6 (12 + xa) ((lb 6 (12 + xa)) + (if (lb 3 zk) = 0 then (if (nI xe) ≤ 0 then 0 else (lb 4 zk)) else 0 : Int32))) 3 zk (nI xe)) 3 (24 + zk) (nI xd)) wz))) (pc2 := 468) (lv2 := [(9, .int 1), (15, .int (nI (tn (mt zk)))), (14, .int (nI (lsum (loM σ zk) (tn (mt zk))))), (13, .int (nI xd)), (12, .int (nI (tn (mt zk)))), (11, .int (nI xe)), (0, .ref (ad 10 0)), (1, .ref (ad 1 0)), (2, .ref (ad 2 0)), (3, .ref (ad 3 0)), (4, .ref (ad 4 0)), (5, .ref (ad 6 0)), (6, .ref (ad 7 0)), (7, .int (nI (dvN σ zk))), (8, .int (nI (edN σ zk))), (10, .int (nI zk))]) (st2 := [.int (bi ((nI xe) = 1)), .int (nI (dvN σ zk))]) ?_ (fun zhJ34 => ?_)
                                                              ·
                                                                refine g_iadd F dL_areMessages_468 ?_
                                                                refine g_istore F (lv1 := [(7, .int ((nI (dvN σ zk)) + (bi ((nI xe) = 1)))), (9, .int 1), (15, .int (nI (tn (mt zk)))), (14, .int (nI (lsum (loM σ zk) (tn (mt zk))))), (13, .int (nI xd)), (12, .int (nI (tn (mt zk)))), (11, .int (nI xe)), (0, .ref (ad 10 0)), (1, .ref (ad 1 0)), (2, .ref (ad 2 0)), (3, .ref (ad 3 0)), (4, .ref (ad 4 0)), (5, .ref (ad 6 0)), (6, .ref (ad 7 0)), (8, .int (nI (edN σ zk))), (10, .int (nI zk))]) dL_areMessages_469 (by decide) rfl ?_
                                                                refine g_iload F 14 dL_areMessages_471 rfl ?_
                                                                refine g_iload F 6 dL_areMessages_473 rfl ?_
                                                                refine g_cut (w2 := (cw D ad cs σ Lx cap mk ev zl tx mt tn tc (lwd cs (up2 (up2 (up2 lb 6 (12 + xa) ((lb 6 (12 + xa)) + (if (lb 3 zk) = 0 then (if (nI xe) ≤ 0 then 0 else (lb 4 zk)) else 0 : Int32))) 3 zk (nI xe)) 3 (24 + zk) (nI xd)) wz))) (pc2 := 483) (lv2 := [(7, .int ((nI (dvN σ zk)) + (bi ((nI xe) = 1)))), (9, .int 1), (15, .int (nI (tn (mt zk)))), (14, .int (nI (lsum (loM σ zk) (tn (mt zk))))), (13, .int (nI xd)), (12, .int (nI (tn (mt zk)))), (11, .int (nI xe)), (0, .ref (ad 10 0)), (1, .ref (ad 1 0)), (2, .ref (ad 2 0)), (3, .ref (ad 3 0)), (4, .ref (ad 4 0)), (5, .ref (ad 6 0)), (6, .ref (ad 7 0)), (8, .int (nI (edN σ zk))), (10, .int (nI zk))]) (st2 := [.int (bi (¬ (nI xe) = 0)), .int (nI (edN σ zk))]) ?_ (fun zhJ35 => ?_)
                                                                ·
                                                                  refine g_iadd F dL_areMessages_483 ?_
                                                                  refine g_istore F (lv1 := [(8, .int ((nI (edN σ zk)) + (bi (¬ (nI xe) = 0)))), (7, .int ((nI (dvN σ zk)) + (bi ((nI xe) = 1)))), (9, .int 1), (15, .int (nI (tn (mt zk)))), (14, .int (nI (lsum (loM σ zk) (tn (mt zk))))), (13, .int (nI xd)), (12, .int (nI (tn (mt zk)))), (11, .int (nI xe)), (0, .ref (ad 10 0)), (1, .ref (ad 1 0)), (2, .ref (ad 2 0)), (3, .ref (ad 3 0)), (4, .ref (ad 4 0)), (5, .ref (ad 6 0)), (6, .ref (ad 7 0)), (10, .int (nI zk))]) dL_areMessages_484 (by decide) rfl ?_
                                                                  refine g_iinc F (v := (nI (zk + 1))) (lv1 := [(10, .int (nI (zk + 1))), (8, .int ((nI (edN σ zk)) + (bi (¬ (nI xe) = 0)))), (7, .int ((nI (dvN σ zk)) + (bi ((nI xe) = 1)))), (9, .int 1), (15, .int (nI (tn (mt zk)))), (14, .int (nI (lsum (loM σ zk) (tn (mt zk))))), (13, .int (nI xd)), (12, .int (nI (tn (mt zk)))), (11, .int (nI xe)), (0, .ref (ad 10 0)), (1, .ref (ad 1 0)), (2, .ref (ad 2 0)), (3, .ref (ad 3 0)), (4, .ref (ad 4 0)), (5, .ref (ad 6 0)), (6, .ref (ad 7 0))]) 15 dL_areMessages_486 rfl (nI_1 zk) (by decide) rfl ?_
                                                                  refine g_goto F (tgt := 123) dL_areMessages_489 (by decide) ?_
                                                                  refine g_lv (lv1 := [(0, .ref (ad 10 0)), (1, .ref (ad 1 0)), (2, .ref (ad 2 0)), (3, .ref (ad 3 0)), (4, .ref (ad 4 0)), (5, .ref (ad 6 0)), (6, .ref (ad 7 0)), (7, .int ((nI (dvN σ zk)) + (bi ((nI xe) = 1)))), (8, .int ((nI (edN σ zk)) + (bi (¬ (nI xe) = 0)))), (9, .int 1), (10, .int (nI (zk + 1)))]) [9, 10, 11, 12, 13, 14, 15, 2, 1, 3, 0] rfl ?_
                                                                  refine g_lve (lv1 := [(0, .ref (ad 10 0)), (1, .ref (ad 1 0)), (2, .ref (ad 2 0)), (3, .ref (ad 3 0)), (4, .ref (ad 4 0)), (5, .ref (ad 6 0)), (6, .ref (ad 7 0)), (7, .int (nI (dvN σ (zk + 1)))), (8, .int (nI (edN σ (zk + 1)))), (9, .int 1), (10, .int (nI (zk + 1)))]) (by rw [← dvN_b, ← edN_b, h23]) ?_
                                                                  have hv1 : lb 3 zk = 0 → ¬ xe = 0 → ((lb 6 (12 + xa)) + (if (lb 3 zk) = 0 then (if (nI xe) ≤ 0 then 0 else (lb 4 zk)) else 0 : Int32)) = lb 6 (12 + xa) + lb 4 zk := fun q1 q2 => by rw [if_pos q1, if_neg (fun q => absurd ((nI_leE (show nI xe = nI xe from rfl) (show (0 : Int32) = nI 0 by decide) (by omega) (by decide)).mp q) (by omega))]
                                                                  have hv2 : (¬ lb 3 zk = 0 ∨ xe = 0) → ((lb 6 (12 + xa)) + (if (lb 3 zk) = 0 then (if (nI xe) ≤ 0 then 0 else (lb 4 zk)) else 0 : Int32)) = lb 6 (12 + xa) := fun q => by
                                                                    by_cases q2 : lb 3 zk = 0
                                                                    · have q3 : xe = 0 := q.resolve_left (fun z => z q2)
                                                                      rw [if_pos q2, if_pos (by rw [q3]; decide)]; exact Int32.add_zero _
                                                                    · rw [if_neg q2]; exact Int32.add_zero _
                                                                  obtain ⟨hJc, hTc⟩ := hJb.set hz1 hTb ha4 h12 h23 he5 h24 (by omega) hv1 hv2
                                                                  refine g_widen (cells1 := ((((((((0 + 0) + 0) + 1) + 1) + 1) + 1) + 1) + 2) + 60 * (zk + 1)) (slots1 := ((((((((0 + 0) + 0) + 6) + 6) + 6) + 6) + 6) + 12) + 360 * (zk + 1)) (show (((((((((((((((((((0 + 0) + 0) + 1) + 1) + 1) + 1) + 1) + 2) + 60 * zk) + 1) + 1) + 1) + 32) + 1) + 2) + 2) + 1) + 1) + 2) ≤ ((((((((0 + 0) + 0) + 1) + 1) + 1) + 1) + 1) + 2) + 60 * (zk + 1) by omega) (show (((((((((((((((((((0 + 0) + 0) + 6) + 6) + 6) + 6) + 6) + 12) + 360 * zk) + 6) + 6) + 6) + 192) + 6) + 12) + 12) + 6) + 6) + 12) ≤ ((((((((0 + 0) + 0) + 6) + 6) + 6) + 6) + 6) + 12) + 360 * (zk + 1) by omega) ?_
                                                                  exact ih _ _ _ _ ⟨_, rfl, rfl, rfl, ⟨hJc, hTc⟩, rfl⟩
                                                                ·
                                                                  refine g_if_ne F (tgt := 482) dL_areMessages_475 (by decide) (fun zc36 => ?_) (fun zc36 => ?_)
                                                                  ·
                                                                    refine g_iconst F dL_areMessages_482 (v := 1) (by decide) ?_
                                                                    exact g_top (bi_t zc36) zhJ35
                                                                  ·
                                                                    refine g_iconst F dL_areMessages_478 (v := 0) (by decide) ?_
                                                                    refine g_goto F (tgt := 483) dL_areMessages_479 (by decide) ?_
                                                                    exact g_top (bi_f (fun q => q zc36)) zhJ35
                                                              ·
                                                                refine g_icmp_ne F (tgt := 467) dL_areMessages_460 (by decide) (fun zc37 => ?_) (fun zc37 => ?_)
                                                                ·
                                                                  refine g_iconst F dL_areMessages_467 (v := 0) (by decide) ?_
                                                                  exact g_top (bi_f zc37) zhJ34
                                                                ·
                                                                  refine g_iconst F dL_areMessages_463 (v := 1) (by decide) ?_
                                                                  refine g_goto F (tgt := 468) dL_areMessages_464 (by decide) ?_
                                                                  exact g_top (bi_t zc37) zhJ34
                                                            ·
                                                              refine g_if_ne F (tgt := 437) dL_areMessages_421 (by decide) (fun zc38 => ?_) (fun zc38 => ?_)
                                                              ·
                                                                refine g_iconst F dL_areMessages_437 (v := 0) (by decide) ?_
                                                                exact g_top (by rw [if_neg zc38]) zhJ33
                                                              ·
                                                                refine g_iload F 5 dL_areMessages_424 rfl ?_
                                                                refine g_if_le F (tgt := 437) dL_areMessages_426 (by decide) (fun zc39 => ?_) (fun zc39 => ?_)
                                                                ·
                                                                  refine g_iconst F dL_areMessages_437 (v := 0) (by decide) ?_
                                                                  exact g_top (by rw [if_pos zc38, if_pos zc39]) zhJ33
                                                                ·
                                                                  refine g_aload F 10 dL_areMessages_429 rfl ?_
                                                                  refine g_iload F 15 dL_areMessages_431 rfl ?_
                                                                  refine l_ld F (K := 4) (j := zk) (v := (lb 4 zk)) hd7 ⟨by decide, by decide⟩ rfl (show zk < 24 by omega) rfl dL_areMessages_433 ?_
                                                                  refine g_goto F (tgt := 438) dL_areMessages_434 (by decide) ?_
                                                                  exact g_top (by rw [if_pos zc38, if_neg zc39]) zhJ33
                                                          ·
                                                            refine g_if_ne F (tgt := 385) dL_areMessages_370 (by decide) (fun zc40 => ?_) (fun zc40 => ?_)
                                                            ·
                                                              have HW : ¬ σ 23 zk = 0 := fun q => zc40 (h23.symm.trans q)
                                                              refine g_aload_n F 5 dL_areMessages_385 rfl rfl ?_
                                                              refine g_bipush F dL_areMessages_386 (v := 6) (by decide) ?_
                                                              refine g_iload F 15 dL_areMessages_388 rfl ?_
                                                              refine g_iconst F dL_areMessages_390 (v := 0) (by decide) ?_
                                                              refine lq_asks F (rest := []) (lk_dueS l D A cs ad dm σ Lx cap mk ev zl tx mt tn tc (lwd cs lb wz) n tq hC hn40 hL hlo hfl (nI zk) 0 (mg_in (show zk < n by omega) (by omega)) (by rw [ix_nI (show zk < 2 ^ 31 by omega)]; exact HW)) (vx_cwSW 4 F.1.2.2.2.2 gL_areMessages_L_asks rfl rfl rfl (by decide +kernel) ⟨Nat.le_of_ble_eq_true rfl, Nat.le_of_ble_eq_true rfl⟩) (Nat.le_of_ble_eq_true rfl) dL_areMessages_391 ⟨show ((((((((((((((((((0 + 0) + 0) + 1) + 1) + 1) + 1) + 1) + 2) + 60 * zk) + 1) + 1) + 1) + 32) + 1) + 2) + 2) + 1) + 1) + 2 ≤ 1500 by omega, show ((((((((((((((((((0 + 0) + 0) + 6) + 6) + 6) + 6) + 6) + 12) + 360 * zk) + 6) + 6) + 6) + 192) + 6) + 12) + 12) + 6) + 6) + 12 ≤ 9000 by omega⟩ ?_
                                                              refine g_bipush F dL_areMessages_394 (v := -10) (by decide) ?_
                                                              refine g_icmp_ne F (tgt := 403) dL_areMessages_396 (by decide) (fun zc41 => ?_) (fun zc41 => ?_)
                                                              ·
                                                                exact absurd rfl zc41
                                                              ·
                                                                exact zhJ32
                                                            ·
                                                              have HW : σ 23 zk = 0 := h23.trans zc40
                                                              refine g_aload_n F 5 dL_areMessages_373 rfl rfl ?_
                                                              refine g_iload F 15 dL_areMessages_374 rfl ?_
                                                              refine lq_due F hC hn40 hL hlo hfl (k := zk) (by omega) HW (v := (nI xu)) h26 (cwV 1 F.1.2.2.2.2 gL_areMessages_X5_due rfl rfl rfl (by decide +kernel) ⟨Nat.le_of_ble_eq_true rfl, Nat.le_of_ble_eq_true rfl⟩) (Nat.le_of_ble_eq_true rfl) dL_areMessages_376 ⟨show ((((((((((((((((((0 + 0) + 0) + 1) + 1) + 1) + 1) + 1) + 2) + 60 * zk) + 1) + 1) + 1) + 32) + 1) + 2) + 2) + 1) + 1) + 2 ≤ 1500 by omega, show ((((((((((((((((((0 + 0) + 0) + 6) + 6) + 6) + 6) + 6) + 12) + 360 * zk) + 6) + 6) + 6) + 192) + 6) + 12) + 12) + 6) + 6) + 12 ≤ 9000 by omega⟩ ?_
                                                              refine g_if_lt F (tgt := 403) dL_areMessages_379 (by decide) (fun zc42 => ?_) (fun zc42 => ?_)
                                                              ·
                                                                exact absurd ((nI_ltE (show (nI xu) = nI xu from rfl) (show 0 = nI 0 from rfl) (by omega) (by omega)).mp zc42) (by omega)
                                                              ·
                                                                refine g_goto F (tgt := 399) dL_areMessages_382 (by decide) ?_
                                                                exact zhJ32
                                                        ·
                                                          refine g_icmp_ne F (tgt := 368) dL_areMessages_354 (by decide) (fun zc43 => ?_) (fun zc43 => ?_)
                                                          ·
                                                            exact g_widen (show (((((((((((((((((0 + 0) + 0) + 1) + 1) + 1) + 1) + 1) + 2) + 60 * zk) + 1) + 1) + 1) + 32) + 1) + 2) + 2) + 1) ≤ ((((((((((((((((((0 + 0) + 0) + 1) + 1) + 1) + 1) + 1) + 2) + 60 * zk) + 1) + 1) + 1) + 32) + 1) + 2) + 2) + 1) + 1) by omega) (show (((((((((((((((((0 + 0) + 0) + 6) + 6) + 6) + 6) + 6) + 12) + 360 * zk) + 6) + 6) + 6) + 192) + 6) + 12) + 12) + 6) ≤ ((((((((((((((((((0 + 0) + 0) + 6) + 6) + 6) + 6) + 6) + 12) + 360 * zk) + 6) + 6) + 6) + 192) + 6) + 12) + 12) + 6) + 6) by omega) zhJ31
                                                          ·
                                                            have hq4 := h4 ((nI_eqE (show nI xe = nI xe from rfl) (show (4 : Int32) = nI 4 from rfl) (by omega) (by decide)).mp zc43)
                                                            refine g_aload_n F 5 dL_areMessages_357 rfl rfl ?_
                                                            refine g_iload F 15 dL_areMessages_358 rfl ?_
                                                            refine lq_attempts F hC hn40 hL hlo hfl (k := zk) (by omega) (v := (nI xq)) h25 (cwV 1 F.1.2.2.2.2 gL_areMessages_X5_attempts rfl rfl rfl (by decide +kernel) ⟨Nat.le_of_ble_eq_true rfl, Nat.le_of_ble_eq_true rfl⟩) (Nat.le_of_ble_eq_true rfl) dL_areMessages_360 ⟨show (((((((((((((((((0 + 0) + 0) + 1) + 1) + 1) + 1) + 1) + 2) + 60 * zk) + 1) + 1) + 1) + 32) + 1) + 2) + 2) + 1) + 1 ≤ 1500 by omega, show (((((((((((((((((0 + 0) + 0) + 6) + 6) + 6) + 6) + 6) + 12) + 360 * zk) + 6) + 6) + 6) + 192) + 6) + 12) + 12) + 6) + 6 ≤ 9000 by omega⟩ ?_
                                                            refine g_iload F 2 dL_areMessages_363 rfl ?_
                                                            refine g_icmp_le F (tgt := 403) dL_areMessages_365 (by decide) (fun zc44 => ?_) (fun zc44 => ?_)
                                                            ·
                                                              exact absurd ((nI_leE (show (nI xq) = nI xq from rfl) (show (nI xd) = nI xd from rfl) (by omega) (by omega)).mp zc44) (by omega)
                                                            ·
                                                              exact zhJ31
                                                  ·
                                                    refine g_icmp_ne F (tgt := 336) dL_areMessages_329 (by decide) (fun zc45 => ?_) (fun zc45 => ?_)
                                                    ·
                                                      refine g_iconst F dL_areMessages_336 (v := 0) (by decide) ?_
                                                      exact g_top (bi_f zc45) zhJ28
                                                    ·
                                                      refine g_iconst F dL_areMessages_332 (v := 1) (by decide) ?_
                                                      refine g_goto F (tgt := 337) dL_areMessages_333 (by decide) ?_
                                                      exact g_top (bi_t zc45) zhJ28
                                                ·
                                                  refine g_icmp_ne F (tgt := 324) dL_areMessages_317 (by decide) (fun zc46 => ?_) (fun zc46 => ?_)
                                                  ·
                                                    refine g_iconst F dL_areMessages_324 (v := 0) (by decide) ?_
                                                    exact g_top (bi_f zc46) zhJ27
                                                  ·
                                                    refine g_iconst F dL_areMessages_320 (v := 1) (by decide) ?_
                                                    refine g_goto F (tgt := 325) dL_areMessages_321 (by decide) ?_
                                                    exact g_top (bi_t zc46) zhJ27
                                    ·
                                      refine g_if_eq F (tgt := 259) dL_areMessages_247 (by decide) (fun zc47 => ?_) (fun zc47 => ?_)
                                      ·
                                        exact zhJ21
                                      ·
                                        refine g_iload F 4 dL_areMessages_250 rfl ?_
                                        refine g_aload_n F 8 dL_areMessages_252 rfl rfl ?_
                                        refine g_iload F 15 dL_areMessages_253 rfl ?_
                                        refine l_ld F (K := 3) (j := zk) (v := (lb 3 zk)) hd7 ⟨by decide, by decide⟩ rfl (show zk < 48 by omega) rfl dL_areMessages_255 ?_
                                        refine g_icmp_ne F (tgt := 403) dL_areMessages_256 (by decide) (fun zc48 => ?_) (fun zc48 => ?_)
                                        ·
                                          exact absurd (hT3.resolve_left zc47).symm zc48
                                        ·
                                          exact zhJ21
                          ·
                            exact absurd ((nI_leE (show (nI (tn (mt zk))) = nI (tn (mt zk)) from rfl) (show (nI (tn (mt zk))) = nI (tn (mt zk)) from rfl) (by omega) (by omega)).mpr (by omega)) zc16
                        ·
                          intro ad1 dm1 w1 lv1 h9
                          obtain ⟨rfl, rfl, rfl, rfl⟩ := h9
                          show GG p l e _ s m _ below meth c D A ad dm _ (((((((((((((0 + 0) + 0) + 1) + 1) + 1) + 1) + 1) + 2) + 60 * zk) + 1) + 1) + 1) + 4 * zj) (((((((((((((0 + 0) + 0) + 6) + 6) + 6) + 6) + 6) + 12) + 360 * zk) + 6) + 6) + 6) + 24 * zj) _ (cw D ad cs σ Lx cap mk ev zl tx mt tn tc (lwd cs lb wz)) 167 [(15, .int (nI zj)), (14, .int (nI (lsum (loM σ zk) zj))), (13, .int (nI xd)), (12, .int (nI (tn (mt zk)))), (11, .int (nI xe)), (0, .ref (ad 10 0)), (1, .ref (ad 1 0)), (2, .ref (ad 2 0)), (3, .ref (ad 3 0)), (4, .ref (ad 4 0)), (5, .ref (ad 6 0)), (6, .ref (ad 7 0)), (7, .int (nI (dvN σ zk))), (8, .int (nI (edN σ zk))), (9, .int 1), (10, .int (nI zk))] []
                          have hlj := hlt zj hj1
                          have hlm1 := hlm zj (by omega)
                          refine g_iload F 0 dL_areMessages_167 rfl ?_
                          refine g_iload F 3 dL_areMessages_169 rfl ?_
                          refine g_icmp_ge F (tgt := 216) dL_areMessages_171 (by decide) (fun zc49 => ?_) (fun zc49 => ?_)
                          ·
                            exact absurd ((nI_leE (show (nI (tn (mt zk))) = nI (tn (mt zk)) from rfl) (show (nI zj) = nI zj from rfl) (by omega) (by omega)).mp zc49) (by omega)
                          ·
                            refine g_iload F 1 dL_areMessages_174 rfl ?_
                            refine g_aload_n F 5 dL_areMessages_176 rfl rfl ?_
                            refine g_iload F 15 dL_areMessages_177 rfl ?_
                            refine g_iload F 0 dL_areMessages_179 rfl ?_
                            refine lq_lettersIn F hC hn40 hL hlo hfl hmt (k := zk) (j := zj) (by omega) (by omega) (v := (nI (loM σ zk zj))) (hlt zj (by omega)).1 (cwV 2 F.1.2.2.2.2 gL_areMessages_X5_lettersIn rfl rfl rfl (by decide +kernel) ⟨Nat.le_of_ble_eq_true rfl, Nat.le_of_ble_eq_true rfl⟩) (Nat.le_of_ble_eq_true rfl) dL_areMessages_181 ⟨show (((((((((((((0 + 0) + 0) + 1) + 1) + 1) + 1) + 1) + 2) + 60 * zk) + 1) + 1) + 1) + 4 * zj) + 2 ≤ 1500 by omega, show (((((((((((((0 + 0) + 0) + 6) + 6) + 6) + 6) + 6) + 12) + 360 * zk) + 6) + 6) + 6) + 24 * zj) + 12 ≤ 9000 by omega⟩ ?_
                            refine g_iadd F dL_areMessages_184 ?_
                            refine g_istore F (lv1 := [(14, .int ((nI (lsum (loM σ zk) zj)) + (nI (loM σ zk zj)))), (15, .int (nI zj)), (13, .int (nI xd)), (12, .int (nI (tn (mt zk)))), (11, .int (nI xe)), (0, .ref (ad 10 0)), (1, .ref (ad 1 0)), (2, .ref (ad 2 0)), (3, .ref (ad 3 0)), (4, .ref (ad 4 0)), (5, .ref (ad 6 0)), (6, .ref (ad 7 0)), (7, .int (nI (dvN σ zk))), (8, .int (nI (edN σ zk))), (9, .int 1), (10, .int (nI zk))]) dL_areMessages_185 (by decide) rfl ?_
                            refine g_iload F 14 dL_areMessages_187 rfl ?_
                            refine g_if_eq F (tgt := 207) dL_areMessages_189 (by decide) (fun zc50 => ?_) (fun zc50 => ?_)
                            ·
                              exact absurd ((nI_eqE (show 1 = nI 1 from rfl) (show 0 = nI 0 from rfl) (by omega) (by omega)).mp zc50) (by omega)
                            ·
                              refine g_aload_n F 5 dL_areMessages_192 rfl rfl ?_
                              refine g_iload F 15 dL_areMessages_193 rfl ?_
                              refine g_iload F 1 dL_areMessages_195 rfl ?_
                              refine lq_lettersIn F hC hn40 hL hlo hfl hmt (k := zk) (j := zj) (by omega) (by omega) (v := (nI (loM σ zk zj))) (hlt zj (by omega)).1 (cwV 2 F.1.2.2.2.2 gL_areMessages_X5_lettersIn rfl rfl rfl (by decide +kernel) ⟨Nat.le_of_ble_eq_true rfl, Nat.le_of_ble_eq_true rfl⟩) (Nat.le_of_ble_eq_true rfl) dL_areMessages_197 ⟨show ((((((((((((((0 + 0) + 0) + 1) + 1) + 1) + 1) + 1) + 2) + 60 * zk) + 1) + 1) + 1) + 4 * zj) + 2) + 2 ≤ 1500 by omega, show ((((((((((((((0 + 0) + 0) + 6) + 6) + 6) + 6) + 6) + 12) + 360 * zk) + 6) + 6) + 6) + 24 * zj) + 12) + 12 ≤ 9000 by omega⟩ ?_
                              refine g_if_le F (tgt := 207) dL_areMessages_200 (by decide) (fun zc51 => ?_) (fun zc51 => ?_)
                              ·
                                exact absurd ((nI_leE (show (nI (loM σ zk zj)) = nI (loM σ zk zj) from rfl) (show 0 = nI 0 from rfl) (by omega) (by omega)).mp zc51) (by omega)
                              ·
                                refine g_iconst F dL_areMessages_203 (v := 1) (by decide) ?_
                                refine g_goto F (tgt := 208) dL_areMessages_204 (by decide) ?_
                                refine g_istore F (lv1 := [(9, .int 1), (14, .int ((nI (lsum (loM σ zk) zj)) + (nI (loM σ zk zj)))), (15, .int (nI zj)), (13, .int (nI xd)), (12, .int (nI (tn (mt zk)))), (11, .int (nI xe)), (0, .ref (ad 10 0)), (1, .ref (ad 1 0)), (2, .ref (ad 2 0)), (3, .ref (ad 3 0)), (4, .ref (ad 4 0)), (5, .ref (ad 6 0)), (6, .ref (ad 7 0)), (7, .int (nI (dvN σ zk))), (8, .int (nI (edN σ zk))), (10, .int (nI zk))]) dL_areMessages_208 (by decide) rfl ?_
                                refine g_iinc F (v := (nI (zj + 1))) (lv1 := [(15, .int (nI (zj + 1))), (9, .int 1), (14, .int ((nI (lsum (loM σ zk) zj)) + (nI (loM σ zk zj)))), (13, .int (nI xd)), (12, .int (nI (tn (mt zk)))), (11, .int (nI xe)), (0, .ref (ad 10 0)), (1, .ref (ad 1 0)), (2, .ref (ad 2 0)), (3, .ref (ad 3 0)), (4, .ref (ad 4 0)), (5, .ref (ad 6 0)), (6, .ref (ad 7 0)), (7, .int (nI (dvN σ zk))), (8, .int (nI (edN σ zk))), (10, .int (nI zk))]) 2 dL_areMessages_210 rfl (nI_1 zj) (by decide) rfl ?_
                                refine g_goto F (tgt := 167) dL_areMessages_213 (by decide) ?_
                                refine g_lv (lv1 := [(15, .int (nI (zj + 1))), (14, .int ((nI (lsum (loM σ zk) zj)) + (nI (loM σ zk zj)))), (13, .int (nI xd)), (12, .int (nI (tn (mt zk)))), (11, .int (nI xe)), (0, .ref (ad 10 0)), (1, .ref (ad 1 0)), (2, .ref (ad 2 0)), (3, .ref (ad 3 0)), (4, .ref (ad 4 0)), (5, .ref (ad 6 0)), (6, .ref (ad 7 0)), (7, .int (nI (dvN σ zk))), (8, .int (nI (edN σ zk))), (9, .int 1), (10, .int (nI zk))]) [0, 2, 3, 4, 5, 6, 7, 8, 9, 10, 11, 12, 13, 14, 1, 15] rfl ?_
                                refine g_lve (lv1 := [(15, .int (nI (zj + 1))), (14, .int (nI (lsum (loM σ zk) (zj + 1)))), (13, .int (nI xd)), (12, .int (nI (tn (mt zk)))), (11, .int (nI xe)), (0, .ref (ad 10 0)), (1, .ref (ad 1 0)), (2, .ref (ad 2 0)), (3, .ref (ad 3 0)), (4, .ref (ad 4 0)), (5, .ref (ad 6 0)), (6, .ref (ad 7 0)), (7, .int (nI (dvN σ zk))), (8, .int (nI (edN σ zk))), (9, .int 1), (10, .int (nI zk))]) (by rw [nI_add]; rfl) ?_
                                refine g_widen (cells1 := ((((((((((((0 + 0) + 0) + 1) + 1) + 1) + 1) + 1) + 2) + 60 * zk) + 1) + 1) + 1) + 4 * (zj + 1)) (slots1 := ((((((((((((0 + 0) + 0) + 6) + 6) + 6) + 6) + 6) + 12) + 360 * zk) + 6) + 6) + 6) + 24 * (zj + 1)) (show (((((((((((((((0 + 0) + 0) + 1) + 1) + 1) + 1) + 1) + 2) + 60 * zk) + 1) + 1) + 1) + 4 * zj) + 2) + 2) ≤ ((((((((((((0 + 0) + 0) + 1) + 1) + 1) + 1) + 1) + 2) + 60 * zk) + 1) + 1) + 1) + 4 * (zj + 1) by omega) (show (((((((((((((((0 + 0) + 0) + 6) + 6) + 6) + 6) + 6) + 12) + 360 * zk) + 6) + 6) + 6) + 24 * zj) + 12) + 12) ≤ ((((((((((((0 + 0) + 0) + 6) + 6) + 6) + 6) + 6) + 12) + 360 * zk) + 6) + 6) + 6) + 24 * (zj + 1) by omega) ?_
                                exact ihj _ _ _ _ ⟨rfl, rfl, rfl, rfl⟩
