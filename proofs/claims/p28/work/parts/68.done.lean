theorem opt_1 {rf : Int32} (h : rf = (-1) ∨ ∃ y, y ≤ 100 ∧ rf = nI y) : (rf = (-1) ∨ inR rf 0 99) ↔ ¬ (100 : Int32) ≤ rf := by
  rcases h with rfl | ⟨y, hy, rfl⟩
  · exact ⟨fun _ => by decide, fun _ => .inl rfl⟩
  · rw [inr_n (x := y) (u := 0) (v := 99) (a := 0) (b := 99) rfl rfl (by omega) (by decide) (by decide), nI_leE (show (100 : Int32) = nI 100 from rfl) (show nI y = nI y from rfl) (by decide) (by omega)]
    constructor
    · intro q
      rcases q with q | q
      · exact absurd q (nI_n1 (by omega))
      · omega
    · exact fun q => .inr (by omega)
set_option maxHeartbeats 4000000 in
set_option maxRecDepth 100000 in
theorem lw_isDone (l : Launch) (D : va_G) (A : Nat → Prop) (cs : Nat → ClassId) (ad : Nat → Nat → Nat) (dm : Nat → Nat → Prop) (σ : SG) (Lx : Nat → List Nat) (cap : Nat → Nat) (mk : Nat → Int32) (ev : SG) (zl tx mt tn : Nat → Nat) (tc : SG) (la : SG) (wz : CF) (n tq t : Nat) (kt rd : Nat → Nat) (hC : CD dm n cap tq) (hd7 : ∀ k, 1 ≤ k → k ≤ 7 → dm k 0) (hlo : LO n Lx cap) (hI : INV n tq t σ Lx ev zl tx mt tn tc) (hJ : LJ n t σ la Lx kt rd) (htb : t ≤ 100000) (hfl : l.stackTraces = false) (ka : Nat) (hka : ka ≤ 300) (hT : LT n σ la) (hn22 : n ≤ 22) : Met l yL_isDone wsL_isDone ({ frames := 13, cells := 110, slots := 3100, locals := 383 }) (va_Pc [.ref (ad 10 0), .ref (D.2 100 40), .int (nI ka), .ref (ad 1 0), .ref (ad 2 0), .ref (ad 3 0), .ref (ad 4 0), .ref (ad 5 0), .ref (ad 6 0), .ref (ad 7 0)] (PW D A (tysG cs) ad dm (cw D ad cs σ Lx cap mk ev zl tx mt tn tc (lwd cs la wz)))) (QW D A (tysG cs) (fun rz ad1 dm1 w1 => rz = some (.int 1) ∧ PS D cs (fun k => ad k 0) (t + 100) ad1 dm1 w1)) 110 3100 A := by
  refine g_start (own := RL) [.ref (ad 10 0), .ref (D.2 100 40), .int (nI ka), .ref (ad 1 0), .ref (ad 2 0), .ref (ad 3 0), .ref (ad 4 0), .ref (ad 5 0), .ref (ad 6 0), .ref (ad 7 0)] (cc := cL_isDone) (maxL := 18) (ret := (some .boolean)) (lv0 := [(0, .ref (ad 10 0)), (1, .ref (D.2 100 40)), (2, .int (nI ka)), (3, .ref (ad 1 0)), (4, .ref (ad 2 0)), (5, .ref (ad 3 0)), (6, .ref (ad 4 0)), (7, .ref (ad 5 0)), (8, .ref (ad 6 0)), (9, .ref (ad 7 0))]) (by decide) rfl rfl (Nat.le_of_ble_eq_true rfl) rfl ?_
  intro p e s m below meth c F hr hlocks hno
  have hn40 : n ≤ 40 := hI.1
  have hn23 : n ≤ 23 := hJ.1
  have hL : Lx 0 = List.range n := hI.2.2.1.2.1.1.1
  have hmt := hI.hmt
  have hmm : ∀ j, j < n → okM σ j := hI.2.2.1.2.2.2.2
  have hlg : ∀ j, j < n → zl j ≤ elen σ j ∧ elen σ j ≤ 1000 := fun j hj => ⟨(hI.2.2.1.2.2.1 j hj).2.2.2, by have := (hmm j hj).2.2.2.2.2; unfold elen; omega⟩
  have hg0 : la 7 0 = nI n := hJ.2.1
  have hg1 : la 7 1 = nI t := hJ.2.2.1
  have hnow : σ 0 0 = nI t := hI.2.2.1.2.1.2.2.2.1
  refine g_forget (dm1 := rs9 dm n tq) (ad1 := ad) (w1 := (cw D ad cs σ Lx cap mk ev zl tx mt tn tc (lwd cs la wz))) (fun k i q => q.1) (fun _ _ _ => rfl) (fun _ _ _ => rfl) ?_
  have hC9 := rs9_CD hC
  have hub := rs9_UB dm n tq
  have hd79 : ∀ k, 1 ≤ k → k ≤ 7 → rs9 dm n tq k 0 := fun k h1 h2 => ⟨hd7 k h1 h2, .inl (by omega)⟩
  generalize rs9 dm n tq = d9 at hC9 hub hd79 ⊢
  refine g_aload_n F 1 dL_isDone_0 rfl rfl ?_
  refine g_iload_n F 2 dL_isDone_1 rfl rfl ?_
  refine g_bipush F dL_isDone_2 (v := 40) (by decide) ?_
  refine g_top (y := nI 40) rfl ?_
  refine q_callS F (rest := []) [.ref (D.2 100 40), .int (nI ka), .int (nI 40)] (lp_part l D A cs ad d9 (cw D ad cs σ Lx cap mk ev zl tx mt tn tc (lwd cs la wz)) (k := ka) (d := 40) (by omega) ⟨by decide, by decide⟩) (va_cwS 3 F.1.2.2.2.2 gL_isDone_L_part rfl rfl rfl (by decide +kernel) ⟨Nat.le_of_ble_eq_true rfl, Nat.le_of_ble_eq_true rfl⟩) rfl rfl (Nat.le_of_ble_eq_true rfl) dL_isDone_4 ⟨show 0 + 0 ≤ 110 by omega, show 0 + 0 ≤ 3100 by omega⟩ (fun _ _ _ _ hv => ?_)
  obtain ⟨⟨o0, ho0, rfl⟩, rfl, rfl, rfl⟩ := hv
  refine g_st (st1 := [.int (nI o0)]) rfl ?_
  refine g_istore F (lv1 := [(10, .int (nI o0)), (0, .ref (ad 10 0)), (1, .ref (D.2 100 40)), (2, .int (nI ka)), (3, .ref (ad 1 0)), (4, .ref (ad 2 0)), (5, .ref (ad 3 0)), (6, .ref (ad 4 0)), (7, .ref (ad 5 0)), (8, .ref (ad 6 0)), (9, .ref (ad 7 0))]) dL_isDone_7 (by decide) rfl ?_
  refine g_aload_n F 2 dL_isDone_9 rfl rfl ?_
  refine g_iload_n F 3 dL_isDone_10 rfl rfl ?_
  refine g_iconst F dL_isDone_11 (v := 1) (by decide) ?_
  refine g_iadd F dL_isDone_12 ?_
  refine g_top (y := (nI (ka + 1))) (Eq.symm (nI_addE (show (nI ka) = nI ka from rfl) (show 1 = nI 1 from rfl))) ?_
  refine g_sipush F dL_isDone_13 (v := 6000) (by decide) ?_
  refine g_top (y := nI 6000) rfl ?_
  refine q_callS F (rest := []) [.ref (D.2 100 40), .int (nI (ka + 1)), .int (nI 6000)] (lp_part l D A cs ad d9 (cw D ad cs σ Lx cap mk ev zl tx mt tn tc (lwd cs la wz)) (k := (ka + 1)) (d := 6000) (by omega) ⟨by decide, by decide⟩) (va_cwS 3 F.1.2.2.2.2 gL_isDone_L_part rfl rfl rfl (by decide +kernel) ⟨Nat.le_of_ble_eq_true rfl, Nat.le_of_ble_eq_true rfl⟩) rfl rfl (Nat.le_of_ble_eq_true rfl) dL_isDone_16 ⟨show (0 + 0) + 0 ≤ 110 by omega, show (0 + 0) + 0 ≤ 3100 by omega⟩ (fun _ _ _ _ hv => ?_)
  obtain ⟨⟨o1, ho1, rfl⟩, rfl, rfl, rfl⟩ := hv
  refine g_st (st1 := [.int (nI o1)]) rfl ?_
  refine g_istore F (lv1 := [(11, .int (nI o1)), (10, .int (nI o0)), (0, .ref (ad 10 0)), (1, .ref (D.2 100 40)), (2, .int (nI ka)), (3, .ref (ad 1 0)), (4, .ref (ad 2 0)), (5, .ref (ad 3 0)), (6, .ref (ad 4 0)), (7, .ref (ad 5 0)), (8, .ref (ad 6 0)), (9, .ref (ad 7 0))]) dL_isDone_19 (by decide) rfl ?_
  refine g_aload_n F 3 dL_isDone_21 rfl rfl ?_
  refine g_iload_n F 4 dL_isDone_22 rfl rfl ?_
  refine g_iconst F dL_isDone_23 (v := 2) (by decide) ?_
  refine g_iadd F dL_isDone_24 ?_
  refine g_top (y := (nI (ka + 2))) (Eq.symm (nI_addE (show (nI ka) = nI ka from rfl) (show 2 = nI 2 from rfl))) ?_
  refine g_sipush F dL_isDone_25 (v := 7000) (by decide) ?_
  refine g_top (y := nI 7000) rfl ?_
  refine q_callS F (rest := []) [.ref (D.2 100 40), .int (nI (ka + 2)), .int (nI 7000)] (lp_part l D A cs ad d9 (cw D ad cs σ Lx cap mk ev zl tx mt tn tc (lwd cs la wz)) (k := (ka + 2)) (d := 7000) (by omega) ⟨by decide, by decide⟩) (va_cwS 3 F.1.2.2.2.2 gL_isDone_L_part rfl rfl rfl (by decide +kernel) ⟨Nat.le_of_ble_eq_true rfl, Nat.le_of_ble_eq_true rfl⟩) rfl rfl (Nat.le_of_ble_eq_true rfl) dL_isDone_28 ⟨show ((0 + 0) + 0) + 0 ≤ 110 by omega, show ((0 + 0) + 0) + 0 ≤ 3100 by omega⟩ (fun _ _ _ _ hv => ?_)
  obtain ⟨⟨o2, ho2, rfl⟩, rfl, rfl, rfl⟩ := hv
  refine g_st (st1 := [.int (nI o2)]) rfl ?_
  refine g_istore F (lv1 := [(12, .int (nI o2)), (11, .int (nI o1)), (10, .int (nI o0)), (0, .ref (ad 10 0)), (1, .ref (D.2 100 40)), (2, .int (nI ka)), (3, .ref (ad 1 0)), (4, .ref (ad 2 0)), (5, .ref (ad 3 0)), (6, .ref (ad 4 0)), (7, .ref (ad 5 0)), (8, .ref (ad 6 0)), (9, .ref (ad 7 0))]) dL_isDone_31 (by decide) rfl ?_
  refine g_aload_n F 4 dL_isDone_33 rfl rfl ?_
  refine g_iload_n F 5 dL_isDone_34 rfl rfl ?_
  refine g_iconst F dL_isDone_35 (v := 3) (by decide) ?_
  refine g_iadd F dL_isDone_36 ?_
  refine g_top (y := (nI (ka + 3))) (Eq.symm (nI_addE (show (nI ka) = nI ka from rfl) (show 3 = nI 3 from rfl))) ?_
  refine g_sipush F dL_isDone_37 (v := 8000) (by decide) ?_
  refine g_top (y := nI 8000) rfl ?_
  refine q_callS F (rest := []) [.ref (D.2 100 40), .int (nI (ka + 3)), .int (nI 8000)] (lp_part l D A cs ad d9 (cw D ad cs σ Lx cap mk ev zl tx mt tn tc (lwd cs la wz)) (k := (ka + 3)) (d := 8000) (by omega) ⟨by decide, by decide⟩) (va_cwS 3 F.1.2.2.2.2 gL_isDone_L_part rfl rfl rfl (by decide +kernel) ⟨Nat.le_of_ble_eq_true rfl, Nat.le_of_ble_eq_true rfl⟩) rfl rfl (Nat.le_of_ble_eq_true rfl) dL_isDone_40 ⟨show (((0 + 0) + 0) + 0) + 0 ≤ 110 by omega, show (((0 + 0) + 0) + 0) + 0 ≤ 3100 by omega⟩ (fun _ _ _ _ hv => ?_)
  obtain ⟨⟨o3, ho3, rfl⟩, rfl, rfl, rfl⟩ := hv
  refine g_st (st1 := [.int (nI o3)]) rfl ?_
  refine g_istore F (lv1 := [(13, .int (nI o3)), (12, .int (nI o2)), (11, .int (nI o1)), (10, .int (nI o0)), (0, .ref (ad 10 0)), (1, .ref (D.2 100 40)), (2, .int (nI ka)), (3, .ref (ad 1 0)), (4, .ref (ad 2 0)), (5, .ref (ad 3 0)), (6, .ref (ad 4 0)), (7, .ref (ad 5 0)), (8, .ref (ad 6 0)), (9, .ref (ad 7 0))]) dL_isDone_43 (by decide) rfl ?_
  refine g_iload F 3 dL_isDone_45 rfl ?_
  refine g_iconst F dL_isDone_47 (v := 4) (by decide) ?_
  refine g_icmp_ge F (tgt := 64) dL_isDone_48 (by decide) (fun zc1 => ?_) (fun zc1 => ?_)
  ·
    have zc1n : 4 ≤ o0 := (nI_leE (show 4 = nI 4 from rfl) (show (nI o0) = nI o0 from rfl) (by omega) (by omega)).mp zc1
    refine g_iload F 3 dL_isDone_64 rfl ?_
    refine g_bipush F dL_isDone_66 (v := 7) (by decide) ?_
    refine g_icmp_ge F (tgt := 200) dL_isDone_68 (by decide) (fun zc2 => ?_) (fun zc2 => ?_)
    ·
      have zc2n : 7 ≤ o0 := (nI_leE (show 7 = nI 7 from rfl) (show (nI o0) = nI o0 from rfl) (by omega) (by omega)).mp zc2
      refine g_iload F 3 dL_isDone_200 rfl ?_
      refine g_bipush F dL_isDone_202 (v := 9) (by decide) ?_
      refine g_icmp_ge F (tgt := 311) dL_isDone_204 (by decide) (fun zc3 => ?_) (fun zc3 => ?_)
      ·
        have zc3n : 9 ≤ o0 := (nI_leE (show 9 = nI 9 from rfl) (show (nI o0) = nI o0 from rfl) (by omega) (by omega)).mp zc3
        refine g_iload F 3 dL_isDone_311 rfl ?_
        refine g_bipush F dL_isDone_313 (v := 20) (by decide) ?_
        refine g_icmp_ge F (tgt := 340) dL_isDone_315 (by decide) (fun zc4 => ?_) (fun zc4 => ?_)
        ·
          have zc4n : 20 ≤ o0 := (nI_leE (show 20 = nI 20 from rfl) (show (nI o0) = nI o0 from rfl) (by omega) (by omega)).mp zc4
          refine g_iload F 3 dL_isDone_340 rfl ?_
          refine g_bipush F dL_isDone_342 (v := 22) (by decide) ?_
          refine g_icmp_ge F (tgt := 431) dL_isDone_344 (by decide) (fun zc5 => ?_) (fun zc5 => ?_)
          ·
            have zc5n : 22 ≤ o0 := (nI_leE (show 22 = nI 22 from rfl) (show (nI o0) = nI o0 from rfl) (by omega) (by omega)).mp zc5
            refine g_iload F 3 dL_isDone_431 rfl ?_
            refine g_bipush F dL_isDone_433 (v := 31) (by decide) ?_
            refine g_icmp_ge F (tgt := 475) dL_isDone_435 (by decide) (fun zc6 => ?_) (fun zc6 => ?_)
            ·
              have zc6n : 31 ≤ o0 := (nI_leE (show 31 = nI 31 from rfl) (show (nI o0) = nI o0 from rfl) (by omega) (by omega)).mp zc6
              refine g_iload F 3 dL_isDone_475 rfl ?_
              refine g_bipush F dL_isDone_477 (v := 37) (by decide) ?_
              refine g_icmp_ge F (tgt := 514) dL_isDone_479 (by decide) (fun zc7 => ?_) (fun zc7 => ?_)
              ·
                have zc7n : 37 ≤ o0 := (nI_leE (show 37 = nI 37 from rfl) (show (nI o0) = nI o0 from rfl) (by omega) (by omega)).mp zc7
                refine g_aload_n F 4 dL_isDone_514 rfl rfl ?_
                refine g_aload_n F 7 dL_isDone_515 rfl rfl ?_
                refine g_aload F 9 dL_isDone_516 rfl ?_
                refine g_aload F 10 dL_isDone_518 rfl ?_
                refine g_aload F 12 dL_isDone_520 rfl ?_
                refine g_aload F 13 dL_isDone_522 rfl ?_
                refine g_iload F 2 dL_isDone_524 rfl ?_
                refine g_iconst F dL_isDone_526 (v := 5) (by decide) ?_
                refine g_irem F dL_isDone_527 (by decide) ?_
                refine g_top (y := (nI (o1 % 5))) (Eq.symm (by rw [show (nI o1) = nI o1 from rfl, show 5 = nI 5 from rfl]; exact pk_rem (by omega) (by omega) (by omega))) ?_
                refine q_callS F (rest := []) [.ref (ad 10 0), .ref (ad 1 0), .ref (ad 3 0), .ref (ad 4 0), .ref (ad 6 0), .ref (ad 7 0), .int (nI (o1 % 5))] (lw_isReceipt l D A cs ad d9 σ Lx cap mk ev zl tx mt tn tc la wz n tq t kt rd hC9 hd79 hlo hI hJ htb hfl (o1 % 5) (by omega) hT) (va_cwS 7 F.1.2.2.2.2 gL_isDone_L_isReceipt rfl rfl rfl (by decide +kernel) ⟨Nat.le_of_ble_eq_true rfl, Nat.le_of_ble_eq_true rfl⟩) rfl rfl (Nat.le_of_ble_eq_true rfl) dL_isDone_528 ⟨show ((((0 + 0) + 0) + 0) + 0) + 5 ≤ 110 by omega, show ((((0 + 0) + 0) + 0) + 0) + 34 ≤ 3100 by omega⟩ (fun _ _ _ _ hv => ?_)
                obtain ⟨rfl, hPS⟩ := hv
                refine g_st (st1 := [.int 1]) rfl ?_
                exact g_qz F hr rfl hlocks (fun _ h => h) ⟨rfl, hPS⟩ (show (((((0 + 0) + 0) + 0) + 0) + 5) ≤ 110 by omega) (show (((((0 + 0) + 0) + 0) + 0) + 34) ≤ 3100 by omega) dL_isDone_531
              ·
                have zc7n : ¬ (37 ≤ o0) := fun q => zc7 ((nI_leE (show 37 = nI 37 from rfl) (show (nI o0) = nI o0 from rfl) (by omega) (by omega)).mpr q)
                refine g_aload_n F 4 dL_isDone_482 rfl rfl ?_
                refine g_aload F 9 dL_isDone_483 rfl ?_
                refine g_aload F 13 dL_isDone_485 rfl ?_
                refine g_iload F 1 dL_isDone_487 rfl ?_
                refine g_bipush F dL_isDone_489 (v := 12) (by decide) ?_
                refine g_irem F dL_isDone_491 (by decide) ?_
                refine g_top (y := (nI (o2 % 12))) (Eq.symm (by rw [show (nI o2) = nI o2 from rfl, show 12 = nI 12 from rfl]; exact pk_rem (by omega) (by omega) (by omega))) ?_
                refine g_if_ne F (tgt := 503) dL_isDone_492 (by decide) (fun zc8 => ?_) (fun zc8 => ?_)
                ·
                  have zc8n : ¬ ((o2 % 12) = 0) := fun q => zc8 ((nI_eqE (show (nI (o2 % 12)) = nI (o2 % 12) from rfl) (show 0 = nI 0 from rfl) (by omega) (by omega)).mpr q)
                  refine g_iconst F dL_isDone_503 (v := 1) (by decide) ?_
                  refine g_iload F 2 dL_isDone_504 rfl ?_
                  refine g_bipush F dL_isDone_506 (v := 9) (by decide) ?_
                  refine g_irem F dL_isDone_508 (by decide) ?_
                  refine g_top (y := (nI (o1 % 9))) (Eq.symm (by rw [show (nI o1) = nI o1 from rfl, show 9 = nI 9 from rfl]; exact pk_rem (by omega) (by omega) (by omega))) ?_
                  refine g_iadd F dL_isDone_509 ?_
                  refine g_top (y := (nI (1 + (o1 % 9)))) (Eq.symm (nI_addE (show 1 = nI 1 from rfl) (show (nI (o1 % 9)) = nI (o1 % 9) from rfl))) ?_
                  refine q_callS F (rest := []) [.ref (ad 10 0), .ref (ad 3 0), .ref (ad 7 0), .int (nI (1 + (o1 % 9)))] (lw_isPassed l D A cs ad d9 σ Lx cap mk ev zl tx mt tn tc la wz n tq t kt rd hC9 hd79 hlo hI hJ htb hfl (1 + (o1 % 9)) (by omega)) (va_cwS 4 F.1.2.2.2.2 gL_isDone_L_isPassed rfl rfl rfl (by decide +kernel) ⟨Nat.le_of_ble_eq_true rfl, Nat.le_of_ble_eq_true rfl⟩) rfl rfl (Nat.le_of_ble_eq_true rfl) dL_isDone_510 ⟨show ((((0 + 0) + 0) + 0) + 0) + 100 ≤ 110 by omega, show ((((0 + 0) + 0) + 0) + 0) + 3000 ≤ 3100 by omega⟩ (fun _ _ _ _ hv => ?_)
                  obtain ⟨rfl, hPS⟩ := hv
                  refine g_st (st1 := [.int 1]) rfl ?_
                  exact g_qz F hr rfl hlocks (fun _ h => h) ⟨rfl, hPS⟩ (show (((((0 + 0) + 0) + 0) + 0) + 100) ≤ 110 by omega) (show (((((0 + 0) + 0) + 0) + 0) + 3000) ≤ 3100 by omega) dL_isDone_513
                ·
                  have zc8n : (o2 % 12) = 0 := (nI_eqE (show (nI (o2 % 12)) = nI (o2 % 12) from rfl) (show 0 = nI 0 from rfl) (by omega) (by omega)).mp zc8
                  refine g_iload F 2 dL_isDone_495 rfl ?_
                  refine g_bipush F dL_isDone_497 (v := 103) (by decide) ?_
                  refine g_irem F dL_isDone_499 (by decide) ?_
                  refine g_top (y := (nI (o1 % 103))) (Eq.symm (by rw [show (nI o1) = nI o1 from rfl, show 103 = nI 103 from rfl]; exact pk_rem (by omega) (by omega) (by omega))) ?_
                  refine g_goto F (tgt := 510) dL_isDone_500 (by decide) ?_
                  refine q_callS F (rest := []) [.ref (ad 10 0), .ref (ad 3 0), .ref (ad 7 0), .int (nI (o1 % 103))] (lw_isPassed l D A cs ad d9 σ Lx cap mk ev zl tx mt tn tc la wz n tq t kt rd hC9 hd79 hlo hI hJ htb hfl (o1 % 103) (by omega)) (va_cwS 4 F.1.2.2.2.2 gL_isDone_L_isPassed rfl rfl rfl (by decide +kernel) ⟨Nat.le_of_ble_eq_true rfl, Nat.le_of_ble_eq_true rfl⟩) rfl rfl (Nat.le_of_ble_eq_true rfl) dL_isDone_510 ⟨show ((((0 + 0) + 0) + 0) + 0) + 100 ≤ 110 by omega, show ((((0 + 0) + 0) + 0) + 0) + 3000 ≤ 3100 by omega⟩ (fun _ _ _ _ hv => ?_)
                  obtain ⟨rfl, hPS⟩ := hv
                  refine g_st (st1 := [.int 1]) rfl ?_
                  exact g_qz F hr rfl hlocks (fun _ h => h) ⟨rfl, hPS⟩ (show (((((0 + 0) + 0) + 0) + 0) + 100) ≤ 110 by omega) (show (((((0 + 0) + 0) + 0) + 0) + 3000) ≤ 3100 by omega) dL_isDone_513
            ·
              have zc6n : ¬ (31 ≤ o0) := fun q => zc6 ((nI_leE (show 31 = nI 31 from rfl) (show (nI o0) = nI o0 from rfl) (by omega) (by omega)).mpr q)
              refine g_aload_n F 4 dL_isDone_438 rfl rfl ?_
              refine g_aload F 11 dL_isDone_439 rfl ?_
              refine g_iload F 3 dL_isDone_441 rfl ?_
              refine g_bipush F dL_isDone_443 (v := 26) (by decide) ?_
              refine g_icmp_ge F (tgt := 452) dL_isDone_445 (by decide) (fun zc9 => ?_) (fun zc9 => ?_)
              ·
                have zc9n : 26 ≤ o0 := (nI_leE (show 26 = nI 26 from rfl) (show (nI o0) = nI o0 from rfl) (by omega) (by omega)).mp zc9
                refine g_iload F 3 dL_isDone_452 rfl ?_
                refine g_bipush F dL_isDone_454 (v := 28) (by decide) ?_
                refine g_icmp_ge F (tgt := 463) dL_isDone_456 (by decide) (fun zc10 => ?_) (fun zc10 => ?_)
                ·
                  have zc10n : 28 ≤ o0 := (nI_leE (show 28 = nI 28 from rfl) (show (nI o0) = nI o0 from rfl) (by omega) (by omega)).mp zc10
                  refine g_iconst F dL_isDone_463 (v := 2) (by decide) ?_
                  refine g_iload F 2 dL_isDone_464 rfl ?_
                  refine g_bipush F dL_isDone_466 (v := 7) (by decide) ?_
                  refine g_irem F dL_isDone_468 (by decide) ?_
                  refine g_top (y := (nI (o1 % 7))) (Eq.symm (by rw [show (nI o1) = nI o1 from rfl, show 7 = nI 7 from rfl]; exact pk_rem (by omega) (by omega) (by omega))) ?_
                  refine g_iload F 1 dL_isDone_469 rfl ?_
                  refine q_callS F (rest := []) [.ref (ad 10 0), .ref (ad 5 0), .int 2, .int (nI (o1 % 7)), .int (nI o2)] (lw_isRecipient2 l D A cs ad d9 σ Lx cap mk ev zl tx mt tn tc la wz n tq t kt rd hC9 hd79 hlo hI hJ htb hfl (o1 % 7) o2 (by omega) (by omega)) (va_cwS 5 F.1.2.2.2.2 gL_isDone_L_isRecipient rfl rfl rfl (by decide +kernel) ⟨Nat.le_of_ble_eq_true rfl, Nat.le_of_ble_eq_true rfl⟩) rfl rfl (Nat.le_of_ble_eq_true rfl) dL_isDone_471 ⟨show ((((0 + 0) + 0) + 0) + 0) + 5 ≤ 110 by omega, show ((((0 + 0) + 0) + 0) + 0) + 34 ≤ 3100 by omega⟩ (fun _ _ _ _ hv => ?_)
                  obtain ⟨rfl, hPS⟩ := hv
                  refine g_st (st1 := [.int 1]) rfl ?_
                  exact g_qz F hr rfl hlocks (fun _ h => h) ⟨rfl, hPS⟩ (show (((((0 + 0) + 0) + 0) + 0) + 5) ≤ 110 by omega) (show (((((0 + 0) + 0) + 0) + 0) + 34) ≤ 3100 by omega) dL_isDone_474
                ·
                  have zc10n : ¬ (28 ≤ o0) := fun q => zc10 ((nI_leE (show 28 = nI 28 from rfl) (show (nI o0) = nI o0 from rfl) (by omega) (by omega)).mpr q)
                  refine g_iconst F dL_isDone_459 (v := 1) (by decide) ?_
                  refine g_goto F (tgt := 464) dL_isDone_460 (by decide) ?_
                  refine g_iload F 2 dL_isDone_464 rfl ?_
                  refine g_bipush F dL_isDone_466 (v := 7) (by decide) ?_
                  refine g_irem F dL_isDone_468 (by decide) ?_
                  refine g_top (y := (nI (o1 % 7))) (Eq.symm (by rw [show (nI o1) = nI o1 from rfl, show 7 = nI 7 from rfl]; exact pk_rem (by omega) (by omega) (by omega))) ?_
                  refine g_iload F 1 dL_isDone_469 rfl ?_
                  refine q_callS F (rest := []) [.ref (ad 10 0), .ref (ad 5 0), .int 1, .int (nI (o1 % 7)), .int (nI o2)] (lw_isRecipient1 l D A cs ad d9 σ Lx cap mk ev zl tx mt tn tc la wz n tq t kt rd hC9 hd79 hlo hI hJ htb hfl (o1 % 7) o2 (by omega) (by omega)) (va_cwS 5 F.1.2.2.2.2 gL_isDone_L_isRecipient rfl rfl rfl (by decide +kernel) ⟨Nat.le_of_ble_eq_true rfl, Nat.le_of_ble_eq_true rfl⟩) rfl rfl (Nat.le_of_ble_eq_true rfl) dL_isDone_471 ⟨show ((((0 + 0) + 0) + 0) + 0) + 5 ≤ 110 by omega, show ((((0 + 0) + 0) + 0) + 0) + 34 ≤ 3100 by omega⟩ (fun _ _ _ _ hv => ?_)
                  obtain ⟨rfl, hPS⟩ := hv
                  refine g_st (st1 := [.int 1]) rfl ?_
                  exact g_qz F hr rfl hlocks (fun _ h => h) ⟨rfl, hPS⟩ (show (((((0 + 0) + 0) + 0) + 0) + 5) ≤ 110 by omega) (show (((((0 + 0) + 0) + 0) + 0) + 34) ≤ 3100 by omega) dL_isDone_474
              ·
                have zc9n : ¬ (26 ≤ o0) := fun q => zc9 ((nI_leE (show 26 = nI 26 from rfl) (show (nI o0) = nI o0 from rfl) (by omega) (by omega)).mpr q)
                refine g_iconst F dL_isDone_448 (v := 0) (by decide) ?_
                refine g_goto F (tgt := 464) dL_isDone_449 (by decide) ?_
                refine g_iload F 2 dL_isDone_464 rfl ?_
                refine g_bipush F dL_isDone_466 (v := 7) (by decide) ?_
                refine g_irem F dL_isDone_468 (by decide) ?_
                refine g_top (y := (nI (o1 % 7))) (Eq.symm (by rw [show (nI o1) = nI o1 from rfl, show 7 = nI 7 from rfl]; exact pk_rem (by omega) (by omega) (by omega))) ?_
                refine g_iload F 1 dL_isDone_469 rfl ?_
                refine q_callS F (rest := []) [.ref (ad 10 0), .ref (ad 5 0), .int 0, .int (nI (o1 % 7)), .int (nI o2)] (lw_isRecipient0 l D A cs ad d9 σ Lx cap mk ev zl tx mt tn tc la wz n tq t kt rd hC9 hd79 hlo hI hJ htb hfl (o1 % 7) o2 (by omega) (by omega)) (va_cwS 5 F.1.2.2.2.2 gL_isDone_L_isRecipient rfl rfl rfl (by decide +kernel) ⟨Nat.le_of_ble_eq_true rfl, Nat.le_of_ble_eq_true rfl⟩) rfl rfl (Nat.le_of_ble_eq_true rfl) dL_isDone_471 ⟨show ((((0 + 0) + 0) + 0) + 0) + 5 ≤ 110 by omega, show ((((0 + 0) + 0) + 0) + 0) + 34 ≤ 3100 by omega⟩ (fun _ _ _ _ hv => ?_)
                obtain ⟨rfl, hPS⟩ := hv
                refine g_st (st1 := [.int 1]) rfl ?_
                exact g_qz F hr rfl hlocks (fun _ h => h) ⟨rfl, hPS⟩ (show (((((0 + 0) + 0) + 0) + 0) + 5) ≤ 110 by omega) (show (((((0 + 0) + 0) + 0) + 0) + 34) ≤ 3100 by omega) dL_isDone_474
          ·
            have zc5n : ¬ (22 ≤ o0) := fun q => zc5 ((nI_leE (show 22 = nI 22 from rfl) (show (nI o0) = nI o0 from rfl) (by omega) (by omega)).mpr q)
            refine g_iload F 2 dL_isDone_347 rfl ?_
            refine g_aload F 13 dL_isDone_349 rfl ?_
            refine g_iconst F dL_isDone_351 (v := 0) (by decide) ?_
            refine l_ld F (K := 7) (j := 0) (v := (nI n)) hd79 ⟨by decide, by decide⟩ rfl (show 0 < 2 by omega) hg0 dL_isDone_352 ?_
            refine g_iconst F dL_isDone_353 (v := 1) (by decide) ?_
            refine g_iadd F dL_isDone_354 ?_
            refine g_top (y := (nI (n + 1))) (Eq.symm (nI_addE (show (nI n) = nI n from rfl) (show 1 = nI 1 from rfl))) ?_
            refine g_irem F dL_isDone_355 (fun q => absurd ((nI_eqE (show nI (n + 1) = nI (n + 1) from rfl) (show (0 : Int32) = nI 0 by decide) (by omega) (by decide)).mp q) (by omega)) ?_
            refine g_top (y := (nI (o1 % (n + 1)))) (Eq.symm (by rw [show (nI o1) = nI o1 from rfl, show (nI (n + 1)) = nI (n + 1) from rfl]; exact pk_rem (by omega) (by omega) (by omega))) ?_
            obtain ⟨xm, hxm, exm⟩ : ∃ v : Nat, v < n + 1 ∧ nI v = nI (o1 % (n + 1)) := ⟨_, Nat.mod_lt _ (by omega), rfl⟩
            refine g_top (y := nI xm) exm ?_
            refine g_istore F (lv1 := [(14, .int (nI xm)), (13, .int (nI o3)), (12, .int (nI o2)), (11, .int (nI o1)), (10, .int (nI o0)), (0, .ref (ad 10 0)), (1, .ref (D.2 100 40)), (2, .int (nI ka)), (3, .ref (ad 1 0)), (4, .ref (ad 2 0)), (5, .ref (ad 3 0)), (6, .ref (ad 4 0)), (7, .ref (ad 5 0)), (8, .ref (ad 6 0)), (9, .ref (ad 7 0))]) dL_isDone_356 (by decide) rfl ?_
            refine g_iload F 0 dL_isDone_358 rfl ?_
            refine g_aload F 14 dL_isDone_360 rfl ?_
            refine g_iconst F dL_isDone_362 (v := 0) (by decide) ?_
            refine l_ld F (K := 7) (j := 0) (v := (nI n)) hd79 ⟨by decide, by decide⟩ rfl (show 0 < 2 by omega) hg0 dL_isDone_363 ?_
            refine g_icmp_ne F (tgt := 372) dL_isDone_364 (by decide) (fun zc11 => ?_) (fun zc11 => ?_)
            ·
              have zc11n : ¬ (xm = n) := fun q => zc11 ((nI_eqE (show (nI xm) = nI xm from rfl) (show (nI n) = nI n from rfl) (by omega) (by omega)).mpr q)
              have hxn : xm < n := by omega
              obtain ⟨xe, d0, xd, xq, xu, xa, ⟨he5, ha4, hd0, hdq, hq5, -⟩, ⟨h23, h24, -⟩, -⟩ := hJ.body hI hxn
              refine g_aload F 10 dL_isDone_372 rfl ?_
              refine g_iload F 0 dL_isDone_374 rfl ?_
              refine l_ld F (K := 3) (j := xm) (v := (nI xe)) hd79 ⟨by decide, by decide⟩ rfl (show xm < 48 by omega) ((hT xm hxn).1.trans h23) dL_isDone_376 ?_
              refine g_if_le F (tgt := 385) dL_isDone_377 (by decide) (fun zc12 => ?_) (fun zc12 => ?_)
              ·
                have zc12n : xe ≤ 0 := (nI_leE (show (nI xe) = nI xe from rfl) (show 0 = nI 0 from rfl) (by omega) (by omega)).mp zc12
                refine g_aload F 10 dL_isDone_385 rfl ?_
                refine g_bipush F dL_isDone_387 (v := 24) (by decide) ?_
                refine g_iload F 0 dL_isDone_389 rfl ?_
                refine g_iadd F dL_isDone_391 ?_
                refine g_top (y := (nI (24 + xm))) (Eq.symm (nI_addE (show 24 = nI 24 from rfl) (show (nI xm) = nI xm from rfl))) ?_
                refine l_ld F (K := 3) (j := (24 + xm)) (v := (nI xd)) hd79 ⟨by decide, by decide⟩ rfl (show (24 + xm) < 48 by omega) ((hT xm hxn).2.trans h24) dL_isDone_392 ?_
                refine g_istore F (lv1 := [(15, .int (nI xd)), (14, .int (nI xm)), (13, .int (nI o3)), (12, .int (nI o2)), (11, .int (nI o1)), (10, .int (nI o0)), (0, .ref (ad 10 0)), (1, .ref (D.2 100 40)), (2, .int (nI ka)), (3, .ref (ad 1 0)), (4, .ref (ad 2 0)), (5, .ref (ad 3 0)), (6, .ref (ad 4 0)), (7, .ref (ad 5 0)), (8, .ref (ad 6 0)), (9, .ref (ad 7 0))]) dL_isDone_393 (by decide) rfl ?_
                refine g_aload_n F 6 dL_isDone_395 rfl rfl ?_
                refine g_iconst F dL_isDone_396 (v := 4) (by decide) ?_
                refine g_iload F 1 dL_isDone_397 rfl ?_
                refine g_iconst F dL_isDone_399 (v := 0) (by decide) ?_
                refine g_iconst F dL_isDone_400 (v := 0) (by decide) ?_
                refine g_iconst F dL_isDone_401 (v := 0) (by decide) ?_
                refine q_callSW F (rest := []) [.ref (ad 10 0), .int 4, .int (nI xm), .int 0, .int 0, .int 0] (ld_delete l D A cs ad d9 (cw D ad cs σ Lx cap mk ev zl tx mt tn tc (lwd cs la wz)) (nI xm) 0 0 0 (cc_delete l D A cs ad d9 σ Lx cap mk ev zl tx mt tn tc (lwd cs la wz) n tq hC9 (nI xm) hn40 hL hlo (hub.no22 0) (fun j hj hw => ⟨(hI.2.2.1.dok hn40 hmt hj hw).1, (hI.2.2.1.dok hn40 hmt hj hw).2.1⟩) hfl) hC9.1 rfl (fun v ad1 dm1 w1 h => ⟨_, h.2.1⟩) (fun E h => h.elim (fun q => .inl q.1) (fun q => .inr (.inr q.1)))) (vx_cwSW 6 F.1.2.2.2.2 gL_isDone_L_does rfl rfl rfl (by decide +kernel) ⟨Nat.le_of_ble_eq_true rfl, Nat.le_of_ble_eq_true rfl⟩) rfl rfl (Nat.le_of_ble_eq_true rfl) dL_isDone_402 ⟨show ((((0 + 0) + 0) + 0) + 0) + 4 ≤ 110 by omega, show ((((0 + 0) + 0) + 0) + 0) + 90 ≤ 3100 by omega⟩ (fun rz ad1 dm1 w1 hv => ?_)
                rcases hv with hp | ⟨hp, rfl, e1, e2, e3⟩ | ⟨hp, rfl, e1, e2, e3⟩ | ⟨hp, rfl, e1, e2, e3⟩
                ·
                  have ea : ix (nI xm) = xm := ix_nI (by omega)
                  rw [ea] at hp
                  obtain ⟨⟨hin, hw⟩, rfl, hE⟩ := hp
                  have hin := (mg_n (by omega) (by omega)).mp hin
                  obtain ⟨τ, L1, hG, h233, hLJ⟩ := gx_del (D := D) (cs := cs) (w0 := (lwd cs la wz)) (ad := ad) (dm := d9) hI hin hw hE
                  obtain ⟨tq1, cap1, mk1, ev1, zl1, tx1, mt1, tn1, tc1, hC1, hlo1, hI1, had1, hdm1, rfl⟩ := hG
                  have hd71 : ∀ k, 1 ≤ k → k ≤ 7 → dm1 k 0 := fun k h1 h2 => hdm1 k 0 (by omega) (hd79 k h1 h2)
                  have hn401 : n ≤ 40 := hI1.1
                  have hL1 : L1 0 = List.range n := hI1.2.2.1.2.1.1.1
                  refine g_st (st1 := [.int (nI xd)]) (congrArg (fun z : Int32 => [Value.int z]) h24.symm) ?_
                  refine g_lve (lv1 := [(15, .int (nI xd)), (14, .int (nI xm)), (13, .int (nI o3)), (12, .int (nI o2)), (11, .int (nI o1)), (10, .int (nI o0)), (0, .ref (ad1 10 0)), (1, .ref (D.2 100 40)), (2, .int (nI ka)), (3, .ref (ad1 1 0)), (4, .ref (ad1 2 0)), (5, .ref (ad1 3 0)), (6, .ref (ad1 4 0)), (7, .ref (ad1 5 0)), (8, .ref (ad1 6 0)), (9, .ref (ad1 7 0))]) (by rw [had1 10 0 (by decide), had1 1 0 (by decide), had1 2 0 (by decide), had1 3 0 (by decide), had1 4 0 (by decide), had1 5 0 (by decide), had1 6 0 (by decide), had1 7 0 (by decide)]) ?_
                  refine g_iload F 0 dL_isDone_405 rfl ?_
                  refine g_icmp_ne F (tgt := 429) dL_isDone_407 (by decide) (fun zc13 => ?_) (fun zc13 => ?_)
                  ·
                    exact absurd rfl zc13
                  ·
                    refine g_iload F 0 dL_isDone_410 rfl ?_
                    refine g_if_lt F (tgt := 425) dL_isDone_412 (by decide) (fun zc14 => ?_) (fun zc14 => ?_)
                    ·
                      exact absurd ((nI_ltE (show (nI xd) = nI xd from rfl) (show 0 = nI 0 from rfl) (by omega) (by omega)).mp zc14) (by omega)
                    ·
                      refine g_aload_n F 6 dL_isDone_415 rfl rfl ?_
                      refine g_iload F 1 dL_isDone_416 rfl ?_
                      refine lq_state F hC1 hn401 hL1 hlo1 hfl (k := xm) (by omega) (v := 3) h233 (cwV 1 F.1.2.2.2.2 gL_isDone_X5_state rfl rfl rfl (by decide +kernel) ⟨Nat.le_of_ble_eq_true rfl, Nat.le_of_ble_eq_true rfl⟩) (Nat.le_of_ble_eq_true rfl) dL_isDone_418 ⟨show (((((0 + 0) + 0) + 0) + 0) + 4) + 1 ≤ 110 by omega, show (((((0 + 0) + 0) + 0) + 0) + 90) + 6 ≤ 3100 by omega⟩ ?_
                      refine g_iconst F dL_isDone_421 (v := 3) (by decide) ?_
                      refine g_icmp_ne F (tgt := 429) dL_isDone_422 (by decide) (fun zc15 => ?_) (fun zc15 => ?_)
                      ·
                        exact absurd zc15 (by decide)
                      ·
                        refine g_iconst F dL_isDone_425 (v := 1) (by decide) ?_
                        refine g_goto F (tgt := 430) dL_isDone_426 (by decide) ?_
                        exact g_qz F hr rfl hlocks (fun _ h => h) ⟨rfl, ⟨n, tq1, t, τ, L1, cap1, mk1, ev1, zl1, tx1, mt1, tn1, tc1, la, wz, kt, rd, fun k hk => had1 k 0 hk, Nat.le_add_right _ _, hC1, hd71, hlo1, hI1, (hLJ la kt rd hJ), rfl⟩⟩ (show ((((((0 + 0) + 0) + 0) + 0) + 4) + 1) ≤ 110 by omega) (show ((((((0 + 0) + 0) + 0) + 0) + 90) + 6) ≤ 3100 by omega) dL_isDone_430
                ·
                  replace e1 := e1.symm
                  subst e1
                  replace e2 := e2.symm
                  subst e2
                  replace e3 := e3.symm
                  subst e3
                  have hp := (hp.resolve_right (fun q => absurd q.1 (by decide))).2
                  refine g_st (st1 := [.int (-30)]) rfl ?_
                  have hA : ¬ xm < n := fun q => hp ((mg_n (by omega) (by omega)).mpr q)
                  exact absurd hA (by omega)
                ·
                  exact absurd hp (fun q => q.elim (fun z => absurd z.1 (by decide)) (fun z => absurd z.1 (by decide)))
                ·
                  replace e1 := e1.symm
                  subst e1
                  replace e2 := e2.symm
                  subst e2
                  replace e3 := e3.symm
                  subst e3
                  have hp := (hp.resolve_left (fun q => absurd q.1 (by decide))).2
                  refine g_st (st1 := [.int (-10)]) rfl ?_
                  have ea : ix (nI xm) = xm := ix_nI (by omega)
                  rw [ea] at hp
                  have hA := (mg_n (by omega) (by omega)).mp hp.1
                  exact absurd (h23.trans (by rw [show xe = 0 by omega]; rfl)) hp.2
              ·
                have zc12n : ¬ (xe ≤ 0) := fun q => zc12 ((nI_leE (show (nI xe) = nI xe from rfl) (show 0 = nI 0 from rfl) (by omega) (by omega)).mpr q)
                refine g_bipush F dL_isDone_380 (v := -10) (by decide) ?_
                refine g_goto F (tgt := 393) dL_isDone_382 (by decide) ?_
                refine g_istore F (lv1 := [(15, .int (-10)), (14, .int (nI xm)), (13, .int (nI o3)), (12, .int (nI o2)), (11, .int (nI o1)), (10, .int (nI o0)), (0, .ref (ad 10 0)), (1, .ref (D.2 100 40)), (2, .int (nI ka)), (3, .ref (ad 1 0)), (4, .ref (ad 2 0)), (5, .ref (ad 3 0)), (6, .ref (ad 4 0)), (7, .ref (ad 5 0)), (8, .ref (ad 6 0)), (9, .ref (ad 7 0))]) dL_isDone_393 (by decide) rfl ?_
                refine g_aload_n F 6 dL_isDone_395 rfl rfl ?_
                refine g_iconst F dL_isDone_396 (v := 4) (by decide) ?_
                refine g_iload F 1 dL_isDone_397 rfl ?_
                refine g_iconst F dL_isDone_399 (v := 0) (by decide) ?_
                refine g_iconst F dL_isDone_400 (v := 0) (by decide) ?_
                refine g_iconst F dL_isDone_401 (v := 0) (by decide) ?_
                refine q_callSW F (rest := []) [.ref (ad 10 0), .int 4, .int (nI xm), .int 0, .int 0, .int 0] (ld_delete l D A cs ad d9 (cw D ad cs σ Lx cap mk ev zl tx mt tn tc (lwd cs la wz)) (nI xm) 0 0 0 (cc_delete l D A cs ad d9 σ Lx cap mk ev zl tx mt tn tc (lwd cs la wz) n tq hC9 (nI xm) hn40 hL hlo (hub.no22 0) (fun j hj hw => ⟨(hI.2.2.1.dok hn40 hmt hj hw).1, (hI.2.2.1.dok hn40 hmt hj hw).2.1⟩) hfl) hC9.1 rfl (fun v ad1 dm1 w1 h => ⟨_, h.2.1⟩) (fun E h => h.elim (fun q => .inl q.1) (fun q => .inr (.inr q.1)))) (vx_cwSW 6 F.1.2.2.2.2 gL_isDone_L_does rfl rfl rfl (by decide +kernel) ⟨Nat.le_of_ble_eq_true rfl, Nat.le_of_ble_eq_true rfl⟩) rfl rfl (Nat.le_of_ble_eq_true rfl) dL_isDone_402 ⟨show ((((0 + 0) + 0) + 0) + 0) + 4 ≤ 110 by omega, show ((((0 + 0) + 0) + 0) + 0) + 90 ≤ 3100 by omega⟩ (fun rz ad1 dm1 w1 hv => ?_)
                rcases hv with hp | ⟨hp, rfl, e1, e2, e3⟩ | ⟨hp, rfl, e1, e2, e3⟩ | ⟨hp, rfl, e1, e2, e3⟩
                ·
                  have ea : ix (nI xm) = xm := ix_nI (by omega)
                  rw [ea] at hp
                  obtain ⟨⟨hin, hw⟩, rfl, hE⟩ := hp
                  have hin := (mg_n (by omega) (by omega)).mp hin
                  have hx0 : xe = 0 := (nI_eqE (show nI xe = nI xe from rfl) (show (0 : Int32) = nI 0 by decide) (by omega) (by decide)).mp (h23.symm.trans hw)
                  exact absurd hx0 (by omega)
                ·
                  replace e1 := e1.symm
                  subst e1
                  replace e2 := e2.symm
                  subst e2
                  replace e3 := e3.symm
                  subst e3
                  have hp := (hp.resolve_right (fun q => absurd q.1 (by decide))).2
                  refine g_st (st1 := [.int (-30)]) rfl ?_
                  have hA : ¬ xm < n := fun q => hp ((mg_n (by omega) (by omega)).mpr q)
                  exact absurd hA (by omega)
                ·
                  exact absurd hp (fun q => q.elim (fun z => absurd z.1 (by decide)) (fun z => absurd z.1 (by decide)))
                ·
                  replace e1 := e1.symm
                  subst e1
                  replace e2 := e2.symm
                  subst e2
                  replace e3 := e3.symm
                  subst e3
                  have hp := (hp.resolve_left (fun q => absurd q.1 (by decide))).2
                  refine g_st (st1 := [.int (-10)]) rfl ?_
                  have ea : ix (nI xm) = xm := ix_nI (by omega)
                  rw [ea] at hp
                  have hA := (mg_n (by omega) (by omega)).mp hp.1
                  refine g_iload F 0 dL_isDone_405 rfl ?_
                  refine g_icmp_ne F (tgt := 429) dL_isDone_407 (by decide) (fun zc16 => ?_) (fun zc16 => ?_)
                  ·
                    exact absurd zc16 (by decide)
                  ·
                    refine g_iload F 0 dL_isDone_410 rfl ?_
                    refine g_if_lt F (tgt := 425) dL_isDone_412 (by decide) (fun zc17 => ?_) (fun zc17 => ?_)
                    ·
                      refine g_iconst F dL_isDone_425 (v := 1) (by decide) ?_
                      refine g_goto F (tgt := 430) dL_isDone_426 (by decide) ?_
                      exact g_qz F hr rfl hlocks (fun _ h => h) ⟨rfl, ⟨n, tq, t, σ, Lx, cap, mk, ev, zl, tx, mt, tn, tc, la, wz, kt, rd, fun _ _ => rfl, Nat.le_add_right _ _, hC9, hd79, hlo, hI, hJ, rfl⟩⟩ (show (((((0 + 0) + 0) + 0) + 0) + 4) ≤ 110 by omega) (show (((((0 + 0) + 0) + 0) + 0) + 90) ≤ 3100 by omega) dL_isDone_430
                    ·
                      exact absurd zc17 (by decide)
            ·
              have zc11n : xm = n := (nI_eqE (show (nI xm) = nI xm from rfl) (show (nI n) = nI n from rfl) (by omega) (by omega)).mp zc11
              refine g_bipush F dL_isDone_367 (v := -30) (by decide) ?_
              refine g_goto F (tgt := 393) dL_isDone_369 (by decide) ?_
              refine g_istore F (lv1 := [(15, .int (-30)), (14, .int (nI xm)), (13, .int (nI o3)), (12, .int (nI o2)), (11, .int (nI o1)), (10, .int (nI o0)), (0, .ref (ad 10 0)), (1, .ref (D.2 100 40)), (2, .int (nI ka)), (3, .ref (ad 1 0)), (4, .ref (ad 2 0)), (5, .ref (ad 3 0)), (6, .ref (ad 4 0)), (7, .ref (ad 5 0)), (8, .ref (ad 6 0)), (9, .ref (ad 7 0))]) dL_isDone_393 (by decide) rfl ?_
              refine g_aload_n F 6 dL_isDone_395 rfl rfl ?_
              refine g_iconst F dL_isDone_396 (v := 4) (by decide) ?_
              refine g_iload F 1 dL_isDone_397 rfl ?_
              refine g_iconst F dL_isDone_399 (v := 0) (by decide) ?_
              refine g_iconst F dL_isDone_400 (v := 0) (by decide) ?_
              refine g_iconst F dL_isDone_401 (v := 0) (by decide) ?_
              refine q_callSW F (rest := []) [.ref (ad 10 0), .int 4, .int (nI xm), .int 0, .int 0, .int 0] (ld_delete l D A cs ad d9 (cw D ad cs σ Lx cap mk ev zl tx mt tn tc (lwd cs la wz)) (nI xm) 0 0 0 (cc_delete l D A cs ad d9 σ Lx cap mk ev zl tx mt tn tc (lwd cs la wz) n tq hC9 (nI xm) hn40 hL hlo (hub.no22 0) (fun j hj hw => ⟨(hI.2.2.1.dok hn40 hmt hj hw).1, (hI.2.2.1.dok hn40 hmt hj hw).2.1⟩) hfl) hC9.1 rfl (fun v ad1 dm1 w1 h => ⟨_, h.2.1⟩) (fun E h => h.elim (fun q => .inl q.1) (fun q => .inr (.inr q.1)))) (vx_cwSW 6 F.1.2.2.2.2 gL_isDone_L_does rfl rfl rfl (by decide +kernel) ⟨Nat.le_of_ble_eq_true rfl, Nat.le_of_ble_eq_true rfl⟩) rfl rfl (Nat.le_of_ble_eq_true rfl) dL_isDone_402 ⟨show ((((0 + 0) + 0) + 0) + 0) + 4 ≤ 110 by omega, show ((((0 + 0) + 0) + 0) + 0) + 90 ≤ 3100 by omega⟩ (fun rz ad1 dm1 w1 hv => ?_)
              rcases hv with hp | ⟨hp, rfl, e1, e2, e3⟩ | ⟨hp, rfl, e1, e2, e3⟩ | ⟨hp, rfl, e1, e2, e3⟩
              ·
                have ea : ix (nI xm) = xm := ix_nI (by omega)
                rw [ea] at hp
                obtain ⟨⟨hin, hw⟩, rfl, hE⟩ := hp
                have hin := (mg_n (by omega) (by omega)).mp hin
                exact absurd hin (by omega)
              ·
                replace e1 := e1.symm
                subst e1
                replace e2 := e2.symm
                subst e2
                replace e3 := e3.symm
                subst e3
                have hp := (hp.resolve_right (fun q => absurd q.1 (by decide))).2
                refine g_st (st1 := [.int (-30)]) rfl ?_
                have hA : ¬ xm < n := fun q => hp ((mg_n (by omega) (by omega)).mpr q)
                refine g_iload F 0 dL_isDone_405 rfl ?_
                refine g_icmp_ne F (tgt := 429) dL_isDone_407 (by decide) (fun zc18 => ?_) (fun zc18 => ?_)
                ·
                  exact absurd zc18 (by decide)
                ·
                  refine g_iload F 0 dL_isDone_410 rfl ?_
                  refine g_if_lt F (tgt := 425) dL_isDone_412 (by decide) (fun zc19 => ?_) (fun zc19 => ?_)
                  ·
                    refine g_iconst F dL_isDone_425 (v := 1) (by decide) ?_
                    refine g_goto F (tgt := 430) dL_isDone_426 (by decide) ?_
                    exact g_qz F hr rfl hlocks (fun _ h => h) ⟨rfl, ⟨n, tq, t, σ, Lx, cap, mk, ev, zl, tx, mt, tn, tc, la, wz, kt, rd, fun _ _ => rfl, Nat.le_add_right _ _, hC9, hd79, hlo, hI, hJ, rfl⟩⟩ (show (((((0 + 0) + 0) + 0) + 0) + 4) ≤ 110 by omega) (show (((((0 + 0) + 0) + 0) + 0) + 90) ≤ 3100 by omega) dL_isDone_430
                  ·
                    exact absurd zc19 (by decide)
              ·
                exact absurd hp (fun q => q.elim (fun z => absurd z.1 (by decide)) (fun z => absurd z.1 (by decide)))
              ·
                replace e1 := e1.symm
                subst e1
                replace e2 := e2.symm
                subst e2
                replace e3 := e3.symm
                subst e3
                have hp := (hp.resolve_left (fun q => absurd q.1 (by decide))).2
                refine g_st (st1 := [.int (-10)]) rfl ?_
                have ea : ix (nI xm) = xm := ix_nI (by omega)
                rw [ea] at hp
                have hA := (mg_n (by omega) (by omega)).mp hp.1
                exact absurd hA (by omega)
        ·
          have zc4n : ¬ (20 ≤ o0) := fun q => zc4 ((nI_leE (show 20 = nI 20 from rfl) (show (nI o0) = nI o0 from rfl) (by omega) (by omega)).mpr q)
          refine g_aload_n F 4 dL_isDone_318 rfl rfl ?_
          refine g_aload_n F 7 dL_isDone_319 rfl rfl ?_
          refine g_aload F 8 dL_isDone_320 rfl ?_
          refine g_aload F 9 dL_isDone_322 rfl ?_
          refine g_aload F 10 dL_isDone_324 rfl ?_
          refine g_aload F 12 dL_isDone_326 rfl ?_
          refine g_aload F 13 dL_isDone_328 rfl ?_
          refine g_iload F 2 dL_isDone_330 rfl ?_
          refine g_iload F 1 dL_isDone_332 rfl ?_
          refine g_iload F 0 dL_isDone_334 rfl ?_
          refine q_callS F (rest := []) [.ref (ad 10 0), .ref (ad 1 0), .ref (ad 2 0), .ref (ad 3 0), .ref (ad 4 0), .ref (ad 6 0), .ref (ad 7 0), .int (nI o1), .int (nI o2), .int (nI o3)] (lw_isSubmitted l D A cs ad d9 σ Lx cap mk ev zl tx mt tn tc la wz n tq t kt rd hC9 hd79 hlo hI hJ htb hfl o1 o2 o3 (by omega) (by omega) (by omega) hn22) (va_cwS 10 F.1.2.2.2.2 gL_isDone_L_isSubmitted rfl rfl rfl (by decide +kernel) ⟨Nat.le_of_ble_eq_true rfl, Nat.le_of_ble_eq_true rfl⟩) rfl rfl (Nat.le_of_ble_eq_true rfl) dL_isDone_336 ⟨show ((((0 + 0) + 0) + 0) + 0) + 60 ≤ 110 by omega, show ((((0 + 0) + 0) + 0) + 0) + 3000 ≤ 3100 by omega⟩ (fun _ _ _ _ hv => ?_)
          obtain ⟨rfl, hPS⟩ := hv
          refine g_st (st1 := [.int 1]) rfl ?_
          exact g_qz F hr rfl hlocks (fun _ h => h) ⟨rfl, hPS⟩ (show (((((0 + 0) + 0) + 0) + 0) + 60) ≤ 110 by omega) (show (((((0 + 0) + 0) + 0) + 0) + 3000) ≤ 3100 by omega) dL_isDone_339
      ·
        have zc3n : ¬ (9 ≤ o0) := fun q => zc3 ((nI_leE (show 9 = nI 9 from rfl) (show (nI o0) = nI o0 from rfl) (by omega) (by omega)).mpr q)
        refine g_iload F 2 dL_isDone_207 rfl ?_
        refine g_iconst F dL_isDone_209 (v := 5) (by decide) ?_
        refine g_irem F dL_isDone_210 (by decide) ?_
        refine g_top (y := (nI (o1 % 5))) (Eq.symm (by rw [show (nI o1) = nI o1 from rfl, show 5 = nI 5 from rfl]; exact pk_rem (by omega) (by omega) (by omega))) ?_
        refine g_istore F (lv1 := [(14, .int (nI (o1 % 5))), (13, .int (nI o3)), (12, .int (nI o2)), (11, .int (nI o1)), (10, .int (nI o0)), (0, .ref (ad 10 0)), (1, .ref (D.2 100 40)), (2, .int (nI ka)), (3, .ref (ad 1 0)), (4, .ref (ad 2 0)), (5, .ref (ad 3 0)), (6, .ref (ad 4 0)), (7, .ref (ad 5 0)), (8, .ref (ad 6 0)), (9, .ref (ad 7 0))]) dL_isDone_211 (by decide) rfl ?_
        refine g_iload F 2 dL_isDone_213 rfl ?_
        refine g_bipush F dL_isDone_215 (v := 42) (by decide) ?_
        refine g_irem F dL_isDone_217 (by decide) ?_
        refine g_top (y := (nI (o2 % 42))) (Eq.symm (by rw [show (nI o2) = nI o2 from rfl, show 42 = nI 42 from rfl]; exact pk_rem (by omega) (by omega) (by omega))) ?_
        refine g_istore F (lv1 := [(15, .int (nI (o2 % 42))), (14, .int (nI (o1 % 5))), (13, .int (nI o3)), (12, .int (nI o2)), (11, .int (nI o1)), (10, .int (nI o0)), (0, .ref (ad 10 0)), (1, .ref (D.2 100 40)), (2, .int (nI ka)), (3, .ref (ad 1 0)), (4, .ref (ad 2 0)), (5, .ref (ad 3 0)), (6, .ref (ad 4 0)), (7, .ref (ad 5 0)), (8, .ref (ad 6 0)), (9, .ref (ad 7 0))]) dL_isDone_218 (by decide) rfl ?_
        refine g_iload F 2 dL_isDone_220 rfl ?_
        refine g_sipush F dL_isDone_222 (v := 202) (by decide) ?_
        refine g_irem F dL_isDone_225 (by decide) ?_
        refine g_top (y := (nI (o3 % 202))) (Eq.symm (by rw [show (nI o3) = nI o3 from rfl, show 202 = nI 202 from rfl]; exact pk_rem (by omega) (by omega) (by omega))) ?_
        refine g_istore F (lv1 := [(16, .int (nI (o3 % 202))), (15, .int (nI (o2 % 42))), (14, .int (nI (o1 % 5))), (13, .int (nI o3)), (12, .int (nI o2)), (11, .int (nI o1)), (10, .int (nI o0)), (0, .ref (ad 10 0)), (1, .ref (D.2 100 40)), (2, .int (nI ka)), (3, .ref (ad 1 0)), (4, .ref (ad 2 0)), (5, .ref (ad 3 0)), (6, .ref (ad 4 0)), (7, .ref (ad 5 0)), (8, .ref (ad 6 0)), (9, .ref (ad 7 0))]) dL_isDone_226 (by decide) rfl ?_
        refine g_iload F 2 dL_isDone_228 rfl ?_
        refine g_iconst F dL_isDone_230 (v := 4) (by decide) ?_
        refine g_icmp_ne F (tgt := 239) dL_isDone_231 (by decide) (fun zc20 => ?_) (fun zc20 => ?_)
        ·
          have zc20n : ¬ ((o1 % 5) = 4) := fun q => zc20 ((nI_eqE (show (nI (o1 % 5)) = nI (o1 % 5) from rfl) (show 4 = nI 4 from rfl) (by omega) (by omega)).mpr q)
          refine g_iload F 1 dL_isDone_239 rfl ?_
          refine g_bipush F dL_isDone_241 (v := 40) (by decide) ?_
          refine g_icmp_gt F (tgt := 260) dL_isDone_243 (by decide) (fun zc21 => ?_) (fun zc21 => ?_)
          ·
            have zc21n : 40 < (o2 % 42) := (nI_ltE (show 40 = nI 40 from rfl) (show (nI (o2 % 42)) = nI (o2 % 42) from rfl) (by omega) (by omega)).mp zc21
            refine g_bipush F dL_isDone_260 (v := -20) (by decide) ?_
            refine g_goto F (tgt := 272) dL_isDone_262 (by decide) ?_
            refine g_istore F (lv1 := [(17, .int (-20)), (16, .int (nI (o3 % 202))), (15, .int (nI (o2 % 42))), (14, .int (nI (o1 % 5))), (13, .int (nI o3)), (12, .int (nI o2)), (11, .int (nI o1)), (10, .int (nI o0)), (0, .ref (ad 10 0)), (1, .ref (D.2 100 40)), (2, .int (nI ka)), (3, .ref (ad 1 0)), (4, .ref (ad 2 0)), (5, .ref (ad 3 0)), (6, .ref (ad 4 0)), (7, .ref (ad 5 0)), (8, .ref (ad 6 0)), (9, .ref (ad 7 0))]) dL_isDone_272 (by decide) rfl ?_
            refine g_iload F 0 dL_isDone_274 rfl ?_
            refine g_if_lt F (tgt := 288) dL_isDone_276 (by decide) (fun zc22 => ?_) (fun zc22 => ?_)
            ·
              refine g_aload_n F 8 dL_isDone_288 rfl rfl ?_
              refine g_iconst F dL_isDone_289 (v := 2) (by decide) ?_
              refine g_iload F 3 dL_isDone_290 rfl ?_
              refine g_iload F 2 dL_isDone_292 rfl ?_
              refine g_iload F 1 dL_isDone_294 rfl ?_
              refine g_iconst F dL_isDone_296 (v := 0) (by decide) ?_
              refine q_callSW F (rest := []) [.ref (ad 10 0), .int 2, .int (nI (o1 % 5)), .int (nI (o2 % 42)), .int (nI (o3 % 202)), .int 0] (ld_setRate l D A cs ad d9 (cw D ad cs σ Lx cap mk ev zl tx mt tn tc (lwd cs la wz)) (nI (o1 % 5)) (nI (o2 % 42)) (nI (o3 % 202)) 0 (cc_setRate l D A cs ad d9 σ Lx cap mk ev zl tx mt tn tc (lwd cs la wz) n tq hC9 (nI (o1 % 5)) (nI (o2 % 42)) (nI (o3 % 202)) hfl) hC9.1 rfl (fun v ad1 dm1 w1 h => ⟨_, h.2.1⟩) (fun E h => h.elim (fun q => .inl q.1) (fun q => .inr (.inl q.1)))) (vx_cwSW 6 F.1.2.2.2.2 gL_isDone_L_does rfl rfl rfl (by decide +kernel) ⟨Nat.le_of_ble_eq_true rfl, Nat.le_of_ble_eq_true rfl⟩) rfl rfl (Nat.le_of_ble_eq_true rfl) dL_isDone_297 ⟨show ((((0 + 0) + 0) + 0) + 0) + 3 ≤ 110 by omega, show ((((0 + 0) + 0) + 0) + 0) + 18 ≤ 3100 by omega⟩ (fun rz ad1 dm1 w1 hv => ?_)
              rcases hv with hp | ⟨hp, rfl, e1, e2, e3⟩ | ⟨hp, rfl, e1, e2, e3⟩ | ⟨hp, rfl, e1, e2, e3⟩
              ·
                have ea : ix (nI (o1 % 5)) = (o1 % 5) := ix_nI (by omega)
                rw [ea] at hp
                obtain ⟨⟨hA, hU, hW⟩, rfl, rfl, rfl, e3⟩ := hp
                have hA := (ac_n (by omega)).mp hA
                have hU := (inr_n (a := 0) (b := 40) rfl rfl (by omega) (by decide) (by decide)).mp hU
                have hW := (inr_n (a := 1) (b := 200) rfl rfl (by omega) (by decide) (by decide)).mp hW
                exact absurd hA (by omega)
              ·
                replace e1 := e1.symm
                subst e1
                replace e2 := e2.symm
                subst e2
                replace e3 := e3.symm
                subst e3
                have hp := (hp.resolve_right (fun q => absurd q.1 (by decide))).2
                refine g_st (st1 := [.int (-30)]) rfl ?_
                have hA : ¬ (o1 % 5) < 4 := fun q => hp ((ac_n (by omega)).mpr q)
                exact absurd hA (by omega)
              ·
                replace e1 := e1.symm
                subst e1
                replace e2 := e2.symm
                subst e2
                replace e3 := e3.symm
                subst e3
                have hp := (hp.resolve_left (fun q => absurd q.1 (by decide))).2
                refine g_st (st1 := [.int (-20)]) rfl ?_
                have hA := (ac_n (by omega)).mp hp.1
                have hB : ¬ (o2 % 42 ≤ 40 ∧ 1 ≤ o3 % 202 ∧ o3 % 202 ≤ 200) := fun q => hp.2 ⟨(inr_n (a := 0) (b := 40) rfl rfl (by omega) (by decide) (by decide)).mpr ⟨Nat.zero_le _, q.1⟩, (inr_n (a := 1) (b := 200) rfl rfl (by omega) (by decide) (by decide)).mpr q.2⟩
                refine g_iload F 0 dL_isDone_300 rfl ?_
                refine g_icmp_ne F (tgt := 309) dL_isDone_302 (by decide) (fun zc23 => ?_) (fun zc23 => ?_)
                ·
                  exact absurd zc23 (by decide)
                ·
                  refine g_iconst F dL_isDone_305 (v := 1) (by decide) ?_
                  refine g_goto F (tgt := 310) dL_isDone_306 (by decide) ?_
                  exact g_qz F hr rfl hlocks (fun _ h => h) ⟨rfl, ⟨n, tq, t, σ, Lx, cap, mk, ev, zl, tx, mt, tn, tc, la, wz, kt, rd, fun _ _ => rfl, Nat.le_add_right _ _, hC9, hd79, hlo, hI, hJ, rfl⟩⟩ (show (((((0 + 0) + 0) + 0) + 0) + 3) ≤ 110 by omega) (show (((((0 + 0) + 0) + 0) + 0) + 18) ≤ 3100 by omega) dL_isDone_310
              ·
                exact absurd hp (fun q => q.elim (fun z => absurd z.1 (by decide)) (fun z => absurd z.1 (by decide)))
            ·
              exact absurd zc22 (by decide)
          ·
            have zc21n : ¬ (40 < (o2 % 42)) := fun q => zc21 ((nI_ltE (show 40 = nI 40 from rfl) (show (nI (o2 % 42)) = nI (o2 % 42) from rfl) (by omega) (by omega)).mpr q)
            refine g_iload F 0 dL_isDone_246 rfl ?_
            refine g_iconst F dL_isDone_248 (v := 1) (by decide) ?_
            refine g_icmp_lt F (tgt := 260) dL_isDone_249 (by decide) (fun zc24 => ?_) (fun zc24 => ?_)
            ·
              have zc24n : (o3 % 202) < 1 := (nI_ltE (show (nI (o3 % 202)) = nI (o3 % 202) from rfl) (show 1 = nI 1 from rfl) (by omega) (by omega)).mp zc24
              refine g_bipush F dL_isDone_260 (v := -20) (by decide) ?_
              refine g_goto F (tgt := 272) dL_isDone_262 (by decide) ?_
              refine g_istore F (lv1 := [(17, .int (-20)), (16, .int (nI (o3 % 202))), (15, .int (nI (o2 % 42))), (14, .int (nI (o1 % 5))), (13, .int (nI o3)), (12, .int (nI o2)), (11, .int (nI o1)), (10, .int (nI o0)), (0, .ref (ad 10 0)), (1, .ref (D.2 100 40)), (2, .int (nI ka)), (3, .ref (ad 1 0)), (4, .ref (ad 2 0)), (5, .ref (ad 3 0)), (6, .ref (ad 4 0)), (7, .ref (ad 5 0)), (8, .ref (ad 6 0)), (9, .ref (ad 7 0))]) dL_isDone_272 (by decide) rfl ?_
              refine g_iload F 0 dL_isDone_274 rfl ?_
              refine g_if_lt F (tgt := 288) dL_isDone_276 (by decide) (fun zc25 => ?_) (fun zc25 => ?_)
              ·
                refine g_aload_n F 8 dL_isDone_288 rfl rfl ?_
                refine g_iconst F dL_isDone_289 (v := 2) (by decide) ?_
                refine g_iload F 3 dL_isDone_290 rfl ?_
                refine g_iload F 2 dL_isDone_292 rfl ?_
                refine g_iload F 1 dL_isDone_294 rfl ?_
                refine g_iconst F dL_isDone_296 (v := 0) (by decide) ?_
                refine q_callSW F (rest := []) [.ref (ad 10 0), .int 2, .int (nI (o1 % 5)), .int (nI (o2 % 42)), .int (nI (o3 % 202)), .int 0] (ld_setRate l D A cs ad d9 (cw D ad cs σ Lx cap mk ev zl tx mt tn tc (lwd cs la wz)) (nI (o1 % 5)) (nI (o2 % 42)) (nI (o3 % 202)) 0 (cc_setRate l D A cs ad d9 σ Lx cap mk ev zl tx mt tn tc (lwd cs la wz) n tq hC9 (nI (o1 % 5)) (nI (o2 % 42)) (nI (o3 % 202)) hfl) hC9.1 rfl (fun v ad1 dm1 w1 h => ⟨_, h.2.1⟩) (fun E h => h.elim (fun q => .inl q.1) (fun q => .inr (.inl q.1)))) (vx_cwSW 6 F.1.2.2.2.2 gL_isDone_L_does rfl rfl rfl (by decide +kernel) ⟨Nat.le_of_ble_eq_true rfl, Nat.le_of_ble_eq_true rfl⟩) rfl rfl (Nat.le_of_ble_eq_true rfl) dL_isDone_297 ⟨show ((((0 + 0) + 0) + 0) + 0) + 3 ≤ 110 by omega, show ((((0 + 0) + 0) + 0) + 0) + 18 ≤ 3100 by omega⟩ (fun rz ad1 dm1 w1 hv => ?_)
                rcases hv with hp | ⟨hp, rfl, e1, e2, e3⟩ | ⟨hp, rfl, e1, e2, e3⟩ | ⟨hp, rfl, e1, e2, e3⟩
                ·
                  have ea : ix (nI (o1 % 5)) = (o1 % 5) := ix_nI (by omega)
                  rw [ea] at hp
                  obtain ⟨⟨hA, hU, hW⟩, rfl, rfl, rfl, e3⟩ := hp
                  have hA := (ac_n (by omega)).mp hA
                  have hU := (inr_n (a := 0) (b := 40) rfl rfl (by omega) (by decide) (by decide)).mp hU
                  have hW := (inr_n (a := 1) (b := 200) rfl rfl (by omega) (by decide) (by decide)).mp hW
                  exact absurd hA (by omega)
                ·
                  replace e1 := e1.symm
                  subst e1
                  replace e2 := e2.symm
                  subst e2
                  replace e3 := e3.symm
                  subst e3
                  have hp := (hp.resolve_right (fun q => absurd q.1 (by decide))).2
                  refine g_st (st1 := [.int (-30)]) rfl ?_
                  have hA : ¬ (o1 % 5) < 4 := fun q => hp ((ac_n (by omega)).mpr q)
                  exact absurd hA (by omega)
                ·
                  replace e1 := e1.symm
                  subst e1
                  replace e2 := e2.symm
                  subst e2
                  replace e3 := e3.symm
                  subst e3
                  have hp := (hp.resolve_left (fun q => absurd q.1 (by decide))).2
                  refine g_st (st1 := [.int (-20)]) rfl ?_
                  have hA := (ac_n (by omega)).mp hp.1
                  have hB : ¬ (o2 % 42 ≤ 40 ∧ 1 ≤ o3 % 202 ∧ o3 % 202 ≤ 200) := fun q => hp.2 ⟨(inr_n (a := 0) (b := 40) rfl rfl (by omega) (by decide) (by decide)).mpr ⟨Nat.zero_le _, q.1⟩, (inr_n (a := 1) (b := 200) rfl rfl (by omega) (by decide) (by decide)).mpr q.2⟩
                  refine g_iload F 0 dL_isDone_300 rfl ?_
                  refine g_icmp_ne F (tgt := 309) dL_isDone_302 (by decide) (fun zc26 => ?_) (fun zc26 => ?_)
                  ·
                    exact absurd zc26 (by decide)
                  ·
                    refine g_iconst F dL_isDone_305 (v := 1) (by decide) ?_
                    refine g_goto F (tgt := 310) dL_isDone_306 (by decide) ?_
                    exact g_qz F hr rfl hlocks (fun _ h => h) ⟨rfl, ⟨n, tq, t, σ, Lx, cap, mk, ev, zl, tx, mt, tn, tc, la, wz, kt, rd, fun _ _ => rfl, Nat.le_add_right _ _, hC9, hd79, hlo, hI, hJ, rfl⟩⟩ (show (((((0 + 0) + 0) + 0) + 0) + 3) ≤ 110 by omega) (show (((((0 + 0) + 0) + 0) + 0) + 18) ≤ 3100 by omega) dL_isDone_310
                ·
                  exact absurd hp (fun q => q.elim (fun z => absurd z.1 (by decide)) (fun z => absurd z.1 (by decide)))
              ·
                exact absurd zc25 (by decide)
            ·
              have zc24n : ¬ ((o3 % 202) < 1) := fun q => zc24 ((nI_ltE (show (nI (o3 % 202)) = nI (o3 % 202) from rfl) (show 1 = nI 1 from rfl) (by omega) (by omega)).mpr q)
              refine g_iload F 0 dL_isDone_252 rfl ?_
              refine g_sipush F dL_isDone_254 (v := 200) (by decide) ?_
              refine g_icmp_le F (tgt := 265) dL_isDone_257 (by decide) (fun zc27 => ?_) (fun zc27 => ?_)
              ·
                have zc27n : (o3 % 202) ≤ 200 := (nI_leE (show (nI (o3 % 202)) = nI (o3 % 202) from rfl) (show 200 = nI 200 from rfl) (by omega) (by omega)).mp zc27
                obtain ⟨hq1, hq7, -, ⟨xq, hxq, h7⟩, -⟩ := hJ.2.2.2.2.2.1 (o1 % 5) (by omega)
                refine g_aload F 15 dL_isDone_265 rfl ?_
                refine g_iconst F dL_isDone_267 (v := 4) (by decide) ?_
                refine g_iload F 2 dL_isDone_268 rfl ?_
                refine g_iadd F dL_isDone_270 ?_
                refine g_top (y := (nI (4 + (o1 % 5)))) (Eq.symm (nI_addE (show 4 = nI 4 from rfl) (show (nI (o1 % 5)) = nI (o1 % 5) from rfl))) ?_
                refine l_ld F (K := 6) (j := (4 + (o1 % 5))) (v := (nI xq)) hd79 ⟨by decide, by decide⟩ rfl (show (4 + (o1 % 5)) < 16 by omega) (hq7.trans h7) dL_isDone_271 ?_
                refine g_istore F (lv1 := [(17, .int (nI xq)), (16, .int (nI (o3 % 202))), (15, .int (nI (o2 % 42))), (14, .int (nI (o1 % 5))), (13, .int (nI o3)), (12, .int (nI o2)), (11, .int (nI o1)), (10, .int (nI o0)), (0, .ref (ad 10 0)), (1, .ref (D.2 100 40)), (2, .int (nI ka)), (3, .ref (ad 1 0)), (4, .ref (ad 2 0)), (5, .ref (ad 3 0)), (6, .ref (ad 4 0)), (7, .ref (ad 5 0)), (8, .ref (ad 6 0)), (9, .ref (ad 7 0))]) dL_isDone_272 (by decide) rfl ?_
                refine g_iload F 0 dL_isDone_274 rfl ?_
                refine g_if_lt F (tgt := 288) dL_isDone_276 (by decide) (fun zc28 => ?_) (fun zc28 => ?_)
                ·
                  exact absurd ((nI_ltE (show (nI xq) = nI xq from rfl) (show 0 = nI 0 from rfl) (by omega) (by omega)).mp zc28) (by omega)
                ·
                  refine g_aload F 16 dL_isDone_279 rfl ?_
                  refine g_iconst F dL_isDone_281 (v := 4) (by decide) ?_
                  refine g_iload F 3 dL_isDone_282 rfl ?_
                  refine g_iadd F dL_isDone_284 ?_
                  refine g_top (y := (nI (4 + (o1 % 5)))) (Eq.symm (nI_addE (show 4 = nI 4 from rfl) (show (nI (o1 % 5)) = nI (o1 % 5) from rfl))) ?_
                  refine g_iload F 2 dL_isDone_285 rfl ?_
                  refine l_st F (K := 6) (j := (4 + (o1 % 5))) hd79 ⟨by decide, by decide⟩ rfl (show (4 + (o1 % 5)) < 16 by omega) dL_isDone_287 ?_
                  refine g_aload_n F 8 dL_isDone_288 rfl rfl ?_
                  refine g_iconst F dL_isDone_289 (v := 2) (by decide) ?_
                  refine g_iload F 3 dL_isDone_290 rfl ?_
                  refine g_iload F 2 dL_isDone_292 rfl ?_
                  refine g_iload F 1 dL_isDone_294 rfl ?_
                  refine g_iconst F dL_isDone_296 (v := 0) (by decide) ?_
                  refine q_callSW F (rest := []) [.ref (ad 10 0), .int 2, .int (nI (o1 % 5)), .int (nI (o2 % 42)), .int (nI (o3 % 202)), .int 0] (ld_setRate l D A cs ad d9 (cw D ad cs σ Lx cap mk ev zl tx mt tn tc (lwd cs (up2 la 6 (4 + (o1 % 5)) (nI (o2 % 42))) wz)) (nI (o1 % 5)) (nI (o2 % 42)) (nI (o3 % 202)) 0 (cc_setRate l D A cs ad d9 σ Lx cap mk ev zl tx mt tn tc (lwd cs (up2 la 6 (4 + (o1 % 5)) (nI (o2 % 42))) wz) n tq hC9 (nI (o1 % 5)) (nI (o2 % 42)) (nI (o3 % 202)) hfl) hC9.1 rfl (fun v ad1 dm1 w1 h => ⟨_, h.2.1⟩) (fun E h => h.elim (fun q => .inl q.1) (fun q => .inr (.inl q.1)))) (vx_cwSW 6 F.1.2.2.2.2 gL_isDone_L_does rfl rfl rfl (by decide +kernel) ⟨Nat.le_of_ble_eq_true rfl, Nat.le_of_ble_eq_true rfl⟩) rfl rfl (Nat.le_of_ble_eq_true rfl) dL_isDone_297 ⟨show ((((0 + 0) + 0) + 0) + 0) + 3 ≤ 110 by omega, show ((((0 + 0) + 0) + 0) + 0) + 18 ≤ 3100 by omega⟩ (fun rz ad1 dm1 w1 hv => ?_)
                  rcases hv with hp | ⟨hp, rfl, e1, e2, e3⟩ | ⟨hp, rfl, e1, e2, e3⟩ | ⟨hp, rfl, e1, e2, e3⟩
                  ·
                    have ea : ix (nI (o1 % 5)) = (o1 % 5) := ix_nI (by omega)
                    rw [ea] at hp
                    obtain ⟨⟨hA, hU, hW⟩, rfl, rfl, rfl, e3⟩ := hp
                    have hA := (ac_n (by omega)).mp hA
                    have hU := (inr_n (a := 0) (b := 40) rfl rfl (by omega) (by decide) (by decide)).mp hU
                    have hW := (inr_n (a := 1) (b := 200) rfl rfl (by omega) (by decide) (by decide)).mp hW
                    obtain ⟨τ, hG, hLJ⟩ := gx_rate (D := D) (cs := cs) (w0 := (lwd cs (up2 la 6 (4 + (o1 % 5)) (nI (o2 % 42))) wz)) (ad := ad) (mk := mk) hC9 hlo hI hA hU.2 (nI (o3 % 202))
                    rw [e3] at hG
                    obtain ⟨tq1, cap1, mk1, ev1, zl1, tx1, mt1, tn1, tc1, hC1, hlo1, hI1, had1, hdm1, rfl⟩ := hG
                    have hd71 : ∀ k, 1 ≤ k → k ≤ 7 → d9 k 0 := fun k h1 h2 => hdm1 k 0 (by omega) (hd79 k h1 h2)
                    refine g_st (st1 := [.int (nI xq)]) (congrArg (fun z : Int32 => [Value.int z]) h7.symm) ?_
                    refine g_iload F 0 dL_isDone_300 rfl ?_
                    refine g_icmp_ne F (tgt := 309) dL_isDone_302 (by decide) (fun zc29 => ?_) (fun zc29 => ?_)
                    ·
                      exact absurd rfl zc29
                    ·
                      refine g_iconst F dL_isDone_305 (v := 1) (by decide) ?_
                      refine g_goto F (tgt := 310) dL_isDone_306 (by decide) ?_
                      exact g_qz F hr rfl hlocks (fun _ h => h) ⟨rfl, ⟨n, tq1, t, τ, Lx, cap1, mk1, ev1, zl1, tx1, mt1, tn1, tc1, (up2 la 6 (4 + (o1 % 5)) (nI (o2 % 42))), wz, kt, rd, fun k hk => had1 k 0 hk, Nat.le_add_right _ _, hC1, hd71, hlo1, hI1, (hLJ la kt rd hJ), rfl⟩⟩ (show (((((0 + 0) + 0) + 0) + 0) + 3) ≤ 110 by omega) (show (((((0 + 0) + 0) + 0) + 0) + 18) ≤ 3100 by omega) dL_isDone_310
                  ·
                    replace e1 := e1.symm
                    subst e1
                    replace e2 := e2.symm
                    subst e2
                    replace e3 := e3.symm
                    subst e3
                    have hp := (hp.resolve_right (fun q => absurd q.1 (by decide))).2
                    refine g_st (st1 := [.int (-30)]) rfl ?_
                    have hA : ¬ (o1 % 5) < 4 := fun q => hp ((ac_n (by omega)).mpr q)
                    exact absurd hA (by omega)
                  ·
                    replace e1 := e1.symm
                    subst e1
                    replace e2 := e2.symm
                    subst e2
                    replace e3 := e3.symm
                    subst e3
                    have hp := (hp.resolve_left (fun q => absurd q.1 (by decide))).2
                    refine g_st (st1 := [.int (-20)]) rfl ?_
                    have hA := (ac_n (by omega)).mp hp.1
                    have hB : ¬ (o2 % 42 ≤ 40 ∧ 1 ≤ o3 % 202 ∧ o3 % 202 ≤ 200) := fun q => hp.2 ⟨(inr_n (a := 0) (b := 40) rfl rfl (by omega) (by decide) (by decide)).mpr ⟨Nat.zero_le _, q.1⟩, (inr_n (a := 1) (b := 200) rfl rfl (by omega) (by decide) (by decide)).mpr q.2⟩
                    exact absurd hB (by omega)
                  ·
                    exact absurd hp (fun q => q.elim (fun z => absurd z.1 (by decide)) (fun z => absurd z.1 (by decide)))
              ·
                have zc27n : ¬ ((o3 % 202) ≤ 200) := fun q => zc27 ((nI_leE (show (nI (o3 % 202)) = nI (o3 % 202) from rfl) (show 200 = nI 200 from rfl) (by omega) (by omega)).mpr q)
                refine g_bipush F dL_isDone_260 (v := -20) (by decide) ?_
                refine g_goto F (tgt := 272) dL_isDone_262 (by decide) ?_
                refine g_istore F (lv1 := [(17, .int (-20)), (16, .int (nI (o3 % 202))), (15, .int (nI (o2 % 42))), (14, .int (nI (o1 % 5))), (13, .int (nI o3)), (12, .int (nI o2)), (11, .int (nI o1)), (10, .int (nI o0)), (0, .ref (ad 10 0)), (1, .ref (D.2 100 40)), (2, .int (nI ka)), (3, .ref (ad 1 0)), (4, .ref (ad 2 0)), (5, .ref (ad 3 0)), (6, .ref (ad 4 0)), (7, .ref (ad 5 0)), (8, .ref (ad 6 0)), (9, .ref (ad 7 0))]) dL_isDone_272 (by decide) rfl ?_
                refine g_iload F 0 dL_isDone_274 rfl ?_
                refine g_if_lt F (tgt := 288) dL_isDone_276 (by decide) (fun zc30 => ?_) (fun zc30 => ?_)
                ·
                  refine g_aload_n F 8 dL_isDone_288 rfl rfl ?_
                  refine g_iconst F dL_isDone_289 (v := 2) (by decide) ?_
                  refine g_iload F 3 dL_isDone_290 rfl ?_
                  refine g_iload F 2 dL_isDone_292 rfl ?_
                  refine g_iload F 1 dL_isDone_294 rfl ?_
                  refine g_iconst F dL_isDone_296 (v := 0) (by decide) ?_
                  refine q_callSW F (rest := []) [.ref (ad 10 0), .int 2, .int (nI (o1 % 5)), .int (nI (o2 % 42)), .int (nI (o3 % 202)), .int 0] (ld_setRate l D A cs ad d9 (cw D ad cs σ Lx cap mk ev zl tx mt tn tc (lwd cs la wz)) (nI (o1 % 5)) (nI (o2 % 42)) (nI (o3 % 202)) 0 (cc_setRate l D A cs ad d9 σ Lx cap mk ev zl tx mt tn tc (lwd cs la wz) n tq hC9 (nI (o1 % 5)) (nI (o2 % 42)) (nI (o3 % 202)) hfl) hC9.1 rfl (fun v ad1 dm1 w1 h => ⟨_, h.2.1⟩) (fun E h => h.elim (fun q => .inl q.1) (fun q => .inr (.inl q.1)))) (vx_cwSW 6 F.1.2.2.2.2 gL_isDone_L_does rfl rfl rfl (by decide +kernel) ⟨Nat.le_of_ble_eq_true rfl, Nat.le_of_ble_eq_true rfl⟩) rfl rfl (Nat.le_of_ble_eq_true rfl) dL_isDone_297 ⟨show ((((0 + 0) + 0) + 0) + 0) + 3 ≤ 110 by omega, show ((((0 + 0) + 0) + 0) + 0) + 18 ≤ 3100 by omega⟩ (fun rz ad1 dm1 w1 hv => ?_)
                  rcases hv with hp | ⟨hp, rfl, e1, e2, e3⟩ | ⟨hp, rfl, e1, e2, e3⟩ | ⟨hp, rfl, e1, e2, e3⟩
                  ·
                    have ea : ix (nI (o1 % 5)) = (o1 % 5) := ix_nI (by omega)
                    rw [ea] at hp
                    obtain ⟨⟨hA, hU, hW⟩, rfl, rfl, rfl, e3⟩ := hp
                    have hA := (ac_n (by omega)).mp hA
                    have hU := (inr_n (a := 0) (b := 40) rfl rfl (by omega) (by decide) (by decide)).mp hU
                    have hW := (inr_n (a := 1) (b := 200) rfl rfl (by omega) (by decide) (by decide)).mp hW
                    exact absurd hA (by omega)
                  ·
                    replace e1 := e1.symm
                    subst e1
                    replace e2 := e2.symm
                    subst e2
                    replace e3 := e3.symm
                    subst e3
                    have hp := (hp.resolve_right (fun q => absurd q.1 (by decide))).2
                    refine g_st (st1 := [.int (-30)]) rfl ?_
                    have hA : ¬ (o1 % 5) < 4 := fun q => hp ((ac_n (by omega)).mpr q)
                    exact absurd hA (by omega)
                  ·
                    replace e1 := e1.symm
                    subst e1
                    replace e2 := e2.symm
                    subst e2
                    replace e3 := e3.symm
                    subst e3
                    have hp := (hp.resolve_left (fun q => absurd q.1 (by decide))).2
                    refine g_st (st1 := [.int (-20)]) rfl ?_
                    have hA := (ac_n (by omega)).mp hp.1
                    have hB : ¬ (o2 % 42 ≤ 40 ∧ 1 ≤ o3 % 202 ∧ o3 % 202 ≤ 200) := fun q => hp.2 ⟨(inr_n (a := 0) (b := 40) rfl rfl (by omega) (by decide) (by decide)).mpr ⟨Nat.zero_le _, q.1⟩, (inr_n (a := 1) (b := 200) rfl rfl (by omega) (by decide) (by decide)).mpr q.2⟩
                    refine g_iload F 0 dL_isDone_300 rfl ?_
                    refine g_icmp_ne F (tgt := 309) dL_isDone_302 (by decide) (fun zc31 => ?_) (fun zc31 => ?_)
                    ·
                      exact absurd zc31 (by decide)
                    ·
                      refine g_iconst F dL_isDone_305 (v := 1) (by decide) ?_
                      refine g_goto F (tgt := 310) dL_isDone_306 (by decide) ?_
                      exact g_qz F hr rfl hlocks (fun _ h => h) ⟨rfl, ⟨n, tq, t, σ, Lx, cap, mk, ev, zl, tx, mt, tn, tc, la, wz, kt, rd, fun _ _ => rfl, Nat.le_add_right _ _, hC9, hd79, hlo, hI, hJ, rfl⟩⟩ (show (((((0 + 0) + 0) + 0) + 0) + 3) ≤ 110 by omega) (show (((((0 + 0) + 0) + 0) + 0) + 18) ≤ 3100 by omega) dL_isDone_310
                  ·
                    exact absurd hp (fun q => q.elim (fun z => absurd z.1 (by decide)) (fun z => absurd z.1 (by decide)))
                ·
                  exact absurd zc30 (by decide)
        ·
          have zc20n : (o1 % 5) = 4 := (nI_eqE (show (nI (o1 % 5)) = nI (o1 % 5) from rfl) (show 4 = nI 4 from rfl) (by omega) (by omega)).mp zc20
          refine g_bipush F dL_isDone_234 (v := -30) (by decide) ?_
          refine g_goto F (tgt := 272) dL_isDone_236 (by decide) ?_
          refine g_istore F (lv1 := [(17, .int (-30)), (16, .int (nI (o3 % 202))), (15, .int (nI (o2 % 42))), (14, .int (nI (o1 % 5))), (13, .int (nI o3)), (12, .int (nI o2)), (11, .int (nI o1)), (10, .int (nI o0)), (0, .ref (ad 10 0)), (1, .ref (D.2 100 40)), (2, .int (nI ka)), (3, .ref (ad 1 0)), (4, .ref (ad 2 0)), (5, .ref (ad 3 0)), (6, .ref (ad 4 0)), (7, .ref (ad 5 0)), (8, .ref (ad 6 0)), (9, .ref (ad 7 0))]) dL_isDone_272 (by decide) rfl ?_
          refine g_iload F 0 dL_isDone_274 rfl ?_
          refine g_if_lt F (tgt := 288) dL_isDone_276 (by decide) (fun zc32 => ?_) (fun zc32 => ?_)
          ·
            refine g_aload_n F 8 dL_isDone_288 rfl rfl ?_
            refine g_iconst F dL_isDone_289 (v := 2) (by decide) ?_
            refine g_iload F 3 dL_isDone_290 rfl ?_
            refine g_iload F 2 dL_isDone_292 rfl ?_
            refine g_iload F 1 dL_isDone_294 rfl ?_
            refine g_iconst F dL_isDone_296 (v := 0) (by decide) ?_
            refine q_callSW F (rest := []) [.ref (ad 10 0), .int 2, .int (nI (o1 % 5)), .int (nI (o2 % 42)), .int (nI (o3 % 202)), .int 0] (ld_setRate l D A cs ad d9 (cw D ad cs σ Lx cap mk ev zl tx mt tn tc (lwd cs la wz)) (nI (o1 % 5)) (nI (o2 % 42)) (nI (o3 % 202)) 0 (cc_setRate l D A cs ad d9 σ Lx cap mk ev zl tx mt tn tc (lwd cs la wz) n tq hC9 (nI (o1 % 5)) (nI (o2 % 42)) (nI (o3 % 202)) hfl) hC9.1 rfl (fun v ad1 dm1 w1 h => ⟨_, h.2.1⟩) (fun E h => h.elim (fun q => .inl q.1) (fun q => .inr (.inl q.1)))) (vx_cwSW 6 F.1.2.2.2.2 gL_isDone_L_does rfl rfl rfl (by decide +kernel) ⟨Nat.le_of_ble_eq_true rfl, Nat.le_of_ble_eq_true rfl⟩) rfl rfl (Nat.le_of_ble_eq_true rfl) dL_isDone_297 ⟨show ((((0 + 0) + 0) + 0) + 0) + 3 ≤ 110 by omega, show ((((0 + 0) + 0) + 0) + 0) + 18 ≤ 3100 by omega⟩ (fun rz ad1 dm1 w1 hv => ?_)
            rcases hv with hp | ⟨hp, rfl, e1, e2, e3⟩ | ⟨hp, rfl, e1, e2, e3⟩ | ⟨hp, rfl, e1, e2, e3⟩
            ·
              have ea : ix (nI (o1 % 5)) = (o1 % 5) := ix_nI (by omega)
              rw [ea] at hp
              obtain ⟨⟨hA, hU, hW⟩, rfl, rfl, rfl, e3⟩ := hp
              have hA := (ac_n (by omega)).mp hA
              have hU := (inr_n (a := 0) (b := 40) rfl rfl (by omega) (by decide) (by decide)).mp hU
              have hW := (inr_n (a := 1) (b := 200) rfl rfl (by omega) (by decide) (by decide)).mp hW
              exact absurd hA (by omega)
            ·
              replace e1 := e1.symm
              subst e1
              replace e2 := e2.symm
              subst e2
              replace e3 := e3.symm
              subst e3
              have hp := (hp.resolve_right (fun q => absurd q.1 (by decide))).2
              refine g_st (st1 := [.int (-30)]) rfl ?_
              have hA : ¬ (o1 % 5) < 4 := fun q => hp ((ac_n (by omega)).mpr q)
              refine g_iload F 0 dL_isDone_300 rfl ?_
              refine g_icmp_ne F (tgt := 309) dL_isDone_302 (by decide) (fun zc33 => ?_) (fun zc33 => ?_)
              ·
                exact absurd zc33 (by decide)
              ·
                refine g_iconst F dL_isDone_305 (v := 1) (by decide) ?_
                refine g_goto F (tgt := 310) dL_isDone_306 (by decide) ?_
                exact g_qz F hr rfl hlocks (fun _ h => h) ⟨rfl, ⟨n, tq, t, σ, Lx, cap, mk, ev, zl, tx, mt, tn, tc, la, wz, kt, rd, fun _ _ => rfl, Nat.le_add_right _ _, hC9, hd79, hlo, hI, hJ, rfl⟩⟩ (show (((((0 + 0) + 0) + 0) + 0) + 3) ≤ 110 by omega) (show (((((0 + 0) + 0) + 0) + 0) + 18) ≤ 3100 by omega) dL_isDone_310
            ·
              replace e1 := e1.symm
              subst e1
              replace e2 := e2.symm
              subst e2
              replace e3 := e3.symm
              subst e3
              have hp := (hp.resolve_left (fun q => absurd q.1 (by decide))).2
              refine g_st (st1 := [.int (-20)]) rfl ?_
              have hA := (ac_n (by omega)).mp hp.1
              have hB : ¬ (o2 % 42 ≤ 40 ∧ 1 ≤ o3 % 202 ∧ o3 % 202 ≤ 200) := fun q => hp.2 ⟨(inr_n (a := 0) (b := 40) rfl rfl (by omega) (by decide) (by decide)).mpr ⟨Nat.zero_le _, q.1⟩, (inr_n (a := 1) (b := 200) rfl rfl (by omega) (by decide) (by decide)).mpr q.2⟩
              exact absurd hA (by omega)
            ·
              exact absurd hp (fun q => q.elim (fun z => absurd z.1 (by decide)) (fun z => absurd z.1 (by decide)))
          ·
            exact absurd zc32 (by decide)
    ·
      have zc2n : ¬ (7 ≤ o0) := fun q => zc2 ((nI_leE (show 7 = nI 7 from rfl) (show (nI o0) = nI o0 from rfl) (by omega) (by omega)).mpr q)
      refine g_iload F 2 dL_isDone_71 rfl ?_
      refine g_iconst F dL_isDone_73 (v := 5) (by decide) ?_
      refine g_irem F dL_isDone_74 (by decide) ?_
      refine g_top (y := (nI (o1 % 5))) (Eq.symm (by rw [show (nI o1) = nI o1 from rfl, show 5 = nI 5 from rfl]; exact pk_rem (by omega) (by omega) (by omega))) ?_
      refine g_istore F (lv1 := [(14, .int (nI (o1 % 5))), (13, .int (nI o3)), (12, .int (nI o2)), (11, .int (nI o1)), (10, .int (nI o0)), (0, .ref (ad 10 0)), (1, .ref (D.2 100 40)), (2, .int (nI ka)), (3, .ref (ad 1 0)), (4, .ref (ad 2 0)), (5, .ref (ad 3 0)), (6, .ref (ad 4 0)), (7, .ref (ad 5 0)), (8, .ref (ad 6 0)), (9, .ref (ad 7 0))]) dL_isDone_75 (by decide) rfl ?_
      refine g_iload F 2 dL_isDone_77 rfl ?_
      refine g_bipush F dL_isDone_79 (v := 9) (by decide) ?_
      refine g_irem F dL_isDone_81 (by decide) ?_
      refine g_top (y := (nI (o2 % 9))) (Eq.symm (by rw [show (nI o2) = nI o2 from rfl, show 9 = nI 9 from rfl]; exact pk_rem (by omega) (by omega) (by omega))) ?_
      refine g_istore F (lv1 := [(15, .int (nI (o2 % 9))), (14, .int (nI (o1 % 5))), (13, .int (nI o3)), (12, .int (nI o2)), (11, .int (nI o1)), (10, .int (nI o0)), (0, .ref (ad 10 0)), (1, .ref (D.2 100 40)), (2, .int (nI ka)), (3, .ref (ad 1 0)), (4, .ref (ad 2 0)), (5, .ref (ad 3 0)), (6, .ref (ad 4 0)), (7, .ref (ad 5 0)), (8, .ref (ad 6 0)), (9, .ref (ad 7 0))]) dL_isDone_82 (by decide) rfl ?_
      refine g_iload F 2 dL_isDone_84 rfl ?_
      refine g_iconst F dL_isDone_86 (v := 4) (by decide) ?_
      refine g_irem F dL_isDone_87 (by decide) ?_
      refine g_top (y := (nI (o3 % 4))) (Eq.symm (by rw [show (nI o3) = nI o3 from rfl, show 4 = nI 4 from rfl]; exact pk_rem (by omega) (by omega) (by omega))) ?_
      refine g_cut (w2 := (cw D ad cs σ Lx cap mk ev zl tx mt tn tc (lwd cs la wz))) (pc2 := 104) (lv2 := [(15, .int (nI (o2 % 9))), (14, .int (nI (o1 % 5))), (13, .int (nI o3)), (12, .int (nI o2)), (11, .int (nI o1)), (10, .int (nI o0)), (0, .ref (ad 10 0)), (1, .ref (D.2 100 40)), (2, .int (nI ka)), (3, .ref (ad 1 0)), (4, .ref (ad 2 0)), (5, .ref (ad 3 0)), (6, .ref (ad 4 0)), (7, .ref (ad 5 0)), (8, .ref (ad 6 0)), (9, .ref (ad 7 0))]) (st2 := [.int (if (nI (o3 % 4)) = 0 then ((nI ((o3 / 4) % 102)) - 1) else (-1) : Int32)]) ?_ (fun zhJ34 => ?_)
      ·
        obtain ⟨rf, erf, hrf⟩ : ∃ r9 : Int32, r9 = (if (nI (o3 % 4)) = 0 then ((nI ((o3 / 4) % 102)) - 1) else (-1) : Int32) ∧ (r9 = (-1) ∨ ∃ y, y ≤ 100 ∧ r9 = nI y) := by
          refine ⟨_, rfl, ?_⟩
          have hx : ∀ x, x < 102 → (nI x - 1 = (-1) ∨ ∃ y, y ≤ 100 ∧ nI x - 1 = nI y) := fun x hx => by
            rcases Nat.eq_zero_or_pos x with q | q
            · exact .inl (by rw [q]; decide)
            · exact .inr ⟨x - 1, by omega, nI_m1 q⟩
          split
          · first | exact hx _ (by omega) | exact .inl rfl
          · first | exact hx _ (by omega) | exact .inl rfl
        refine g_top erf ?_
        refine g_istore F (lv1 := [(16, .int rf), (15, .int (nI (o2 % 9))), (14, .int (nI (o1 % 5))), (13, .int (nI o3)), (12, .int (nI o2)), (11, .int (nI o1)), (10, .int (nI o0)), (0, .ref (ad 10 0)), (1, .ref (D.2 100 40)), (2, .int (nI ka)), (3, .ref (ad 1 0)), (4, .ref (ad 2 0)), (5, .ref (ad 3 0)), (6, .ref (ad 4 0)), (7, .ref (ad 5 0)), (8, .ref (ad 6 0)), (9, .ref (ad 7 0))]) dL_isDone_104 (by decide) rfl ?_
        refine g_iload F 1 dL_isDone_106 rfl ?_
        refine g_bipush F dL_isDone_108 (v := 8) (by decide) ?_
        refine g_cut (w2 := (cw D ad cs σ Lx cap mk ev zl tx mt tn tc (lwd cs la wz))) (pc2 := 125) (lv2 := [(16, .int rf), (15, .int (nI (o2 % 9))), (14, .int (nI (o1 % 5))), (13, .int (nI o3)), (12, .int (nI o2)), (11, .int (nI o1)), (10, .int (nI o0)), (0, .ref (ad 10 0)), (1, .ref (D.2 100 40)), (2, .int (nI ka)), (3, .ref (ad 1 0)), (4, .ref (ad 2 0)), (5, .ref (ad 3 0)), (6, .ref (ad 4 0)), (7, .ref (ad 5 0)), (8, .ref (ad 6 0)), (9, .ref (ad 7 0))]) (st2 := [.int (bi (((¬ 8 ≤ (nI (o2 % 9))) ∧ (¬ 100 ≤ rf))))]) ?_ (fun zhJ35 => ?_)
        ·
          by_cases hF : ((¬ 8 ≤ (nI (o2 % 9))) ∧ (¬ 100 ≤ rf))
          ·
            refine g_istore F (lv1 := [(17, .int (bi (((¬ 8 ≤ (nI (o2 % 9))) ∧ (¬ 100 ≤ rf))))), (16, .int rf), (15, .int (nI (o2 % 9))), (14, .int (nI (o1 % 5))), (13, .int (nI o3)), (12, .int (nI o2)), (11, .int (nI o1)), (10, .int (nI o0)), (0, .ref (ad 10 0)), (1, .ref (D.2 100 40)), (2, .int (nI ka)), (3, .ref (ad 1 0)), (4, .ref (ad 2 0)), (5, .ref (ad 3 0)), (6, .ref (ad 4 0)), (7, .ref (ad 5 0)), (8, .ref (ad 6 0)), (9, .ref (ad 7 0))]) dL_isDone_125 (by decide) rfl ?_
            refine g_iload F 3 dL_isDone_127 rfl ?_
            refine g_iconst F dL_isDone_129 (v := 4) (by decide) ?_
            refine g_icmp_ge F (tgt := 152) dL_isDone_130 (by decide) (fun zc36 => ?_) (fun zc36 => ?_)
            ·
              have zc36n : 4 ≤ (o1 % 5) := (nI_leE (show 4 = nI 4 from rfl) (show (nI (o1 % 5)) = nI (o1 % 5) from rfl) (by omega) (by omega)).mp zc36
              refine g_aload_n F 8 dL_isDone_152 rfl rfl ?_
              refine g_iconst F dL_isDone_153 (v := 1) (by decide) ?_
              refine g_iload F 3 dL_isDone_154 rfl ?_
              refine g_iload F 2 dL_isDone_156 rfl ?_
              refine g_iload F 1 dL_isDone_158 rfl ?_
              refine g_iload F 6 dL_isDone_160 rfl ?_
              refine g_iconst F dL_isDone_162 (v := 5) (by decide) ?_
              refine g_idiv F dL_isDone_163 (by decide) ?_
              refine g_top (y := (nI (o1 / 5))) (Eq.symm (by rw [show (nI o1) = nI o1 from rfl, show 5 = nI 5 from rfl]; exact pk_div (by omega) (by omega) (by omega))) ?_
              refine g_iconst F dL_isDone_164 (v := 2) (by decide) ?_
              refine g_irem F dL_isDone_165 (by decide) ?_
              refine g_top (y := (nI ((o1 / 5) % 2))) (Eq.symm (by rw [show (nI (o1 / 5)) = nI (o1 / 5) from rfl, show 2 = nI 2 from rfl]; exact pk_rem (by omega) (by omega) (by omega))) ?_
              refine q_callSW F (rest := []) [.ref (ad 10 0), .int 1, .int (nI (o1 % 5)), .int (nI (o2 % 9)), .int rf, .int (nI ((o1 / 5) % 2))] (ld_setOptions l D A cs ad d9 (cw D ad cs σ Lx cap mk ev zl tx mt tn tc (lwd cs la wz)) (nI (o1 % 5)) (nI (o2 % 9)) rf (nI ((o1 / 5) % 2)) (cc_setOptions l D A cs ad d9 σ Lx cap mk ev zl tx mt tn tc (lwd cs la wz) n tq hC9 (nI (o1 % 5)) (nI (o2 % 9)) rf ((nI ((o1 / 5) % 2)) = 1) hfl) hC9.1 rfl (fun v ad1 dm1 w1 h => h.2.1) (fun E h => h.elim (fun q => .inl q.1) (fun q => .inr (.inl q.1)))) (vx_cwSW 6 F.1.2.2.2.2 gL_isDone_L_does rfl rfl rfl (by decide +kernel) ⟨Nat.le_of_ble_eq_true rfl, Nat.le_of_ble_eq_true rfl⟩) rfl rfl (Nat.le_of_ble_eq_true rfl) dL_isDone_166 ⟨show ((((0 + 0) + 0) + 0) + 0) + 3 ≤ 110 by omega, show ((((0 + 0) + 0) + 0) + 0) + 18 ≤ 3100 by omega⟩ (fun rz ad1 dm1 w1 hv => ?_)
              rcases hv with hp | ⟨hp, rfl, e1, e2, e3⟩ | ⟨hp, rfl, e1, e2, e3⟩ | ⟨hp, rfl, e1, e2, e3⟩
              ·
                have ea : ix (nI (o1 % 5)) = (o1 % 5) := ix_nI (by omega)
                rw [ea] at hp
                obtain ⟨rfl, ⟨hA, hK, hRf⟩, -, rfl, rfl, e3⟩ := hp
                have hA := (ac_n (by omega)).mp hA
                have hK := (inr_n (a := 0) (b := 7) rfl rfl (by omega) (by decide) (by decide)).mp hK
                exact absurd hA (by omega)
              ·
                replace e1 := e1.symm
                subst e1
                replace e2 := e2.symm
                subst e2
                replace e3 := e3.symm
                subst e3
                have hp := (hp.resolve_right (fun q => absurd q.1 (by decide))).2
                refine g_st (st1 := [.int (-30)]) rfl ?_
                have hA : ¬ (o1 % 5) < 4 := fun q => hp ((ac_n (by omega)).mpr q)
                refine g_iload F 3 dL_isDone_169 rfl ?_
                refine g_iconst F dL_isDone_171 (v := 4) (by decide) ?_
                refine g_icmp_ne F (tgt := 180) dL_isDone_172 (by decide) (fun zc37 => ?_) (fun zc37 => ?_)
                ·
                  exact absurd ((nI_eqE (show (nI (o1 % 5)) = nI (o1 % 5) from rfl) (show 4 = nI 4 from rfl) (by omega) (by omega)).mpr (by omega)) zc37
                ·
                  refine g_bipush F dL_isDone_175 (v := -30) (by decide) ?_
                  refine g_goto F (tgt := 191) dL_isDone_177 (by decide) ?_
                  refine g_icmp_ne F (tgt := 198) dL_isDone_191 (by decide) (fun zc38 => ?_) (fun zc38 => ?_)
                  ·
                    exact absurd zc38 (by decide)
                  ·
                    refine g_iconst F dL_isDone_194 (v := 1) (by decide) ?_
                    refine g_goto F (tgt := 199) dL_isDone_195 (by decide) ?_
                    exact g_qz F hr rfl hlocks (fun _ h => h) ⟨rfl, ⟨n, tq, t, σ, Lx, cap, mk, ev, zl, tx, mt, tn, tc, la, wz, kt, rd, fun _ _ => rfl, Nat.le_add_right _ _, hC9, hd79, hlo, hI, hJ, rfl⟩⟩ (show (((((0 + 0) + 0) + 0) + 0) + 3) ≤ 110 by omega) (show (((((0 + 0) + 0) + 0) + 0) + 18) ≤ 3100 by omega) dL_isDone_199
              ·
                replace e1 := e1.symm
                subst e1
                replace e2 := e2.symm
                subst e2
                replace e3 := e3.symm
                subst e3
                have hp := (hp.resolve_left (fun q => absurd q.1 (by decide))).2
                refine g_st (st1 := [.int (-20)]) rfl ?_
                have hA := (ac_n (by omega)).mp hp.1
                exact absurd hA (by omega)
              ·
                exact absurd hp (fun q => q.elim (fun z => absurd z.1 (by decide)) (fun z => absurd z.1 (by decide)))
            ·
              have zc36n : ¬ (4 ≤ (o1 % 5)) := fun q => zc36 ((nI_leE (show 4 = nI 4 from rfl) (show (nI (o1 % 5)) = nI (o1 % 5) from rfl) (by omega) (by omega)).mpr q)
              refine g_iload F 0 dL_isDone_133 rfl ?_
              refine g_ifb_eq F (tgt := 152) dL_isDone_135 (by decide) (fun zc39 => ?_) (fun zc39 => ?_)
              ·
                exact absurd hF zc39
              ·
                refine g_aload F 16 dL_isDone_138 rfl ?_
                refine g_bipush F dL_isDone_140 (v := 8) (by decide) ?_
                refine g_iload F 3 dL_isDone_142 rfl ?_
                refine g_iadd F dL_isDone_144 ?_
                refine g_top (y := (nI (8 + (o1 % 5)))) (Eq.symm (nI_addE (show 8 = nI 8 from rfl) (show (nI (o1 % 5)) = nI (o1 % 5) from rfl))) ?_
                refine g_iload F 6 dL_isDone_145 rfl ?_
                refine g_iconst F dL_isDone_147 (v := 5) (by decide) ?_
                refine g_idiv F dL_isDone_148 (by decide) ?_
                refine g_top (y := (nI (o1 / 5))) (Eq.symm (by rw [show (nI o1) = nI o1 from rfl, show 5 = nI 5 from rfl]; exact pk_div (by omega) (by omega) (by omega))) ?_
                refine g_iconst F dL_isDone_149 (v := 2) (by decide) ?_
                refine g_irem F dL_isDone_150 (by decide) ?_
                refine g_top (y := (nI ((o1 / 5) % 2))) (Eq.symm (by rw [show (nI (o1 / 5)) = nI (o1 / 5) from rfl, show 2 = nI 2 from rfl]; exact pk_rem (by omega) (by omega) (by omega))) ?_
                refine l_st F (K := 6) (j := (8 + (o1 % 5))) hd79 ⟨by decide, by decide⟩ rfl (show (8 + (o1 % 5)) < 16 by omega) dL_isDone_151 ?_
                refine g_aload_n F 8 dL_isDone_152 rfl rfl ?_
                refine g_iconst F dL_isDone_153 (v := 1) (by decide) ?_
                refine g_iload F 3 dL_isDone_154 rfl ?_
                refine g_iload F 2 dL_isDone_156 rfl ?_
                refine g_iload F 1 dL_isDone_158 rfl ?_
                refine g_iload F 6 dL_isDone_160 rfl ?_
                refine g_iconst F dL_isDone_162 (v := 5) (by decide) ?_
                refine g_idiv F dL_isDone_163 (by decide) ?_
                refine g_top (y := (nI (o1 / 5))) (Eq.symm (by rw [show (nI o1) = nI o1 from rfl, show 5 = nI 5 from rfl]; exact pk_div (by omega) (by omega) (by omega))) ?_
                refine g_iconst F dL_isDone_164 (v := 2) (by decide) ?_
                refine g_irem F dL_isDone_165 (by decide) ?_
                refine g_top (y := (nI ((o1 / 5) % 2))) (Eq.symm (by rw [show (nI (o1 / 5)) = nI (o1 / 5) from rfl, show 2 = nI 2 from rfl]; exact pk_rem (by omega) (by omega) (by omega))) ?_
                refine q_callSW F (rest := []) [.ref (ad 10 0), .int 1, .int (nI (o1 % 5)), .int (nI (o2 % 9)), .int rf, .int (nI ((o1 / 5) % 2))] (ld_setOptions l D A cs ad d9 (cw D ad cs σ Lx cap mk ev zl tx mt tn tc (lwd cs (up2 la 6 (8 + (o1 % 5)) (nI ((o1 / 5) % 2))) wz)) (nI (o1 % 5)) (nI (o2 % 9)) rf (nI ((o1 / 5) % 2)) (cc_setOptions l D A cs ad d9 σ Lx cap mk ev zl tx mt tn tc (lwd cs (up2 la 6 (8 + (o1 % 5)) (nI ((o1 / 5) % 2))) wz) n tq hC9 (nI (o1 % 5)) (nI (o2 % 9)) rf ((nI ((o1 / 5) % 2)) = 1) hfl) hC9.1 rfl (fun v ad1 dm1 w1 h => h.2.1) (fun E h => h.elim (fun q => .inl q.1) (fun q => .inr (.inl q.1)))) (vx_cwSW 6 F.1.2.2.2.2 gL_isDone_L_does rfl rfl rfl (by decide +kernel) ⟨Nat.le_of_ble_eq_true rfl, Nat.le_of_ble_eq_true rfl⟩) rfl rfl (Nat.le_of_ble_eq_true rfl) dL_isDone_166 ⟨show ((((0 + 0) + 0) + 0) + 0) + 3 ≤ 110 by omega, show ((((0 + 0) + 0) + 0) + 0) + 18 ≤ 3100 by omega⟩ (fun rz ad1 dm1 w1 hv => ?_)
                rcases hv with hp | ⟨hp, rfl, e1, e2, e3⟩ | ⟨hp, rfl, e1, e2, e3⟩ | ⟨hp, rfl, e1, e2, e3⟩
                ·
                  have ea : ix (nI (o1 % 5)) = (o1 % 5) := ix_nI (by omega)
                  rw [ea] at hp
                  obtain ⟨rfl, ⟨hA, hK, hRf⟩, -, rfl, rfl, e3⟩ := hp
                  have hA := (ac_n (by omega)).mp hA
                  have hK := (inr_n (a := 0) (b := 7) rfl rfl (by omega) (by decide) (by decide)).mp hK
                  obtain ⟨τ, hG, hLJ⟩ := gx_options (D := D) (cs := cs) (w0 := (lwd cs (up2 la 6 (8 + (o1 % 5)) (nI ((o1 / 5) % 2))) wz)) (ad := ad) (mk := mk) hC9 hlo hI hA (nI (o2 % 9)) rf (nI (o1 / 5 % 2) = 1)
                  rw [e3] at hG
                  rw [← bi_n (show (o1 / 5 % 2) < 2 by omega)] at hLJ
                  obtain ⟨tq1, cap1, mk1, ev1, zl1, tx1, mt1, tn1, tc1, hC1, hlo1, hI1, had1, hdm1, rfl⟩ := hG
                  have hd71 : ∀ k, 1 ≤ k → k ≤ 7 → d9 k 0 := fun k h1 h2 => hdm1 k 0 (by omega) (hd79 k h1 h2)
                  refine g_st (st1 := [.int 0]) rfl ?_
                  refine g_iload F 3 dL_isDone_169 rfl ?_
                  refine g_iconst F dL_isDone_171 (v := 4) (by decide) ?_
                  refine g_icmp_ne F (tgt := 180) dL_isDone_172 (by decide) (fun zc40 => ?_) (fun zc40 => ?_)
                  ·
                    refine g_iload F 0 dL_isDone_180 rfl ?_
                    refine g_ifb_eq F (tgt := 189) dL_isDone_182 (by decide) (fun zc41 => ?_) (fun zc41 => ?_)
                    ·
                      exact absurd hF zc41
                    ·
                      refine g_iconst F dL_isDone_185 (v := 0) (by decide) ?_
                      refine g_goto F (tgt := 191) dL_isDone_186 (by decide) ?_
                      refine g_icmp_ne F (tgt := 198) dL_isDone_191 (by decide) (fun zc42 => ?_) (fun zc42 => ?_)
                      ·
                        exact absurd zc42 (by decide)
                      ·
                        refine g_iconst F dL_isDone_194 (v := 1) (by decide) ?_
                        refine g_goto F (tgt := 199) dL_isDone_195 (by decide) ?_
                        exact g_qz F hr rfl hlocks (fun _ h => h) ⟨rfl, ⟨n, tq1, t, τ, Lx, cap1, mk1, ev1, zl1, tx1, mt1, tn1, tc1, (up2 la 6 (8 + (o1 % 5)) (nI ((o1 / 5) % 2))), wz, kt, rd, fun k hk => had1 k 0 hk, Nat.le_add_right _ _, hC1, hd71, hlo1, hI1, (hLJ la kt rd hJ), rfl⟩⟩ (show (((((0 + 0) + 0) + 0) + 0) + 3) ≤ 110 by omega) (show (((((0 + 0) + 0) + 0) + 0) + 18) ≤ 3100 by omega) dL_isDone_199
                  ·
                    exact absurd ((nI_eqE (show (nI (o1 % 5)) = nI (o1 % 5) from rfl) (show 4 = nI 4 from rfl) (by omega) (by omega)).mp zc40) (by omega)
                ·
                  replace e1 := e1.symm
                  subst e1
                  replace e2 := e2.symm
                  subst e2
                  replace e3 := e3.symm
                  subst e3
                  have hp := (hp.resolve_right (fun q => absurd q.1 (by decide))).2
                  refine g_st (st1 := [.int (-30)]) rfl ?_
                  have hA : ¬ (o1 % 5) < 4 := fun q => hp ((ac_n (by omega)).mpr q)
                  exact absurd hA (by omega)
                ·
                  replace e1 := e1.symm
                  subst e1
                  replace e2 := e2.symm
                  subst e2
                  replace e3 := e3.symm
                  subst e3
                  have hp := (hp.resolve_left (fun q => absurd q.1 (by decide))).2
                  refine g_st (st1 := [.int (-20)]) rfl ?_
                  have hA := (ac_n (by omega)).mp hp.1
                  exact absurd ⟨(inr_n (a := 0) (b := 7) rfl rfl (by omega) (by decide) (by decide)).mpr ⟨Nat.zero_le _, by have z : ¬ 8 ≤ (o2 % 9) := fun q => hF.1 ((nI_leE (show (8 : Int32) = nI 8 from rfl) (show nI (o2 % 9) = nI (o2 % 9) from rfl) (by decide) (by omega)).mpr q); omega⟩, (opt_1 hrf).mpr hF.2⟩ hp.2
                ·
                  exact absurd hp (fun q => q.elim (fun z => absurd z.1 (by decide)) (fun z => absurd z.1 (by decide)))
          ·
            refine g_istore F (lv1 := [(17, .int (bi (((¬ 8 ≤ (nI (o2 % 9))) ∧ (¬ 100 ≤ rf))))), (16, .int rf), (15, .int (nI (o2 % 9))), (14, .int (nI (o1 % 5))), (13, .int (nI o3)), (12, .int (nI o2)), (11, .int (nI o1)), (10, .int (nI o0)), (0, .ref (ad 10 0)), (1, .ref (D.2 100 40)), (2, .int (nI ka)), (3, .ref (ad 1 0)), (4, .ref (ad 2 0)), (5, .ref (ad 3 0)), (6, .ref (ad 4 0)), (7, .ref (ad 5 0)), (8, .ref (ad 6 0)), (9, .ref (ad 7 0))]) dL_isDone_125 (by decide) rfl ?_
            refine g_iload F 3 dL_isDone_127 rfl ?_
            refine g_iconst F dL_isDone_129 (v := 4) (by decide) ?_
            refine g_icmp_ge F (tgt := 152) dL_isDone_130 (by decide) (fun zc43 => ?_) (fun zc43 => ?_)
            ·
              have zc43n : 4 ≤ (o1 % 5) := (nI_leE (show 4 = nI 4 from rfl) (show (nI (o1 % 5)) = nI (o1 % 5) from rfl) (by omega) (by omega)).mp zc43
              refine g_aload_n F 8 dL_isDone_152 rfl rfl ?_
              refine g_iconst F dL_isDone_153 (v := 1) (by decide) ?_
              refine g_iload F 3 dL_isDone_154 rfl ?_
              refine g_iload F 2 dL_isDone_156 rfl ?_
              refine g_iload F 1 dL_isDone_158 rfl ?_
              refine g_iload F 6 dL_isDone_160 rfl ?_
              refine g_iconst F dL_isDone_162 (v := 5) (by decide) ?_
              refine g_idiv F dL_isDone_163 (by decide) ?_
              refine g_top (y := (nI (o1 / 5))) (Eq.symm (by rw [show (nI o1) = nI o1 from rfl, show 5 = nI 5 from rfl]; exact pk_div (by omega) (by omega) (by omega))) ?_
              refine g_iconst F dL_isDone_164 (v := 2) (by decide) ?_
              refine g_irem F dL_isDone_165 (by decide) ?_
              refine g_top (y := (nI ((o1 / 5) % 2))) (Eq.symm (by rw [show (nI (o1 / 5)) = nI (o1 / 5) from rfl, show 2 = nI 2 from rfl]; exact pk_rem (by omega) (by omega) (by omega))) ?_
              refine q_callSW F (rest := []) [.ref (ad 10 0), .int 1, .int (nI (o1 % 5)), .int (nI (o2 % 9)), .int rf, .int (nI ((o1 / 5) % 2))] (ld_setOptions l D A cs ad d9 (cw D ad cs σ Lx cap mk ev zl tx mt tn tc (lwd cs la wz)) (nI (o1 % 5)) (nI (o2 % 9)) rf (nI ((o1 / 5) % 2)) (cc_setOptions l D A cs ad d9 σ Lx cap mk ev zl tx mt tn tc (lwd cs la wz) n tq hC9 (nI (o1 % 5)) (nI (o2 % 9)) rf ((nI ((o1 / 5) % 2)) = 1) hfl) hC9.1 rfl (fun v ad1 dm1 w1 h => h.2.1) (fun E h => h.elim (fun q => .inl q.1) (fun q => .inr (.inl q.1)))) (vx_cwSW 6 F.1.2.2.2.2 gL_isDone_L_does rfl rfl rfl (by decide +kernel) ⟨Nat.le_of_ble_eq_true rfl, Nat.le_of_ble_eq_true rfl⟩) rfl rfl (Nat.le_of_ble_eq_true rfl) dL_isDone_166 ⟨show ((((0 + 0) + 0) + 0) + 0) + 3 ≤ 110 by omega, show ((((0 + 0) + 0) + 0) + 0) + 18 ≤ 3100 by omega⟩ (fun rz ad1 dm1 w1 hv => ?_)
              rcases hv with hp | ⟨hp, rfl, e1, e2, e3⟩ | ⟨hp, rfl, e1, e2, e3⟩ | ⟨hp, rfl, e1, e2, e3⟩
              ·
                have ea : ix (nI (o1 % 5)) = (o1 % 5) := ix_nI (by omega)
                rw [ea] at hp
                obtain ⟨rfl, ⟨hA, hK, hRf⟩, -, rfl, rfl, e3⟩ := hp
                have hA := (ac_n (by omega)).mp hA
                have hK := (inr_n (a := 0) (b := 7) rfl rfl (by omega) (by decide) (by decide)).mp hK
                exact absurd hA (by omega)
              ·
                replace e1 := e1.symm
                subst e1
                replace e2 := e2.symm
                subst e2
                replace e3 := e3.symm
                subst e3
                have hp := (hp.resolve_right (fun q => absurd q.1 (by decide))).2
                refine g_st (st1 := [.int (-30)]) rfl ?_
                have hA : ¬ (o1 % 5) < 4 := fun q => hp ((ac_n (by omega)).mpr q)
                refine g_iload F 3 dL_isDone_169 rfl ?_
                refine g_iconst F dL_isDone_171 (v := 4) (by decide) ?_
                refine g_icmp_ne F (tgt := 180) dL_isDone_172 (by decide) (fun zc44 => ?_) (fun zc44 => ?_)
                ·
                  exact absurd ((nI_eqE (show (nI (o1 % 5)) = nI (o1 % 5) from rfl) (show 4 = nI 4 from rfl) (by omega) (by omega)).mpr (by omega)) zc44
                ·
                  refine g_bipush F dL_isDone_175 (v := -30) (by decide) ?_
                  refine g_goto F (tgt := 191) dL_isDone_177 (by decide) ?_
                  refine g_icmp_ne F (tgt := 198) dL_isDone_191 (by decide) (fun zc45 => ?_) (fun zc45 => ?_)
                  ·
                    exact absurd zc45 (by decide)
                  ·
                    refine g_iconst F dL_isDone_194 (v := 1) (by decide) ?_
                    refine g_goto F (tgt := 199) dL_isDone_195 (by decide) ?_
                    exact g_qz F hr rfl hlocks (fun _ h => h) ⟨rfl, ⟨n, tq, t, σ, Lx, cap, mk, ev, zl, tx, mt, tn, tc, la, wz, kt, rd, fun _ _ => rfl, Nat.le_add_right _ _, hC9, hd79, hlo, hI, hJ, rfl⟩⟩ (show (((((0 + 0) + 0) + 0) + 0) + 3) ≤ 110 by omega) (show (((((0 + 0) + 0) + 0) + 0) + 18) ≤ 3100 by omega) dL_isDone_199
              ·
                replace e1 := e1.symm
                subst e1
                replace e2 := e2.symm
                subst e2
                replace e3 := e3.symm
                subst e3
                have hp := (hp.resolve_left (fun q => absurd q.1 (by decide))).2
                refine g_st (st1 := [.int (-20)]) rfl ?_
                have hA := (ac_n (by omega)).mp hp.1
                exact absurd hA (by omega)
              ·
                exact absurd hp (fun q => q.elim (fun z => absurd z.1 (by decide)) (fun z => absurd z.1 (by decide)))
            ·
              have zc43n : ¬ (4 ≤ (o1 % 5)) := fun q => zc43 ((nI_leE (show 4 = nI 4 from rfl) (show (nI (o1 % 5)) = nI (o1 % 5) from rfl) (by omega) (by omega)).mpr q)
              refine g_iload F 0 dL_isDone_133 rfl ?_
              refine g_ifb_eq F (tgt := 152) dL_isDone_135 (by decide) (fun zc46 => ?_) (fun zc46 => ?_)
              ·
                refine g_aload_n F 8 dL_isDone_152 rfl rfl ?_
                refine g_iconst F dL_isDone_153 (v := 1) (by decide) ?_
                refine g_iload F 3 dL_isDone_154 rfl ?_
                refine g_iload F 2 dL_isDone_156 rfl ?_
                refine g_iload F 1 dL_isDone_158 rfl ?_
                refine g_iload F 6 dL_isDone_160 rfl ?_
                refine g_iconst F dL_isDone_162 (v := 5) (by decide) ?_
                refine g_idiv F dL_isDone_163 (by decide) ?_
                refine g_top (y := (nI (o1 / 5))) (Eq.symm (by rw [show (nI o1) = nI o1 from rfl, show 5 = nI 5 from rfl]; exact pk_div (by omega) (by omega) (by omega))) ?_
                refine g_iconst F dL_isDone_164 (v := 2) (by decide) ?_
                refine g_irem F dL_isDone_165 (by decide) ?_
                refine g_top (y := (nI ((o1 / 5) % 2))) (Eq.symm (by rw [show (nI (o1 / 5)) = nI (o1 / 5) from rfl, show 2 = nI 2 from rfl]; exact pk_rem (by omega) (by omega) (by omega))) ?_
                refine q_callSW F (rest := []) [.ref (ad 10 0), .int 1, .int (nI (o1 % 5)), .int (nI (o2 % 9)), .int rf, .int (nI ((o1 / 5) % 2))] (ld_setOptions l D A cs ad d9 (cw D ad cs σ Lx cap mk ev zl tx mt tn tc (lwd cs la wz)) (nI (o1 % 5)) (nI (o2 % 9)) rf (nI ((o1 / 5) % 2)) (cc_setOptions l D A cs ad d9 σ Lx cap mk ev zl tx mt tn tc (lwd cs la wz) n tq hC9 (nI (o1 % 5)) (nI (o2 % 9)) rf ((nI ((o1 / 5) % 2)) = 1) hfl) hC9.1 rfl (fun v ad1 dm1 w1 h => h.2.1) (fun E h => h.elim (fun q => .inl q.1) (fun q => .inr (.inl q.1)))) (vx_cwSW 6 F.1.2.2.2.2 gL_isDone_L_does rfl rfl rfl (by decide +kernel) ⟨Nat.le_of_ble_eq_true rfl, Nat.le_of_ble_eq_true rfl⟩) rfl rfl (Nat.le_of_ble_eq_true rfl) dL_isDone_166 ⟨show ((((0 + 0) + 0) + 0) + 0) + 3 ≤ 110 by omega, show ((((0 + 0) + 0) + 0) + 0) + 18 ≤ 3100 by omega⟩ (fun rz ad1 dm1 w1 hv => ?_)
                rcases hv with hp | ⟨hp, rfl, e1, e2, e3⟩ | ⟨hp, rfl, e1, e2, e3⟩ | ⟨hp, rfl, e1, e2, e3⟩
                ·
                  have ea : ix (nI (o1 % 5)) = (o1 % 5) := ix_nI (by omega)
                  rw [ea] at hp
                  obtain ⟨rfl, ⟨hA, hK, hRf⟩, -, rfl, rfl, e3⟩ := hp
                  have hA := (ac_n (by omega)).mp hA
                  have hK := (inr_n (a := 0) (b := 7) rfl rfl (by omega) (by decide) (by decide)).mp hK
                  exact absurd ⟨fun q => absurd ((nI_leE (show (8 : Int32) = nI 8 from rfl) (show nI (o2 % 9) = nI (o2 % 9) from rfl) (by decide) (by omega)).mp q) (by omega), (opt_1 hrf).mp hRf⟩ hF
                ·
                  replace e1 := e1.symm
                  subst e1
                  replace e2 := e2.symm
                  subst e2
                  replace e3 := e3.symm
                  subst e3
                  have hp := (hp.resolve_right (fun q => absurd q.1 (by decide))).2
                  refine g_st (st1 := [.int (-30)]) rfl ?_
                  have hA : ¬ (o1 % 5) < 4 := fun q => hp ((ac_n (by omega)).mpr q)
                  exact absurd hA (by omega)
                ·
                  replace e1 := e1.symm
                  subst e1
                  replace e2 := e2.symm
                  subst e2
                  replace e3 := e3.symm
                  subst e3
                  have hp := (hp.resolve_left (fun q => absurd q.1 (by decide))).2
                  refine g_st (st1 := [.int (-20)]) rfl ?_
                  have hA := (ac_n (by omega)).mp hp.1
                  refine g_iload F 3 dL_isDone_169 rfl ?_
                  refine g_iconst F dL_isDone_171 (v := 4) (by decide) ?_
                  refine g_icmp_ne F (tgt := 180) dL_isDone_172 (by decide) (fun zc47 => ?_) (fun zc47 => ?_)
                  ·
                    refine g_iload F 0 dL_isDone_180 rfl ?_
                    refine g_ifb_eq F (tgt := 189) dL_isDone_182 (by decide) (fun zc48 => ?_) (fun zc48 => ?_)
                    ·
                      refine g_bipush F dL_isDone_189 (v := -20) (by decide) ?_
                      refine g_icmp_ne F (tgt := 198) dL_isDone_191 (by decide) (fun zc49 => ?_) (fun zc49 => ?_)
                      ·
                        exact absurd zc49 (by decide)
                      ·
                        refine g_iconst F dL_isDone_194 (v := 1) (by decide) ?_
                        refine g_goto F (tgt := 199) dL_isDone_195 (by decide) ?_
                        exact g_qz F hr rfl hlocks (fun _ h => h) ⟨rfl, ⟨n, tq, t, σ, Lx, cap, mk, ev, zl, tx, mt, tn, tc, la, wz, kt, rd, fun _ _ => rfl, Nat.le_add_right _ _, hC9, hd79, hlo, hI, hJ, rfl⟩⟩ (show (((((0 + 0) + 0) + 0) + 0) + 3) ≤ 110 by omega) (show (((((0 + 0) + 0) + 0) + 0) + 18) ≤ 3100 by omega) dL_isDone_199
                    ·
                      exact absurd zc48 hF
                  ·
                    exact absurd ((nI_eqE (show (nI (o1 % 5)) = nI (o1 % 5) from rfl) (show 4 = nI 4 from rfl) (by omega) (by omega)).mp zc47) (by omega)
                ·
                  exact absurd hp (fun q => q.elim (fun z => absurd z.1 (by decide)) (fun z => absurd z.1 (by decide)))
              ·
                exact absurd zc46 hF
        ·
          refine g_icmp_ge F (tgt := 124) dL_isDone_110 (by decide) (fun zc50 => ?_) (fun zc50 => ?_)
          ·
            refine g_iconst F dL_isDone_124 (v := 0) (by decide) ?_
            exact g_top (bi_f (fun q => (fun q => q zc50) q.1)) zhJ35
          ·
            refine g_iload F 0 dL_isDone_113 rfl ?_
            refine g_bipush F dL_isDone_115 (v := 100) (by decide) ?_
            refine g_icmp_ge F (tgt := 124) dL_isDone_117 (by decide) (fun zc51 => ?_) (fun zc51 => ?_)
            ·
              refine g_iconst F dL_isDone_124 (v := 0) (by decide) ?_
              exact g_top (bi_f (fun q => (fun q => q zc51) q.2)) zhJ35
            ·
              refine g_iconst F dL_isDone_120 (v := 1) (by decide) ?_
              refine g_goto F (tgt := 125) dL_isDone_121 (by decide) ?_
              exact g_top (bi_t ⟨zc50, zc51⟩) zhJ35
      ·
        refine g_if_ne F (tgt := 103) dL_isDone_88 (by decide) (fun zc52 => ?_) (fun zc52 => ?_)
        ·
          refine g_iconst F dL_isDone_103 (v := -1) (by decide) ?_
          exact g_top (by rw [if_neg zc52]) zhJ34
        ·
          refine g_iload F 2 dL_isDone_91 rfl ?_
          refine g_iconst F dL_isDone_93 (v := 4) (by decide) ?_
          refine g_idiv F dL_isDone_94 (by decide) ?_
          refine g_top (y := (nI (o3 / 4))) (Eq.symm (by rw [show (nI o3) = nI o3 from rfl, show 4 = nI 4 from rfl]; exact pk_div (by omega) (by omega) (by omega))) ?_
          refine g_bipush F dL_isDone_95 (v := 102) (by decide) ?_
          refine g_irem F dL_isDone_97 (by decide) ?_
          refine g_top (y := (nI ((o3 / 4) % 102))) (Eq.symm (by rw [show (nI (o3 / 4)) = nI (o3 / 4) from rfl, show 102 = nI 102 from rfl]; exact pk_rem (by omega) (by omega) (by omega))) ?_
          refine g_iconst F dL_isDone_98 (v := 1) (by decide) ?_
          refine g_isub F dL_isDone_99 ?_
          refine g_goto F (tgt := 104) dL_isDone_100 (by decide) ?_
          exact g_top (by rw [if_pos zc52]) zhJ34
  ·
    have zc1n : ¬ (4 ≤ o0) := fun q => zc1 ((nI_leE (show 4 = nI 4 from rfl) (show (nI o0) = nI o0 from rfl) (by omega) (by omega)).mpr q)
    refine g_aload_n F 4 dL_isDone_51 rfl rfl ?_
    refine g_aload F 12 dL_isDone_52 rfl ?_
    refine g_iload F 2 dL_isDone_54 rfl ?_
    refine g_iload F 1 dL_isDone_56 rfl ?_
    refine g_iload F 0 dL_isDone_58 rfl ?_
    refine q_callS F (rest := []) [.ref (ad 10 0), .ref (ad 6 0), .int (nI o1), .int (nI o2), .int (nI o3)] (lw_isDraft l D A cs ad d9 σ Lx cap mk ev zl tx mt tn tc la wz n tq t kt rd hC9 hd79 hlo hI hJ htb hfl o1 o2 o3 (by omega) (by omega) (by omega)) (va_cwS 5 F.1.2.2.2.2 gL_isDone_L_isDraft rfl rfl rfl (by decide +kernel) ⟨Nat.le_of_ble_eq_true rfl, Nat.le_of_ble_eq_true rfl⟩) rfl rfl (Nat.le_of_ble_eq_true rfl) dL_isDone_60 ⟨show ((((0 + 0) + 0) + 0) + 0) + 5 ≤ 110 by omega, show ((((0 + 0) + 0) + 0) + 0) + 34 ≤ 3100 by omega⟩ (fun _ _ _ _ hv => ?_)
    obtain ⟨rfl, hPS⟩ := hv
    refine g_st (st1 := [.int 1]) rfl ?_
    exact g_qz F hr rfl hlocks (fun _ h => h) ⟨rfl, hPS⟩ (show (((((0 + 0) + 0) + 0) + 0) + 5) ≤ 110 by omega) (show (((((0 + 0) + 0) + 0) + 0) + 34) ≤ 3100 by omega) dL_isDone_63
