theorem rd_v {a b : Nat} (ha : a ≤ 50) (hb : b ≤ 51) : (if (0 : Int32) < nI a - nI b then nI a - nI b else 0) = nI (a - b) := by
  have hall : (List.range 51).all (fun a => (List.range 52).all (fun b => decide ((if (0 : Int32) < nI a - nI b then nI a - nI b else 0) = nI (a - b)))) = true := by decide +kernel
  exact of_decide_eq_true (List.all_eq_true.mp (List.all_eq_true.mp hall a (List.mem_range.mpr (by omega))) b (List.mem_range.mpr (by omega)))
set_option maxHeartbeats 4000000 in
set_option maxRecDepth 100000 in
theorem lw_isRecipient0 (l : Launch) (D : va_G) (A : Nat → Prop) (cs : Nat → ClassId) (ad : Nat → Nat → Nat) (dm : Nat → Nat → Prop) (σ : SG) (Lx : Nat → List Nat) (cap : Nat → Nat) (mk : Nat → Int32) (ev : SG) (zl tx mt tn : Nat → Nat) (tc : SG) (la : SG) (wz : CF) (n tq t : Nat) (kt rd : Nat → Nat) (hC : CD dm n cap tq) (hd7 : ∀ k, 1 ≤ k → k ≤ 7 → dm k 0) (hlo : LO n Lx cap) (hI : INV n tq t σ Lx ev zl tx mt tn tc) (hJ : LJ n t σ la Lx kt rd) (htb : t ≤ 100000) (hfl : l.stackTraces = false) (o1 o2 : Nat) (ho1 : o1 < 7) (ho2 : o2 ≤ 10000) : Met l yL_isRecipient wsL_isRecipient ({ frames := 9, cells := 5, slots := 34, locals := 162 }) (va_Pc [.ref (ad 10 0), .ref (ad 5 0), .int 0, .int (nI o1), .int (nI o2)] (PW D A (tysG cs) ad dm (cw D ad cs σ Lx cap mk ev zl tx mt tn tc (lwd cs la wz)))) (QW D A (tysG cs) (fun rz ad1 dm1 w1 => rz = some (.int 1) ∧ PS D cs (fun k => ad k 0) (t + 100) ad1 dm1 w1)) 5 34 A := by
  refine g_start (own := RL) [.ref (ad 10 0), .ref (ad 5 0), .int 0, .int (nI o1), .int (nI o2)] (cc := cL_isRecipient) (maxL := 8) (ret := (some .boolean)) (lv0 := [(0, .ref (ad 10 0)), (1, .ref (ad 5 0)), (2, .int 0), (3, .int (nI o1)), (4, .int (nI o2))]) (by decide) rfl rfl (Nat.le_of_ble_eq_true rfl) rfl ?_
  intro p e s m below meth c F hr hlocks hno
  have hn40 : n ≤ 40 := hI.1
  have hn23 : n ≤ 23 := hJ.1
  have hL : Lx 0 = List.range n := hI.2.2.1.2.1.1.1
  have hmt := hI.hmt
  have hmm : ∀ j, j < n → okM σ j := hI.2.2.1.2.2.2.2
  have hlg : ∀ j, j < n → zl j ≤ elen σ j ∧ elen σ j ≤ 1000 := fun j hj => ⟨(hI.2.2.1.2.2.1 j hj).2.2.2, by have := (hmm j hj).2.2.2.2.2; unfold elen; omega⟩
  have hg0 : la 7 0 = nI n := hJ.2.1
  have hg1 : la 7 1 = nI t := hJ.2.2.1
  have hnow : σ 0 0 = nI t := hI.2.2.1.2.1.2.2.2.1
  refine g_forget (dm1 := rs9 dm n tq) (ad1 := ad) (w1 := (cw D ad cs σ Lx cap mk ev zl tx mt tn tc (lwd cs la wz))) (fun k i q => q.1) (fun _ _ _ => rfl) (fun _ _ _ => rfl) ?_
  have hC9 := rs9_CD hC
  have hub := rs9_UB dm n tq
  have hd79 : ∀ k, 1 ≤ k → k ≤ 7 → rs9 dm n tq k 0 := fun k h1 h2 => ⟨hd7 k h1 h2, .inl (by omega)⟩
  generalize rs9 dm n tq = d9 at hC9 hub hd79 ⊢
  refine g_iload_n F 2 dL_isRecipient_0 rfl rfl ?_
  refine g_if_ne F (tgt := 68) dL_isRecipient_1 (by decide) (fun zc1 => ?_) (fun zc1 => ?_)
  ·
    exact absurd zc1 (by decide)
  ·
    refine g_iload F 4 dL_isRecipient_4 rfl ?_
    refine g_iconst F dL_isRecipient_6 (v := 5) (by decide) ?_
    refine g_irem F dL_isRecipient_7 (by decide) ?_
    refine g_top (y := (nI (o2 % 5))) (Eq.symm (by rw [show (nI o2) = nI o2 from rfl, show 5 = nI 5 from rfl]; exact pk_rem (by omega) (by omega) (by omega))) ?_
    refine g_istore F (lv1 := [(5, .int (nI (o2 % 5))), (0, .ref (ad 10 0)), (1, .ref (ad 5 0)), (2, .int 0), (3, .int (nI o1)), (4, .int (nI o2))]) dL_isRecipient_8 (by decide) rfl ?_
    refine g_iload_n F 4 dL_isRecipient_10 rfl rfl ?_
    refine g_bipush F dL_isRecipient_11 (v := 6) (by decide) ?_
    refine g_icmp_ne F (tgt := 21) dL_isRecipient_13 (by decide) (fun zc2 => ?_) (fun zc2 => ?_)
    ·
      have zc2n : ¬ (o1 = 6) := fun q => zc2 ((nI_eqE (show (nI o1) = nI o1 from rfl) (show 6 = nI 6 from rfl) (by omega) (by omega)).mpr q)
      refine g_iload F 0 dL_isRecipient_21 rfl ?_
      refine g_iconst F dL_isRecipient_23 (v := 4) (by decide) ?_
      refine g_icmp_ne F (tgt := 32) dL_isRecipient_24 (by decide) (fun zc3 => ?_) (fun zc3 => ?_)
      ·
        have zc3n : ¬ ((o2 % 5) = 4) := fun q => zc3 ((nI_eqE (show (nI (o2 % 5)) = nI (o2 % 5) from rfl) (show 4 = nI 4 from rfl) (by omega) (by omega)).mpr q)
        obtain ⟨hr28, hr29, hr12⟩ := hJ.2.2.2.2.1 o1 (by omega)
        obtain ⟨xm, xk, xi, hm4, hk50, hi50, h31, h29, h30, hmk, hm1, hsum⟩ := hJ.2.2.2.2.2.2.2.1 o1 (by omega)
        obtain ⟨xo, hxo, h28⟩ : ∃ x, x < 4 ∧ σ 28 o1 = nI x := ⟨_, ((hI.2.2.1.2.2.2.1 o1 (by omega)).1).2, ((hI.2.2.1.2.2.2.1 o1 (by omega)).1).1⟩
        have hlu : nI xo = σ 28 o1 := h28.symm
        refine g_aload_n F 2 dL_isRecipient_32 rfl rfl ?_
        refine g_iload_n F 4 dL_isRecipient_33 rfl rfl ?_
        refine l_ld F (K := 5) (j := o1) (v := (nI xo)) hd79 ⟨by decide, by decide⟩ rfl (show o1 < 18 by omega) (hr28.trans h28) dL_isRecipient_34 ?_
        refine g_istore F (lv1 := [(6, .int (nI xo)), (5, .int (nI (o2 % 5))), (0, .ref (ad 10 0)), (1, .ref (ad 5 0)), (2, .int 0), (3, .int (nI o1)), (4, .int (nI o2))]) dL_isRecipient_35 (by decide) rfl ?_
        refine g_iload F 0 dL_isRecipient_37 rfl ?_
        refine g_if_lt F (tgt := 47) dL_isRecipient_39 (by decide) (fun zc4 => ?_) (fun zc4 => ?_)
        ·
          exact absurd ((nI_ltE (show (nI xo) = nI xo from rfl) (show 0 = nI 0 from rfl) (by omega) (by omega)).mp zc4) (by omega)
        ·
          refine g_aload_n F 3 dL_isRecipient_42 rfl rfl ?_
          refine g_iload_n F 5 dL_isRecipient_43 rfl rfl ?_
          refine g_iload F 1 dL_isRecipient_44 rfl ?_
          refine l_st F (K := 5) (j := o1) hd79 ⟨by decide, by decide⟩ rfl (show o1 < 18 by omega) dL_isRecipient_46 ?_
          refine g_aload_n F 2 dL_isRecipient_47 rfl rfl ?_
          refine g_iconst F dL_isRecipient_48 (v := 5) (by decide) ?_
          refine g_iload_n F 5 dL_isRecipient_49 rfl rfl ?_
          refine g_iload F 1 dL_isRecipient_50 rfl ?_
          refine g_iconst F dL_isRecipient_52 (v := 0) (by decide) ?_
          refine g_iconst F dL_isRecipient_53 (v := 0) (by decide) ?_
          refine q_callSW F (rest := []) [.ref (ad 10 0), .int 5, .int (nI o1), .int (nI (o2 % 5)), .int 0, .int 0] (ld_setMode l D A cs ad d9 (cw D ad cs σ Lx cap mk ev zl tx mt tn tc (lwd cs (up2 la 5 o1 (nI (o2 % 5))) wz)) (nI o1) (nI (o2 % 5)) 0 0 (cc_setMode l D A cs ad d9 σ Lx cap mk ev zl tx mt tn tc (lwd cs (up2 la 5 o1 (nI (o2 % 5))) wz) n tq hC9 (nI o1) (nI (o2 % 5)) hlo hfl) hC9.1 rfl (fun v ad1 dm1 w1 h => ⟨_, h.2.1⟩) (fun E h => h.elim (fun q => .inl q.1) (fun q => .inr (.inl q.1)))) (vx_cwSW 6 F.1.2.2.2.2 gL_isRecipient_L_does rfl rfl rfl (by decide +kernel) ⟨Nat.le_of_ble_eq_true rfl, Nat.le_of_ble_eq_true rfl⟩) rfl rfl (Nat.le_of_ble_eq_true rfl) dL_isRecipient_54 ⟨show 0 + 2 ≤ 5 by omega, show 0 + 12 ≤ 34 by omega⟩ (fun rz ad1 dm1 w1 hv => ?_)
          rcases hv with hp | ⟨hp, rfl, e1, e2, e3⟩ | ⟨hp, rfl, e1, e2, e3⟩ | ⟨hp, rfl, e1, e2, e3⟩
          ·
            have ea : ix (nI o1) = o1 := ix_nI (by omega)
            rw [ea] at hp
            obtain ⟨⟨hA, hX⟩, rfl, rfl, rfl, e3⟩ := hp
            have hA := (rc_n (by omega)).mp hA
            have hX := (inr_n (a := 0) (b := 3) rfl rfl (by omega) (by decide) (by decide)).mp hX
            obtain ⟨τ, hG, hLJ⟩ := gx_mode (D := D) (cs := cs) (w0 := (lwd cs (up2 la 5 o1 (nI (o2 % 5))) wz)) (ad := ad) (mk := mk) hC9 hlo hI hA (show (o2 % 5) < 4 by omega)
            rw [e3] at hG
            obtain ⟨tq1, cap1, mk1, ev1, zl1, tx1, mt1, tn1, tc1, hC1, hlo1, hI1, had1, hdm1, rfl⟩ := hG
            have hd71 : ∀ k, 1 ≤ k → k ≤ 7 → d9 k 0 := fun k h1 h2 => hdm1 k 0 (by omega) (hd79 k h1 h2)
            refine g_st (st1 := [.int (nI xo)]) (congrArg (fun z : Int32 => [Value.int z]) hlu) ?_
            rw [Nat.zero_add] at hLJ
            refine g_iload F 0 dL_isRecipient_57 rfl ?_
            refine g_icmp_ne F (tgt := 66) dL_isRecipient_59 (by decide) (fun zc5 => ?_) (fun zc5 => ?_)
            ·
              exact absurd rfl zc5
            ·
              refine g_iconst F dL_isRecipient_62 (v := 1) (by decide) ?_
              refine g_goto F (tgt := 67) dL_isRecipient_63 (by decide) ?_
              exact g_qz F hr rfl hlocks (fun _ h => h) ⟨rfl, ⟨n, tq1, t, τ, Lx, cap1, mk1, ev1, zl1, tx1, mt1, tn1, tc1, (up2 la 5 o1 (nI (o2 % 5))), wz, kt, rd, fun k hk => had1 k 0 hk, Nat.le_add_right _ _, hC1, hd71, hlo1, hI1, (hLJ la kt rd hJ), rfl⟩⟩ (show (0 + 2) ≤ 5 by omega) (show (0 + 12) ≤ 34 by omega) dL_isRecipient_67
          ·
            replace e1 := e1.symm
            subst e1
            replace e2 := e2.symm
            subst e2
            replace e3 := e3.symm
            subst e3
            have hp := (hp.resolve_right (fun q => absurd q.1 (by decide))).2
            refine g_st (st1 := [.int (-30)]) rfl ?_
            have hA : ¬ o1 < 6 := fun q => hp ((rc_n (by omega)).mpr q)
            exact absurd hA (by omega)
          ·
            replace e1 := e1.symm
            subst e1
            replace e2 := e2.symm
            subst e2
            replace e3 := e3.symm
            subst e3
            have hp := (hp.resolve_left (fun q => absurd q.1 (by decide))).2
            refine g_st (st1 := [.int (-20)]) rfl ?_
            have hA := (rc_n (by omega)).mp hp.1
            have hB : ¬ (o2 % 5) ≤ 3 := fun q => hp.2 ((inr_n (a := 0) (b := 3) rfl rfl (by omega) (by decide) (by decide)).mpr ⟨Nat.zero_le _, q⟩)
            exact absurd hB (by omega)
          ·
            exact absurd hp (fun q => q.elim (fun z => absurd z.1 (by decide)) (fun z => absurd z.1 (by decide)))
      ·
        have zc3n : (o2 % 5) = 4 := (nI_eqE (show (nI (o2 % 5)) = nI (o2 % 5) from rfl) (show 4 = nI 4 from rfl) (by omega) (by omega)).mp zc3
        refine g_bipush F dL_isRecipient_27 (v := -20) (by decide) ?_
        refine g_goto F (tgt := 35) dL_isRecipient_29 (by decide) ?_
        refine g_istore F (lv1 := [(6, .int (-20)), (5, .int (nI (o2 % 5))), (0, .ref (ad 10 0)), (1, .ref (ad 5 0)), (2, .int 0), (3, .int (nI o1)), (4, .int (nI o2))]) dL_isRecipient_35 (by decide) rfl ?_
        refine g_iload F 0 dL_isRecipient_37 rfl ?_
        refine g_if_lt F (tgt := 47) dL_isRecipient_39 (by decide) (fun zc6 => ?_) (fun zc6 => ?_)
        ·
          refine g_aload_n F 2 dL_isRecipient_47 rfl rfl ?_
          refine g_iconst F dL_isRecipient_48 (v := 5) (by decide) ?_
          refine g_iload_n F 5 dL_isRecipient_49 rfl rfl ?_
          refine g_iload F 1 dL_isRecipient_50 rfl ?_
          refine g_iconst F dL_isRecipient_52 (v := 0) (by decide) ?_
          refine g_iconst F dL_isRecipient_53 (v := 0) (by decide) ?_
          refine q_callSW F (rest := []) [.ref (ad 10 0), .int 5, .int (nI o1), .int (nI (o2 % 5)), .int 0, .int 0] (ld_setMode l D A cs ad d9 (cw D ad cs σ Lx cap mk ev zl tx mt tn tc (lwd cs la wz)) (nI o1) (nI (o2 % 5)) 0 0 (cc_setMode l D A cs ad d9 σ Lx cap mk ev zl tx mt tn tc (lwd cs la wz) n tq hC9 (nI o1) (nI (o2 % 5)) hlo hfl) hC9.1 rfl (fun v ad1 dm1 w1 h => ⟨_, h.2.1⟩) (fun E h => h.elim (fun q => .inl q.1) (fun q => .inr (.inl q.1)))) (vx_cwSW 6 F.1.2.2.2.2 gL_isRecipient_L_does rfl rfl rfl (by decide +kernel) ⟨Nat.le_of_ble_eq_true rfl, Nat.le_of_ble_eq_true rfl⟩) rfl rfl (Nat.le_of_ble_eq_true rfl) dL_isRecipient_54 ⟨show 0 + 2 ≤ 5 by omega, show 0 + 12 ≤ 34 by omega⟩ (fun rz ad1 dm1 w1 hv => ?_)
          rcases hv with hp | ⟨hp, rfl, e1, e2, e3⟩ | ⟨hp, rfl, e1, e2, e3⟩ | ⟨hp, rfl, e1, e2, e3⟩
          ·
            have ea : ix (nI o1) = o1 := ix_nI (by omega)
            rw [ea] at hp
            obtain ⟨⟨hA, hX⟩, rfl, rfl, rfl, e3⟩ := hp
            have hA := (rc_n (by omega)).mp hA
            have hX := (inr_n (a := 0) (b := 3) rfl rfl (by omega) (by decide) (by decide)).mp hX
            exact absurd hA (by omega)
          ·
            replace e1 := e1.symm
            subst e1
            replace e2 := e2.symm
            subst e2
            replace e3 := e3.symm
            subst e3
            have hp := (hp.resolve_right (fun q => absurd q.1 (by decide))).2
            refine g_st (st1 := [.int (-30)]) rfl ?_
            have hA : ¬ o1 < 6 := fun q => hp ((rc_n (by omega)).mpr q)
            exact absurd hA (by omega)
          ·
            replace e1 := e1.symm
            subst e1
            replace e2 := e2.symm
            subst e2
            replace e3 := e3.symm
            subst e3
            have hp := (hp.resolve_left (fun q => absurd q.1 (by decide))).2
            refine g_st (st1 := [.int (-20)]) rfl ?_
            have hA := (rc_n (by omega)).mp hp.1
            have hB : ¬ (o2 % 5) ≤ 3 := fun q => hp.2 ((inr_n (a := 0) (b := 3) rfl rfl (by omega) (by decide) (by decide)).mpr ⟨Nat.zero_le _, q⟩)
            refine g_iload F 0 dL_isRecipient_57 rfl ?_
            refine g_icmp_ne F (tgt := 66) dL_isRecipient_59 (by decide) (fun zc7 => ?_) (fun zc7 => ?_)
            ·
              exact absurd zc7 (by decide)
            ·
              refine g_iconst F dL_isRecipient_62 (v := 1) (by decide) ?_
              refine g_goto F (tgt := 67) dL_isRecipient_63 (by decide) ?_
              exact g_qz F hr rfl hlocks (fun _ h => h) ⟨rfl, ⟨n, tq, t, σ, Lx, cap, mk, ev, zl, tx, mt, tn, tc, la, wz, kt, rd, fun _ _ => rfl, Nat.le_add_right _ _, hC9, hd79, hlo, hI, hJ, rfl⟩⟩ (show (0 + 2) ≤ 5 by omega) (show (0 + 12) ≤ 34 by omega) dL_isRecipient_67
          ·
            exact absurd hp (fun q => q.elim (fun z => absurd z.1 (by decide)) (fun z => absurd z.1 (by decide)))
        ·
          exact absurd zc6 (by decide)
    ·
      have zc2n : o1 = 6 := (nI_eqE (show (nI o1) = nI o1 from rfl) (show 6 = nI 6 from rfl) (by omega) (by omega)).mp zc2
      refine g_bipush F dL_isRecipient_16 (v := -30) (by decide) ?_
      refine g_goto F (tgt := 35) dL_isRecipient_18 (by decide) ?_
      refine g_istore F (lv1 := [(6, .int (-30)), (5, .int (nI (o2 % 5))), (0, .ref (ad 10 0)), (1, .ref (ad 5 0)), (2, .int 0), (3, .int (nI o1)), (4, .int (nI o2))]) dL_isRecipient_35 (by decide) rfl ?_
      refine g_iload F 0 dL_isRecipient_37 rfl ?_
      refine g_if_lt F (tgt := 47) dL_isRecipient_39 (by decide) (fun zc8 => ?_) (fun zc8 => ?_)
      ·
        refine g_aload_n F 2 dL_isRecipient_47 rfl rfl ?_
        refine g_iconst F dL_isRecipient_48 (v := 5) (by decide) ?_
        refine g_iload_n F 5 dL_isRecipient_49 rfl rfl ?_
        refine g_iload F 1 dL_isRecipient_50 rfl ?_
        refine g_iconst F dL_isRecipient_52 (v := 0) (by decide) ?_
        refine g_iconst F dL_isRecipient_53 (v := 0) (by decide) ?_
        refine q_callSW F (rest := []) [.ref (ad 10 0), .int 5, .int (nI o1), .int (nI (o2 % 5)), .int 0, .int 0] (ld_setMode l D A cs ad d9 (cw D ad cs σ Lx cap mk ev zl tx mt tn tc (lwd cs la wz)) (nI o1) (nI (o2 % 5)) 0 0 (cc_setMode l D A cs ad d9 σ Lx cap mk ev zl tx mt tn tc (lwd cs la wz) n tq hC9 (nI o1) (nI (o2 % 5)) hlo hfl) hC9.1 rfl (fun v ad1 dm1 w1 h => ⟨_, h.2.1⟩) (fun E h => h.elim (fun q => .inl q.1) (fun q => .inr (.inl q.1)))) (vx_cwSW 6 F.1.2.2.2.2 gL_isRecipient_L_does rfl rfl rfl (by decide +kernel) ⟨Nat.le_of_ble_eq_true rfl, Nat.le_of_ble_eq_true rfl⟩) rfl rfl (Nat.le_of_ble_eq_true rfl) dL_isRecipient_54 ⟨show 0 + 2 ≤ 5 by omega, show 0 + 12 ≤ 34 by omega⟩ (fun rz ad1 dm1 w1 hv => ?_)
        rcases hv with hp | ⟨hp, rfl, e1, e2, e3⟩ | ⟨hp, rfl, e1, e2, e3⟩ | ⟨hp, rfl, e1, e2, e3⟩
        ·
          have ea : ix (nI o1) = o1 := ix_nI (by omega)
          rw [ea] at hp
          obtain ⟨⟨hA, hX⟩, rfl, rfl, rfl, e3⟩ := hp
          have hA := (rc_n (by omega)).mp hA
          have hX := (inr_n (a := 0) (b := 3) rfl rfl (by omega) (by decide) (by decide)).mp hX
          exact absurd hA (by omega)
        ·
          replace e1 := e1.symm
          subst e1
          replace e2 := e2.symm
          subst e2
          replace e3 := e3.symm
          subst e3
          have hp := (hp.resolve_right (fun q => absurd q.1 (by decide))).2
          refine g_st (st1 := [.int (-30)]) rfl ?_
          have hA : ¬ o1 < 6 := fun q => hp ((rc_n (by omega)).mpr q)
          refine g_iload F 0 dL_isRecipient_57 rfl ?_
          refine g_icmp_ne F (tgt := 66) dL_isRecipient_59 (by decide) (fun zc9 => ?_) (fun zc9 => ?_)
          ·
            exact absurd zc9 (by decide)
          ·
            refine g_iconst F dL_isRecipient_62 (v := 1) (by decide) ?_
            refine g_goto F (tgt := 67) dL_isRecipient_63 (by decide) ?_
            exact g_qz F hr rfl hlocks (fun _ h => h) ⟨rfl, ⟨n, tq, t, σ, Lx, cap, mk, ev, zl, tx, mt, tn, tc, la, wz, kt, rd, fun _ _ => rfl, Nat.le_add_right _ _, hC9, hd79, hlo, hI, hJ, rfl⟩⟩ (show (0 + 2) ≤ 5 by omega) (show (0 + 12) ≤ 34 by omega) dL_isRecipient_67
        ·
          replace e1 := e1.symm
          subst e1
          replace e2 := e2.symm
          subst e2
          replace e3 := e3.symm
          subst e3
          have hp := (hp.resolve_left (fun q => absurd q.1 (by decide))).2
          refine g_st (st1 := [.int (-20)]) rfl ?_
          have hA := (rc_n (by omega)).mp hp.1
          have hB : ¬ (o2 % 5) ≤ 3 := fun q => hp.2 ((inr_n (a := 0) (b := 3) rfl rfl (by omega) (by decide) (by decide)).mpr ⟨Nat.zero_le _, q⟩)
          exact absurd hA (by omega)
        ·
          exact absurd hp (fun q => q.elim (fun z => absurd z.1 (by decide)) (fun z => absurd z.1 (by decide)))
      ·
        exact absurd zc8 (by decide)
set_option maxHeartbeats 4000000 in
set_option maxRecDepth 100000 in
theorem lw_isRecipient1 (l : Launch) (D : va_G) (A : Nat → Prop) (cs : Nat → ClassId) (ad : Nat → Nat → Nat) (dm : Nat → Nat → Prop) (σ : SG) (Lx : Nat → List Nat) (cap : Nat → Nat) (mk : Nat → Int32) (ev : SG) (zl tx mt tn : Nat → Nat) (tc : SG) (la : SG) (wz : CF) (n tq t : Nat) (kt rd : Nat → Nat) (hC : CD dm n cap tq) (hd7 : ∀ k, 1 ≤ k → k ≤ 7 → dm k 0) (hlo : LO n Lx cap) (hI : INV n tq t σ Lx ev zl tx mt tn tc) (hJ : LJ n t σ la Lx kt rd) (htb : t ≤ 100000) (hfl : l.stackTraces = false) (o1 o2 : Nat) (ho1 : o1 < 7) (ho2 : o2 ≤ 10000) : Met l yL_isRecipient wsL_isRecipient ({ frames := 9, cells := 5, slots := 34, locals := 162 }) (va_Pc [.ref (ad 10 0), .ref (ad 5 0), .int 1, .int (nI o1), .int (nI o2)] (PW D A (tysG cs) ad dm (cw D ad cs σ Lx cap mk ev zl tx mt tn tc (lwd cs la wz)))) (QW D A (tysG cs) (fun rz ad1 dm1 w1 => rz = some (.int 1) ∧ PS D cs (fun k => ad k 0) (t + 100) ad1 dm1 w1)) 5 34 A := by
  refine g_start (own := RL) [.ref (ad 10 0), .ref (ad 5 0), .int 1, .int (nI o1), .int (nI o2)] (cc := cL_isRecipient) (maxL := 8) (ret := (some .boolean)) (lv0 := [(0, .ref (ad 10 0)), (1, .ref (ad 5 0)), (2, .int 1), (3, .int (nI o1)), (4, .int (nI o2))]) (by decide) rfl rfl (Nat.le_of_ble_eq_true rfl) rfl ?_
  intro p e s m below meth c F hr hlocks hno
  have hn40 : n ≤ 40 := hI.1
  have hn23 : n ≤ 23 := hJ.1
  have hL : Lx 0 = List.range n := hI.2.2.1.2.1.1.1
  have hmt := hI.hmt
  have hmm : ∀ j, j < n → okM σ j := hI.2.2.1.2.2.2.2
  have hlg : ∀ j, j < n → zl j ≤ elen σ j ∧ elen σ j ≤ 1000 := fun j hj => ⟨(hI.2.2.1.2.2.1 j hj).2.2.2, by have := (hmm j hj).2.2.2.2.2; unfold elen; omega⟩
  have hg0 : la 7 0 = nI n := hJ.2.1
  have hg1 : la 7 1 = nI t := hJ.2.2.1
  have hnow : σ 0 0 = nI t := hI.2.2.1.2.1.2.2.2.1
  refine g_forget (dm1 := rs9 dm n tq) (ad1 := ad) (w1 := (cw D ad cs σ Lx cap mk ev zl tx mt tn tc (lwd cs la wz))) (fun k i q => q.1) (fun _ _ _ => rfl) (fun _ _ _ => rfl) ?_
  have hC9 := rs9_CD hC
  have hub := rs9_UB dm n tq
  have hd79 : ∀ k, 1 ≤ k → k ≤ 7 → rs9 dm n tq k 0 := fun k h1 h2 => ⟨hd7 k h1 h2, .inl (by omega)⟩
  generalize rs9 dm n tq = d9 at hC9 hub hd79 ⊢
  refine g_iload_n F 2 dL_isRecipient_0 rfl rfl ?_
  refine g_if_ne F (tgt := 68) dL_isRecipient_1 (by decide) (fun zc1 => ?_) (fun zc1 => ?_)
  ·
    refine g_iload_n F 2 dL_isRecipient_68 rfl rfl ?_
    refine g_iconst F dL_isRecipient_69 (v := 1) (by decide) ?_
    refine g_icmp_ne F (tgt := 146) dL_isRecipient_70 (by decide) (fun zc2 => ?_) (fun zc2 => ?_)
    ·
      exact absurd zc2 (by decide)
    ·
      refine g_iload F 4 dL_isRecipient_73 rfl ?_
      refine g_bipush F dL_isRecipient_75 (v := 52) (by decide) ?_
      refine g_irem F dL_isRecipient_77 (by decide) ?_
      refine g_top (y := (nI (o2 % 52))) (Eq.symm (by rw [show (nI o2) = nI o2 from rfl, show 52 = nI 52 from rfl]; exact pk_rem (by omega) (by omega) (by omega))) ?_
      refine g_istore F (lv1 := [(5, .int (nI (o2 % 52))), (0, .ref (ad 10 0)), (1, .ref (ad 5 0)), (2, .int 1), (3, .int (nI o1)), (4, .int (nI o2))]) dL_isRecipient_78 (by decide) rfl ?_
      refine g_iload_n F 4 dL_isRecipient_80 rfl rfl ?_
      refine g_bipush F dL_isRecipient_81 (v := 6) (by decide) ?_
      refine g_icmp_ne F (tgt := 91) dL_isRecipient_83 (by decide) (fun zc3 => ?_) (fun zc3 => ?_)
      ·
        have zc3n : ¬ (o1 = 6) := fun q => zc3 ((nI_eqE (show (nI o1) = nI o1 from rfl) (show 6 = nI 6 from rfl) (by omega) (by omega)).mpr q)
        refine g_iload F 0 dL_isRecipient_91 rfl ?_
        refine g_bipush F dL_isRecipient_93 (v := 51) (by decide) ?_
        refine g_icmp_ne F (tgt := 103) dL_isRecipient_95 (by decide) (fun zc4 => ?_) (fun zc4 => ?_)
        ·
          have zc4n : ¬ ((o2 % 52) = 51) := fun q => zc4 ((nI_eqE (show (nI (o2 % 52)) = nI (o2 % 52) from rfl) (show 51 = nI 51 from rfl) (by omega) (by omega)).mpr q)
          obtain ⟨hr28, hr29, hr12⟩ := hJ.2.2.2.2.1 o1 (by omega)
          obtain ⟨xm, xk, xi, hm4, hk50, hi50, h31, h29, h30, hmk, hm1, hsum⟩ := hJ.2.2.2.2.2.2.2.1 o1 (by omega)
          have hlv : nI xk = σ 29 o1 := h29.symm
          refine g_aload_n F 2 dL_isRecipient_103 rfl rfl ?_
          refine g_bipush F dL_isRecipient_104 (v := 6) (by decide) ?_
          refine g_iload_n F 4 dL_isRecipient_106 rfl rfl ?_
          refine g_iadd F dL_isRecipient_107 ?_
          refine g_top (y := (nI (6 + o1))) (Eq.symm (nI_addE (show 6 = nI 6 from rfl) (show (nI o1) = nI o1 from rfl))) ?_
          refine l_ld F (K := 5) (j := (6 + o1)) (v := (nI xk)) hd79 ⟨by decide, by decide⟩ rfl (show (6 + o1) < 18 by omega) (hr29.trans h29) dL_isRecipient_108 ?_
          refine g_istore F (lv1 := [(6, .int (nI xk)), (5, .int (nI (o2 % 52))), (0, .ref (ad 10 0)), (1, .ref (ad 5 0)), (2, .int 1), (3, .int (nI o1)), (4, .int (nI o2))]) dL_isRecipient_109 (by decide) rfl ?_
          refine g_iload F 0 dL_isRecipient_111 rfl ?_
          refine g_if_lt F (tgt := 124) dL_isRecipient_113 (by decide) (fun zc5 => ?_) (fun zc5 => ?_)
          ·
            exact absurd ((nI_ltE (show (nI xk) = nI xk from rfl) (show 0 = nI 0 from rfl) (by omega) (by omega)).mp zc5) (by omega)
          ·
            refine g_aload_n F 3 dL_isRecipient_116 rfl rfl ?_
            refine g_bipush F dL_isRecipient_117 (v := 6) (by decide) ?_
            refine g_iload_n F 5 dL_isRecipient_119 rfl rfl ?_
            refine g_iadd F dL_isRecipient_120 ?_
            refine g_top (y := (nI (6 + o1))) (Eq.symm (nI_addE (show 6 = nI 6 from rfl) (show (nI o1) = nI o1 from rfl))) ?_
            refine g_iload F 1 dL_isRecipient_121 rfl ?_
            refine l_st F (K := 5) (j := (6 + o1)) hd79 ⟨by decide, by decide⟩ rfl (show (6 + o1) < 18 by omega) dL_isRecipient_123 ?_
            refine g_aload_n F 2 dL_isRecipient_124 rfl rfl ?_
            refine g_bipush F dL_isRecipient_125 (v := 6) (by decide) ?_
            refine g_iload_n F 5 dL_isRecipient_127 rfl rfl ?_
            refine g_iload F 1 dL_isRecipient_128 rfl ?_
            refine g_iconst F dL_isRecipient_130 (v := 0) (by decide) ?_
            refine g_iconst F dL_isRecipient_131 (v := 0) (by decide) ?_
            refine q_callSW F (rest := []) [.ref (ad 10 0), .int 6, .int (nI o1), .int (nI (o2 % 52)), .int 0, .int 0] (ld_setRoom l D A cs ad d9 (cw D ad cs σ Lx cap mk ev zl tx mt tn tc (lwd cs (up2 la 5 (6 + o1) (nI (o2 % 52))) wz)) (nI o1) (nI (o2 % 52)) 0 0 (cc_setRoom l D A cs ad d9 σ Lx cap mk ev zl tx mt tn tc (lwd cs (up2 la 5 (6 + o1) (nI (o2 % 52))) wz) n tq hC9 (nI o1) (nI (o2 % 52)) hlo hfl) hC9.1 rfl (fun v ad1 dm1 w1 h => ⟨_, h.2.1⟩) (fun E h => h.elim (fun q => .inl q.1) (fun q => .inr (.inl q.1)))) (vx_cwSW 6 F.1.2.2.2.2 gL_isRecipient_L_does rfl rfl rfl (by decide +kernel) ⟨Nat.le_of_ble_eq_true rfl, Nat.le_of_ble_eq_true rfl⟩) rfl rfl (Nat.le_of_ble_eq_true rfl) dL_isRecipient_132 ⟨show 0 + 2 ≤ 5 by omega, show 0 + 12 ≤ 34 by omega⟩ (fun rz ad1 dm1 w1 hv => ?_)
            rcases hv with hp | ⟨hp, rfl, e1, e2, e3⟩ | ⟨hp, rfl, e1, e2, e3⟩ | ⟨hp, rfl, e1, e2, e3⟩
            ·
              have ea : ix (nI o1) = o1 := ix_nI (by omega)
              rw [ea] at hp
              obtain ⟨⟨hA, hX⟩, rfl, rfl, rfl, e3⟩ := hp
              have hA := (rc_n (by omega)).mp hA
              have hX := (inr_n (a := 0) (b := 50) rfl rfl (by omega) (by decide) (by decide)).mp hX
              obtain ⟨τ, hG, hLJ⟩ := gx_room (D := D) (cs := cs) (w0 := (lwd cs (up2 la 5 (6 + o1) (nI (o2 % 52))) wz)) (ad := ad) (mk := mk) hC9 hlo hI hA (show (o2 % 52) ≤ 50 by omega)
              rw [e3] at hG
              obtain ⟨tq1, cap1, mk1, ev1, zl1, tx1, mt1, tn1, tc1, hC1, hlo1, hI1, had1, hdm1, rfl⟩ := hG
              have hd71 : ∀ k, 1 ≤ k → k ≤ 7 → d9 k 0 := fun k h1 h2 => hdm1 k 0 (by omega) (hd79 k h1 h2)
              refine g_st (st1 := [.int (nI xk)]) (congrArg (fun z : Int32 => [Value.int z]) hlv) ?_
              refine g_iload F 0 dL_isRecipient_135 rfl ?_
              refine g_icmp_ne F (tgt := 144) dL_isRecipient_137 (by decide) (fun zc6 => ?_) (fun zc6 => ?_)
              ·
                exact absurd rfl zc6
              ·
                refine g_iconst F dL_isRecipient_140 (v := 1) (by decide) ?_
                refine g_goto F (tgt := 145) dL_isRecipient_141 (by decide) ?_
                exact g_qz F hr rfl hlocks (fun _ h => h) ⟨rfl, ⟨n, tq1, t, τ, Lx, cap1, mk1, ev1, zl1, tx1, mt1, tn1, tc1, (up2 la 5 (6 + o1) (nI (o2 % 52))), wz, kt, rd, fun k hk => had1 k 0 hk, Nat.le_add_right _ _, hC1, hd71, hlo1, hI1, (hLJ la kt rd hJ), rfl⟩⟩ (show (0 + 2) ≤ 5 by omega) (show (0 + 12) ≤ 34 by omega) dL_isRecipient_145
            ·
              replace e1 := e1.symm
              subst e1
              replace e2 := e2.symm
              subst e2
              replace e3 := e3.symm
              subst e3
              have hp := (hp.resolve_right (fun q => absurd q.1 (by decide))).2
              refine g_st (st1 := [.int (-30)]) rfl ?_
              have hA : ¬ o1 < 6 := fun q => hp ((rc_n (by omega)).mpr q)
              exact absurd hA (by omega)
            ·
              replace e1 := e1.symm
              subst e1
              replace e2 := e2.symm
              subst e2
              replace e3 := e3.symm
              subst e3
              have hp := (hp.resolve_left (fun q => absurd q.1 (by decide))).2
              refine g_st (st1 := [.int (-20)]) rfl ?_
              have hA := (rc_n (by omega)).mp hp.1
              have hB : ¬ (o2 % 52) ≤ 50 := fun q => hp.2 ((inr_n (a := 0) (b := 50) rfl rfl (by omega) (by decide) (by decide)).mpr ⟨Nat.zero_le _, q⟩)
              exact absurd hB (by omega)
            ·
              exact absurd hp (fun q => q.elim (fun z => absurd z.1 (by decide)) (fun z => absurd z.1 (by decide)))
        ·
          have zc4n : (o2 % 52) = 51 := (nI_eqE (show (nI (o2 % 52)) = nI (o2 % 52) from rfl) (show 51 = nI 51 from rfl) (by omega) (by omega)).mp zc4
          refine g_bipush F dL_isRecipient_98 (v := -20) (by decide) ?_
          refine g_goto F (tgt := 109) dL_isRecipient_100 (by decide) ?_
          refine g_istore F (lv1 := [(6, .int (-20)), (5, .int (nI (o2 % 52))), (0, .ref (ad 10 0)), (1, .ref (ad 5 0)), (2, .int 1), (3, .int (nI o1)), (4, .int (nI o2))]) dL_isRecipient_109 (by decide) rfl ?_
          refine g_iload F 0 dL_isRecipient_111 rfl ?_
          refine g_if_lt F (tgt := 124) dL_isRecipient_113 (by decide) (fun zc7 => ?_) (fun zc7 => ?_)
          ·
            refine g_aload_n F 2 dL_isRecipient_124 rfl rfl ?_
            refine g_bipush F dL_isRecipient_125 (v := 6) (by decide) ?_
            refine g_iload_n F 5 dL_isRecipient_127 rfl rfl ?_
            refine g_iload F 1 dL_isRecipient_128 rfl ?_
            refine g_iconst F dL_isRecipient_130 (v := 0) (by decide) ?_
            refine g_iconst F dL_isRecipient_131 (v := 0) (by decide) ?_
            refine q_callSW F (rest := []) [.ref (ad 10 0), .int 6, .int (nI o1), .int (nI (o2 % 52)), .int 0, .int 0] (ld_setRoom l D A cs ad d9 (cw D ad cs σ Lx cap mk ev zl tx mt tn tc (lwd cs la wz)) (nI o1) (nI (o2 % 52)) 0 0 (cc_setRoom l D A cs ad d9 σ Lx cap mk ev zl tx mt tn tc (lwd cs la wz) n tq hC9 (nI o1) (nI (o2 % 52)) hlo hfl) hC9.1 rfl (fun v ad1 dm1 w1 h => ⟨_, h.2.1⟩) (fun E h => h.elim (fun q => .inl q.1) (fun q => .inr (.inl q.1)))) (vx_cwSW 6 F.1.2.2.2.2 gL_isRecipient_L_does rfl rfl rfl (by decide +kernel) ⟨Nat.le_of_ble_eq_true rfl, Nat.le_of_ble_eq_true rfl⟩) rfl rfl (Nat.le_of_ble_eq_true rfl) dL_isRecipient_132 ⟨show 0 + 2 ≤ 5 by omega, show 0 + 12 ≤ 34 by omega⟩ (fun rz ad1 dm1 w1 hv => ?_)
            rcases hv with hp | ⟨hp, rfl, e1, e2, e3⟩ | ⟨hp, rfl, e1, e2, e3⟩ | ⟨hp, rfl, e1, e2, e3⟩
            ·
              have ea : ix (nI o1) = o1 := ix_nI (by omega)
              rw [ea] at hp
              obtain ⟨⟨hA, hX⟩, rfl, rfl, rfl, e3⟩ := hp
              have hA := (rc_n (by omega)).mp hA
              have hX := (inr_n (a := 0) (b := 50) rfl rfl (by omega) (by decide) (by decide)).mp hX
              exact absurd hA (by omega)
            ·
              replace e1 := e1.symm
              subst e1
              replace e2 := e2.symm
              subst e2
              replace e3 := e3.symm
              subst e3
              have hp := (hp.resolve_right (fun q => absurd q.1 (by decide))).2
              refine g_st (st1 := [.int (-30)]) rfl ?_
              have hA : ¬ o1 < 6 := fun q => hp ((rc_n (by omega)).mpr q)
              exact absurd hA (by omega)
            ·
              replace e1 := e1.symm
              subst e1
              replace e2 := e2.symm
              subst e2
              replace e3 := e3.symm
              subst e3
              have hp := (hp.resolve_left (fun q => absurd q.1 (by decide))).2
              refine g_st (st1 := [.int (-20)]) rfl ?_
              have hA := (rc_n (by omega)).mp hp.1
              have hB : ¬ (o2 % 52) ≤ 50 := fun q => hp.2 ((inr_n (a := 0) (b := 50) rfl rfl (by omega) (by decide) (by decide)).mpr ⟨Nat.zero_le _, q⟩)
              refine g_iload F 0 dL_isRecipient_135 rfl ?_
              refine g_icmp_ne F (tgt := 144) dL_isRecipient_137 (by decide) (fun zc8 => ?_) (fun zc8 => ?_)
              ·
                exact absurd zc8 (by decide)
              ·
                refine g_iconst F dL_isRecipient_140 (v := 1) (by decide) ?_
                refine g_goto F (tgt := 145) dL_isRecipient_141 (by decide) ?_
                exact g_qz F hr rfl hlocks (fun _ h => h) ⟨rfl, ⟨n, tq, t, σ, Lx, cap, mk, ev, zl, tx, mt, tn, tc, la, wz, kt, rd, fun _ _ => rfl, Nat.le_add_right _ _, hC9, hd79, hlo, hI, hJ, rfl⟩⟩ (show (0 + 2) ≤ 5 by omega) (show (0 + 12) ≤ 34 by omega) dL_isRecipient_145
            ·
              exact absurd hp (fun q => q.elim (fun z => absurd z.1 (by decide)) (fun z => absurd z.1 (by decide)))
          ·
            exact absurd zc7 (by decide)
      ·
        have zc3n : o1 = 6 := (nI_eqE (show (nI o1) = nI o1 from rfl) (show 6 = nI 6 from rfl) (by omega) (by omega)).mp zc3
        refine g_bipush F dL_isRecipient_86 (v := -30) (by decide) ?_
        refine g_goto F (tgt := 109) dL_isRecipient_88 (by decide) ?_
        refine g_istore F (lv1 := [(6, .int (-30)), (5, .int (nI (o2 % 52))), (0, .ref (ad 10 0)), (1, .ref (ad 5 0)), (2, .int 1), (3, .int (nI o1)), (4, .int (nI o2))]) dL_isRecipient_109 (by decide) rfl ?_
        refine g_iload F 0 dL_isRecipient_111 rfl ?_
        refine g_if_lt F (tgt := 124) dL_isRecipient_113 (by decide) (fun zc9 => ?_) (fun zc9 => ?_)
        ·
          refine g_aload_n F 2 dL_isRecipient_124 rfl rfl ?_
          refine g_bipush F dL_isRecipient_125 (v := 6) (by decide) ?_
          refine g_iload_n F 5 dL_isRecipient_127 rfl rfl ?_
          refine g_iload F 1 dL_isRecipient_128 rfl ?_
          refine g_iconst F dL_isRecipient_130 (v := 0) (by decide) ?_
          refine g_iconst F dL_isRecipient_131 (v := 0) (by decide) ?_
          refine q_callSW F (rest := []) [.ref (ad 10 0), .int 6, .int (nI o1), .int (nI (o2 % 52)), .int 0, .int 0] (ld_setRoom l D A cs ad d9 (cw D ad cs σ Lx cap mk ev zl tx mt tn tc (lwd cs la wz)) (nI o1) (nI (o2 % 52)) 0 0 (cc_setRoom l D A cs ad d9 σ Lx cap mk ev zl tx mt tn tc (lwd cs la wz) n tq hC9 (nI o1) (nI (o2 % 52)) hlo hfl) hC9.1 rfl (fun v ad1 dm1 w1 h => ⟨_, h.2.1⟩) (fun E h => h.elim (fun q => .inl q.1) (fun q => .inr (.inl q.1)))) (vx_cwSW 6 F.1.2.2.2.2 gL_isRecipient_L_does rfl rfl rfl (by decide +kernel) ⟨Nat.le_of_ble_eq_true rfl, Nat.le_of_ble_eq_true rfl⟩) rfl rfl (Nat.le_of_ble_eq_true rfl) dL_isRecipient_132 ⟨show 0 + 2 ≤ 5 by omega, show 0 + 12 ≤ 34 by omega⟩ (fun rz ad1 dm1 w1 hv => ?_)
          rcases hv with hp | ⟨hp, rfl, e1, e2, e3⟩ | ⟨hp, rfl, e1, e2, e3⟩ | ⟨hp, rfl, e1, e2, e3⟩
          ·
            have ea : ix (nI o1) = o1 := ix_nI (by omega)
            rw [ea] at hp
            obtain ⟨⟨hA, hX⟩, rfl, rfl, rfl, e3⟩ := hp
            have hA := (rc_n (by omega)).mp hA
            have hX := (inr_n (a := 0) (b := 50) rfl rfl (by omega) (by decide) (by decide)).mp hX
            exact absurd hA (by omega)
          ·
            replace e1 := e1.symm
            subst e1
            replace e2 := e2.symm
            subst e2
            replace e3 := e3.symm
            subst e3
            have hp := (hp.resolve_right (fun q => absurd q.1 (by decide))).2
            refine g_st (st1 := [.int (-30)]) rfl ?_
            have hA : ¬ o1 < 6 := fun q => hp ((rc_n (by omega)).mpr q)
            refine g_iload F 0 dL_isRecipient_135 rfl ?_
            refine g_icmp_ne F (tgt := 144) dL_isRecipient_137 (by decide) (fun zc10 => ?_) (fun zc10 => ?_)
            ·
              exact absurd zc10 (by decide)
            ·
              refine g_iconst F dL_isRecipient_140 (v := 1) (by decide) ?_
              refine g_goto F (tgt := 145) dL_isRecipient_141 (by decide) ?_
              exact g_qz F hr rfl hlocks (fun _ h => h) ⟨rfl, ⟨n, tq, t, σ, Lx, cap, mk, ev, zl, tx, mt, tn, tc, la, wz, kt, rd, fun _ _ => rfl, Nat.le_add_right _ _, hC9, hd79, hlo, hI, hJ, rfl⟩⟩ (show (0 + 2) ≤ 5 by omega) (show (0 + 12) ≤ 34 by omega) dL_isRecipient_145
          ·
            replace e1 := e1.symm
            subst e1
            replace e2 := e2.symm
            subst e2
            replace e3 := e3.symm
            subst e3
            have hp := (hp.resolve_left (fun q => absurd q.1 (by decide))).2
            refine g_st (st1 := [.int (-20)]) rfl ?_
            have hA := (rc_n (by omega)).mp hp.1
            have hB : ¬ (o2 % 52) ≤ 50 := fun q => hp.2 ((inr_n (a := 0) (b := 50) rfl rfl (by omega) (by decide) (by decide)).mpr ⟨Nat.zero_le _, q⟩)
            exact absurd hA (by omega)
          ·
            exact absurd hp (fun q => q.elim (fun z => absurd z.1 (by decide)) (fun z => absurd z.1 (by decide)))
        ·
          exact absurd zc9 (by decide)
  ·
    exact absurd zc1 (by decide)
set_option maxHeartbeats 4000000 in
set_option maxRecDepth 100000 in
theorem lw_isRecipient2 (l : Launch) (D : va_G) (A : Nat → Prop) (cs : Nat → ClassId) (ad : Nat → Nat → Nat) (dm : Nat → Nat → Prop) (σ : SG) (Lx : Nat → List Nat) (cap : Nat → Nat) (mk : Nat → Int32) (ev : SG) (zl tx mt tn : Nat → Nat) (tc : SG) (la : SG) (wz : CF) (n tq t : Nat) (kt rd : Nat → Nat) (hC : CD dm n cap tq) (hd7 : ∀ k, 1 ≤ k → k ≤ 7 → dm k 0) (hlo : LO n Lx cap) (hI : INV n tq t σ Lx ev zl tx mt tn tc) (hJ : LJ n t σ la Lx kt rd) (htb : t ≤ 100000) (hfl : l.stackTraces = false) (o1 o2 : Nat) (ho1 : o1 < 7) (ho2 : o2 ≤ 10000) : Met l yL_isRecipient wsL_isRecipient ({ frames := 9, cells := 5, slots := 34, locals := 162 }) (va_Pc [.ref (ad 10 0), .ref (ad 5 0), .int 2, .int (nI o1), .int (nI o2)] (PW D A (tysG cs) ad dm (cw D ad cs σ Lx cap mk ev zl tx mt tn tc (lwd cs la wz)))) (QW D A (tysG cs) (fun rz ad1 dm1 w1 => rz = some (.int 1) ∧ PS D cs (fun k => ad k 0) (t + 100) ad1 dm1 w1)) 5 34 A := by
  refine g_start (own := RL) [.ref (ad 10 0), .ref (ad 5 0), .int 2, .int (nI o1), .int (nI o2)] (cc := cL_isRecipient) (maxL := 8) (ret := (some .boolean)) (lv0 := [(0, .ref (ad 10 0)), (1, .ref (ad 5 0)), (2, .int 2), (3, .int (nI o1)), (4, .int (nI o2))]) (by decide) rfl rfl (Nat.le_of_ble_eq_true rfl) rfl ?_
  intro p e s m below meth c F hr hlocks hno
  have hn40 : n ≤ 40 := hI.1
  have hn23 : n ≤ 23 := hJ.1
  have hL : Lx 0 = List.range n := hI.2.2.1.2.1.1.1
  have hmt := hI.hmt
  have hmm : ∀ j, j < n → okM σ j := hI.2.2.1.2.2.2.2
  have hlg : ∀ j, j < n → zl j ≤ elen σ j ∧ elen σ j ≤ 1000 := fun j hj => ⟨(hI.2.2.1.2.2.1 j hj).2.2.2, by have := (hmm j hj).2.2.2.2.2; unfold elen; omega⟩
  have hg0 : la 7 0 = nI n := hJ.2.1
  have hg1 : la 7 1 = nI t := hJ.2.2.1
  have hnow : σ 0 0 = nI t := hI.2.2.1.2.1.2.2.2.1
  refine g_forget (dm1 := rs9 dm n tq) (ad1 := ad) (w1 := (cw D ad cs σ Lx cap mk ev zl tx mt tn tc (lwd cs la wz))) (fun k i q => q.1) (fun _ _ _ => rfl) (fun _ _ _ => rfl) ?_
  have hC9 := rs9_CD hC
  have hub := rs9_UB dm n tq
  have hd79 : ∀ k, 1 ≤ k → k ≤ 7 → rs9 dm n tq k 0 := fun k h1 h2 => ⟨hd7 k h1 h2, .inl (by omega)⟩
  generalize rs9 dm n tq = d9 at hC9 hub hd79 ⊢
  refine g_iload_n F 2 dL_isRecipient_0 rfl rfl ?_
  refine g_if_ne F (tgt := 68) dL_isRecipient_1 (by decide) (fun zc1 => ?_) (fun zc1 => ?_)
  ·
    refine g_iload_n F 2 dL_isRecipient_68 rfl rfl ?_
    refine g_iconst F dL_isRecipient_69 (v := 1) (by decide) ?_
    refine g_icmp_ne F (tgt := 146) dL_isRecipient_70 (by decide) (fun zc2 => ?_) (fun zc2 => ?_)
    ·
      refine g_iload F 4 dL_isRecipient_146 rfl ?_
      refine g_bipush F dL_isRecipient_148 (v := 52) (by decide) ?_
      refine g_irem F dL_isRecipient_150 (by decide) ?_
      refine g_top (y := (nI (o2 % 52))) (Eq.symm (by rw [show (nI o2) = nI o2 from rfl, show 52 = nI 52 from rfl]; exact pk_rem (by omega) (by omega) (by omega))) ?_
      refine g_istore F (lv1 := [(5, .int (nI (o2 % 52))), (0, .ref (ad 10 0)), (1, .ref (ad 5 0)), (2, .int 2), (3, .int (nI o1)), (4, .int (nI o2))]) dL_isRecipient_151 (by decide) rfl ?_
      refine g_iload_n F 4 dL_isRecipient_153 rfl rfl ?_
      refine g_bipush F dL_isRecipient_154 (v := 6) (by decide) ?_
      refine g_icmp_ne F (tgt := 163) dL_isRecipient_156 (by decide) (fun zc3 => ?_) (fun zc3 => ?_)
      ·
        have zc3n : ¬ (o1 = 6) := fun q => zc3 ((nI_eqE (show (nI o1) = nI o1 from rfl) (show 6 = nI 6 from rfl) (by omega) (by omega)).mpr q)
        obtain ⟨xm, xk, xi, hm4, hk50, hi50, h31, h29, h30, hmk, hm1, hsum⟩ := hJ.2.2.2.2.2.2.2.1 o1 (by omega)
        refine g_aload_n F 1 dL_isRecipient_163 rfl rfl ?_
        refine g_iload_n F 4 dL_isRecipient_164 rfl rfl ?_
        refine lq_inRoom F hC9 hn40 hL hlo hfl (r := o1) (by omega) (v := (nI xi)) h30 (cwV 1 F.1.2.2.2.2 gL_isRecipient_X5_inRoom rfl rfl rfl (by decide +kernel) ⟨Nat.le_of_ble_eq_true rfl, Nat.le_of_ble_eq_true rfl⟩) (Nat.le_of_ble_eq_true rfl) dL_isRecipient_165 ⟨show 0 + 1 ≤ 5 by omega, show 0 + 6 ≤ 34 by omega⟩ ?_
        refine g_istore F (lv1 := [(6, .int (nI xi)), (5, .int (nI (o2 % 52))), (0, .ref (ad 10 0)), (1, .ref (ad 5 0)), (2, .int 2), (3, .int (nI o1)), (4, .int (nI o2))]) dL_isRecipient_168 (by decide) rfl ?_
        refine g_aload_n F 2 dL_isRecipient_170 rfl rfl ?_
        refine g_bipush F dL_isRecipient_171 (v := 7) (by decide) ?_
        refine g_iload_n F 5 dL_isRecipient_173 rfl rfl ?_
        refine g_iload F 1 dL_isRecipient_174 rfl ?_
        refine g_iconst F dL_isRecipient_176 (v := 0) (by decide) ?_
        refine g_iconst F dL_isRecipient_177 (v := 0) (by decide) ?_
        refine q_callSW F (rest := []) [.ref (ad 10 0), .int 7, .int (nI o1), .int (nI (o2 % 52)), .int 0, .int 0] (ld_read l D A cs ad d9 (cw D ad cs σ Lx cap mk ev zl tx mt tn tc (lwd cs la wz)) (nI o1) (nI (o2 % 52)) 0 0 (cc_read l D A cs ad d9 σ Lx cap mk ev zl tx mt tn tc (lwd cs la wz) n tq hC9 (nI o1) (nI (o2 % 52)) hlo hfl) hC9.1 rfl (fun v ad1 dm1 w1 h => ⟨_, h.2.1⟩) (fun E h => h.elim (fun q => .inl q.1) (fun q => .inr (.inl q.1)))) (vx_cwSW 6 F.1.2.2.2.2 gL_isRecipient_L_does rfl rfl rfl (by decide +kernel) ⟨Nat.le_of_ble_eq_true rfl, Nat.le_of_ble_eq_true rfl⟩) rfl rfl (Nat.le_of_ble_eq_true rfl) dL_isRecipient_178 ⟨show (0 + 1) + 2 ≤ 5 by omega, show (0 + 6) + 12 ≤ 34 by omega⟩ (fun rz ad1 dm1 w1 hv => ?_)
        rcases hv with hp | ⟨hp, rfl, e1, e2, e3⟩ | ⟨hp, rfl, e1, e2, e3⟩ | ⟨hp, rfl, e1, e2, e3⟩
        ·
          have ea : ix (nI o1) = o1 := ix_nI (by omega)
          rw [ea] at hp
          obtain ⟨⟨hA, hX⟩, rfl, rfl, rfl, e3⟩ := hp
          have hA := (rc_n (by omega)).mp hA
          have hX := (inr_n (a := 1) (b := 50) rfl rfl (by omega) (by decide) (by decide)).mp hX
          rw [up2_self, h30, rd_v hi50 (show (o2 % 52) ≤ 51 by omega)]
          rw [h30, rd_v hi50 (show (o2 % 52) ≤ 51 by omega)] at e3
          obtain ⟨τ, hG, hLJ⟩ := gx_read (D := D) (cs := cs) (w0 := (lwd cs la wz)) (ad := ad) (mk := mk) hC9 hlo hI hA h30 hi50 (show xi - (o2 % 52) ≤ xi by omega)
          rw [e3] at hG
          obtain ⟨tq1, cap1, mk1, ev1, zl1, tx1, mt1, tn1, tc1, hC1, hlo1, hI1, had1, hdm1, rfl⟩ := hG
          have hd71 : ∀ k, 1 ≤ k → k ≤ 7 → d9 k 0 := fun k h1 h2 => hdm1 k 0 (by omega) (hd79 k h1 h2)
          refine g_st (st1 := [.int (nI (xi - (o2 % 52)))]) rfl ?_
          refine g_istore F (lv1 := [(7, .int (nI (xi - (o2 % 52)))), (6, .int (nI xi)), (5, .int (nI (o2 % 52))), (0, .ref (ad 10 0)), (1, .ref (ad 5 0)), (2, .int 2), (3, .int (nI o1)), (4, .int (nI o2))]) dL_isRecipient_181 (by decide) rfl ?_
          refine g_iload_n F 6 dL_isRecipient_183 rfl rfl ?_
          refine g_bipush F dL_isRecipient_184 (v := 6) (by decide) ?_
          refine g_icmp_eq F (tgt := 201) dL_isRecipient_186 (by decide) (fun zc4 => ?_) (fun zc4 => ?_)
          ·
            exact absurd ((nI_eqE (show (nI o1) = nI o1 from rfl) (show 6 = nI 6 from rfl) (by omega) (by omega)).mp zc4) (by omega)
          ·
            refine g_iload F 2 dL_isRecipient_189 rfl ?_
            refine g_if_eq F (tgt := 201) dL_isRecipient_191 (by decide) (fun zc5 => ?_) (fun zc5 => ?_)
            ·
              exact absurd ((nI_eqE (show (nI (o2 % 52)) = nI (o2 % 52) from rfl) (show 0 = nI 0 from rfl) (by omega) (by omega)).mp zc5) (by omega)
            ·
              refine g_iload F 2 dL_isRecipient_194 rfl ?_
              refine g_bipush F dL_isRecipient_196 (v := 51) (by decide) ?_
              refine g_icmp_ne F (tgt := 225) dL_isRecipient_198 (by decide) (fun zc6 => ?_) (fun zc6 => ?_)
              ·
                refine g_aload_n F 4 dL_isRecipient_225 rfl rfl ?_
                refine g_bipush F dL_isRecipient_226 (v := 12) (by decide) ?_
                refine g_iload_n F 6 dL_isRecipient_228 rfl rfl ?_
                refine g_iadd F dL_isRecipient_229 ?_
                refine g_top (y := (nI (12 + o1))) (Eq.symm (nI_addE (show 12 = nI 12 from rfl) (show (nI o1) = nI o1 from rfl))) ?_
                refine g_dup2 F dL_isRecipient_230 rfl rfl ?_
                refine l_ld F (K := 5) (j := (12 + o1)) (v := (la 5 (12 + o1))) hd71 ⟨by decide, by decide⟩ rfl (show (12 + o1) < 18 by omega) rfl dL_isRecipient_231 ?_
                refine g_iload F 2 dL_isRecipient_232 rfl ?_
                refine g_iload F 1 dL_isRecipient_234 rfl ?_
                refine g_icmp_ge F (tgt := 244) dL_isRecipient_236 (by decide) (fun zc7 => ?_) (fun zc7 => ?_)
                ·
                  have zc7n : xi ≤ (o2 % 52) := (nI_leE (show (nI xi) = nI xi from rfl) (show (nI (o2 % 52)) = nI (o2 % 52) from rfl) (by omega) (by omega)).mp zc7
                  refine g_iload F 1 dL_isRecipient_244 rfl ?_
                  refine g_iadd F dL_isRecipient_246 ?_
                  refine l_st F (K := 5) (j := (12 + o1)) hd71 ⟨by decide, by decide⟩ rfl (show (12 + o1) < 18 by omega) dL_isRecipient_247 ?_
                  refine g_iload F 0 dL_isRecipient_248 rfl ?_
                  refine g_iload F 2 dL_isRecipient_250 rfl ?_
                  refine g_iload F 1 dL_isRecipient_252 rfl ?_
                  refine g_icmp_ge F (tgt := 265) dL_isRecipient_254 (by decide) (fun zc8 => ?_) (fun zc8 => ?_)
                  ·
                    have zc8n : xi ≤ (o2 % 52) := (nI_leE (show (nI xi) = nI xi from rfl) (show (nI (o2 % 52)) = nI (o2 % 52) from rfl) (by omega) (by omega)).mp zc8
                    refine g_iconst F dL_isRecipient_265 (v := 0) (by decide) ?_
                    refine g_icmp_ne F (tgt := 273) dL_isRecipient_266 (by decide) (fun zc9 => ?_) (fun zc9 => ?_)
                    ·
                      exact absurd ((nI_eqE (show (nI (xi - (o2 % 52))) = nI (xi - (o2 % 52)) from rfl) (show 0 = nI 0 from rfl) (by omega) (by omega)).mpr (by omega)) zc9
                    ·
                      refine g_iconst F dL_isRecipient_269 (v := 1) (by decide) ?_
                      refine g_goto F (tgt := 274) dL_isRecipient_270 (by decide) ?_
                      exact g_qz F hr rfl hlocks (fun _ h => h) ⟨rfl, ⟨n, tq1, t, τ, Lx, cap1, mk1, ev1, zl1, tx1, mt1, tn1, tc1, (up2 la 5 (12 + o1) ((la 5 (12 + o1)) + (nI xi))), wz, kt, (va_up rd o1 (rd o1 + xi)), fun k hk => had1 k 0 hk, Nat.le_add_right _ _, hC1, hd71, hlo1, hI1, (by have z := hLJ la kt rd hJ; rw [show xi - (xi - (o2 % 52)) = xi by omega] at z; exact z), rfl⟩⟩ (show ((0 + 1) + 2) ≤ 5 by omega) (show ((0 + 6) + 12) ≤ 34 by omega) dL_isRecipient_274
                  ·
                    have zc8n : ¬ (xi ≤ (o2 % 52)) := fun q => zc8 ((nI_leE (show (nI xi) = nI xi from rfl) (show (nI (o2 % 52)) = nI (o2 % 52) from rfl) (by omega) (by omega)).mpr q)
                    refine g_iload F 1 dL_isRecipient_257 rfl ?_
                    refine g_iload F 2 dL_isRecipient_259 rfl ?_
                    refine g_isub F dL_isRecipient_261 ?_
                    refine g_goto F (tgt := 266) dL_isRecipient_262 (by decide) ?_
                    refine g_top (y := nI (xi - (o2 % 52))) (nI_sb (show (xi - (o2 % 52)) + (o2 % 52) = xi by omega)).symm ?_
                    refine g_icmp_ne F (tgt := 273) dL_isRecipient_266 (by decide) (fun zc10 => ?_) (fun zc10 => ?_)
                    ·
                      exact absurd ((nI_eqE (show (nI (xi - (o2 % 52))) = nI (xi - (o2 % 52)) from rfl) (show (nI (xi - (o2 % 52))) = nI (xi - (o2 % 52)) from rfl) (by omega) (by omega)).mpr (by omega)) zc10
                    ·
                      refine g_iconst F dL_isRecipient_269 (v := 1) (by decide) ?_
                      refine g_goto F (tgt := 274) dL_isRecipient_270 (by decide) ?_
                      exact g_qz F hr rfl hlocks (fun _ h => h) ⟨rfl, ⟨n, tq1, t, τ, Lx, cap1, mk1, ev1, zl1, tx1, mt1, tn1, tc1, (up2 la 5 (12 + o1) ((la 5 (12 + o1)) + (nI xi))), wz, kt, (va_up rd o1 (rd o1 + xi)), fun k hk => had1 k 0 hk, Nat.le_add_right _ _, hC1, hd71, hlo1, hI1, (by have z := hLJ la kt rd hJ; rw [show xi - (xi - (o2 % 52)) = xi by omega] at z; exact z), rfl⟩⟩ (show ((0 + 1) + 2) ≤ 5 by omega) (show ((0 + 6) + 12) ≤ 34 by omega) dL_isRecipient_274
                ·
                  have zc7n : ¬ (xi ≤ (o2 % 52)) := fun q => zc7 ((nI_leE (show (nI xi) = nI xi from rfl) (show (nI (o2 % 52)) = nI (o2 % 52) from rfl) (by omega) (by omega)).mpr q)
                  refine g_iload F 2 dL_isRecipient_239 rfl ?_
                  refine g_goto F (tgt := 246) dL_isRecipient_241 (by decide) ?_
                  refine g_iadd F dL_isRecipient_246 ?_
                  refine l_st F (K := 5) (j := (12 + o1)) hd71 ⟨by decide, by decide⟩ rfl (show (12 + o1) < 18 by omega) dL_isRecipient_247 ?_
                  refine g_iload F 0 dL_isRecipient_248 rfl ?_
                  refine g_iload F 2 dL_isRecipient_250 rfl ?_
                  refine g_iload F 1 dL_isRecipient_252 rfl ?_
                  refine g_icmp_ge F (tgt := 265) dL_isRecipient_254 (by decide) (fun zc11 => ?_) (fun zc11 => ?_)
                  ·
                    have zc11n : xi ≤ (o2 % 52) := (nI_leE (show (nI xi) = nI xi from rfl) (show (nI (o2 % 52)) = nI (o2 % 52) from rfl) (by omega) (by omega)).mp zc11
                    refine g_iconst F dL_isRecipient_265 (v := 0) (by decide) ?_
                    refine g_icmp_ne F (tgt := 273) dL_isRecipient_266 (by decide) (fun zc12 => ?_) (fun zc12 => ?_)
                    ·
                      exact absurd ((nI_eqE (show (nI (xi - (o2 % 52))) = nI (xi - (o2 % 52)) from rfl) (show 0 = nI 0 from rfl) (by omega) (by omega)).mpr (by omega)) zc12
                    ·
                      refine g_iconst F dL_isRecipient_269 (v := 1) (by decide) ?_
                      refine g_goto F (tgt := 274) dL_isRecipient_270 (by decide) ?_
                      exact g_qz F hr rfl hlocks (fun _ h => h) ⟨rfl, ⟨n, tq1, t, τ, Lx, cap1, mk1, ev1, zl1, tx1, mt1, tn1, tc1, (up2 la 5 (12 + o1) ((la 5 (12 + o1)) + (nI (o2 % 52)))), wz, kt, (va_up rd o1 (rd o1 + (o2 % 52))), fun k hk => had1 k 0 hk, Nat.le_add_right _ _, hC1, hd71, hlo1, hI1, (by have z := hLJ la kt rd hJ; rw [show xi - (xi - (o2 % 52)) = (o2 % 52) by omega] at z; exact z), rfl⟩⟩ (show ((0 + 1) + 2) ≤ 5 by omega) (show ((0 + 6) + 12) ≤ 34 by omega) dL_isRecipient_274
                  ·
                    have zc11n : ¬ (xi ≤ (o2 % 52)) := fun q => zc11 ((nI_leE (show (nI xi) = nI xi from rfl) (show (nI (o2 % 52)) = nI (o2 % 52) from rfl) (by omega) (by omega)).mpr q)
                    refine g_iload F 1 dL_isRecipient_257 rfl ?_
                    refine g_iload F 2 dL_isRecipient_259 rfl ?_
                    refine g_isub F dL_isRecipient_261 ?_
                    refine g_goto F (tgt := 266) dL_isRecipient_262 (by decide) ?_
                    refine g_top (y := nI (xi - (o2 % 52))) (nI_sb (show (xi - (o2 % 52)) + (o2 % 52) = xi by omega)).symm ?_
                    refine g_icmp_ne F (tgt := 273) dL_isRecipient_266 (by decide) (fun zc13 => ?_) (fun zc13 => ?_)
                    ·
                      exact absurd ((nI_eqE (show (nI (xi - (o2 % 52))) = nI (xi - (o2 % 52)) from rfl) (show (nI (xi - (o2 % 52))) = nI (xi - (o2 % 52)) from rfl) (by omega) (by omega)).mpr (by omega)) zc13
                    ·
                      refine g_iconst F dL_isRecipient_269 (v := 1) (by decide) ?_
                      refine g_goto F (tgt := 274) dL_isRecipient_270 (by decide) ?_
                      exact g_qz F hr rfl hlocks (fun _ h => h) ⟨rfl, ⟨n, tq1, t, τ, Lx, cap1, mk1, ev1, zl1, tx1, mt1, tn1, tc1, (up2 la 5 (12 + o1) ((la 5 (12 + o1)) + (nI (o2 % 52)))), wz, kt, (va_up rd o1 (rd o1 + (o2 % 52))), fun k hk => had1 k 0 hk, Nat.le_add_right _ _, hC1, hd71, hlo1, hI1, (by have z := hLJ la kt rd hJ; rw [show xi - (xi - (o2 % 52)) = (o2 % 52) by omega] at z; exact z), rfl⟩⟩ (show ((0 + 1) + 2) ≤ 5 by omega) (show ((0 + 6) + 12) ≤ 34 by omega) dL_isRecipient_274
              ·
                exact absurd ((nI_eqE (show (nI (o2 % 52)) = nI (o2 % 52) from rfl) (show 51 = nI 51 from rfl) (by omega) (by omega)).mp zc6) (by omega)
        ·
          replace e1 := e1.symm
          subst e1
          replace e2 := e2.symm
          subst e2
          replace e3 := e3.symm
          subst e3
          have hp := (hp.resolve_right (fun q => absurd q.1 (by decide))).2
          refine g_st (st1 := [.int (-30)]) rfl ?_
          have hA : ¬ o1 < 6 := fun q => hp ((rc_n (by omega)).mpr q)
          exact absurd hA (by omega)
        ·
          replace e1 := e1.symm
          subst e1
          replace e2 := e2.symm
          subst e2
          replace e3 := e3.symm
          subst e3
          have hp := (hp.resolve_left (fun q => absurd q.1 (by decide))).2
          refine g_st (st1 := [.int (-20)]) rfl ?_
          have hA := (rc_n (by omega)).mp hp.1
          have hB : ¬ (1 ≤ (o2 % 52) ∧ (o2 % 52) ≤ 50) := fun q => hp.2 ((inr_n (a := 1) (b := 50) rfl rfl (by omega) (by decide) (by decide)).mpr q)
          refine g_istore F (lv1 := [(7, .int (-20)), (6, .int (nI xi)), (5, .int (nI (o2 % 52))), (0, .ref (ad 10 0)), (1, .ref (ad 5 0)), (2, .int 2), (3, .int (nI o1)), (4, .int (nI o2))]) dL_isRecipient_181 (by decide) rfl ?_
          refine g_iload_n F 6 dL_isRecipient_183 rfl rfl ?_
          refine g_bipush F dL_isRecipient_184 (v := 6) (by decide) ?_
          refine g_icmp_eq F (tgt := 201) dL_isRecipient_186 (by decide) (fun zc14 => ?_) (fun zc14 => ?_)
          ·
            exact absurd ((nI_eqE (show (nI o1) = nI o1 from rfl) (show 6 = nI 6 from rfl) (by omega) (by omega)).mp zc14) (by omega)
          ·
            refine g_iload F 2 dL_isRecipient_189 rfl ?_
            refine g_if_eq F (tgt := 201) dL_isRecipient_191 (by decide) (fun zc15 => ?_) (fun zc15 => ?_)
            ·
              have zc15n : (o2 % 52) = 0 := (nI_eqE (show (nI (o2 % 52)) = nI (o2 % 52) from rfl) (show 0 = nI 0 from rfl) (by omega) (by omega)).mp zc15
              refine g_iload F 0 dL_isRecipient_201 rfl ?_
              refine g_iload_n F 6 dL_isRecipient_203 rfl rfl ?_
              refine g_bipush F dL_isRecipient_204 (v := 6) (by decide) ?_
              refine g_icmp_ne F (tgt := 214) dL_isRecipient_206 (by decide) (fun zc16 => ?_) (fun zc16 => ?_)
              ·
                refine g_bipush F dL_isRecipient_214 (v := -20) (by decide) ?_
                refine g_icmp_ne F (tgt := 223) dL_isRecipient_216 (by decide) (fun zc17 => ?_) (fun zc17 => ?_)
                ·
                  exact absurd zc17 (by decide)
                ·
                  refine g_iconst F dL_isRecipient_219 (v := 1) (by decide) ?_
                  refine g_goto F (tgt := 224) dL_isRecipient_220 (by decide) ?_
                  exact g_qz F hr rfl hlocks (fun _ h => h) ⟨rfl, ⟨n, tq, t, σ, Lx, cap, mk, ev, zl, tx, mt, tn, tc, la, wz, kt, rd, fun _ _ => rfl, Nat.le_add_right _ _, hC9, hd79, hlo, hI, hJ, rfl⟩⟩ (show ((0 + 1) + 2) ≤ 5 by omega) (show ((0 + 6) + 12) ≤ 34 by omega) dL_isRecipient_224
              ·
                exact absurd ((nI_eqE (show (nI o1) = nI o1 from rfl) (show 6 = nI 6 from rfl) (by omega) (by omega)).mp zc16) (by omega)
            ·
              have zc15n : ¬ ((o2 % 52) = 0) := fun q => zc15 ((nI_eqE (show (nI (o2 % 52)) = nI (o2 % 52) from rfl) (show 0 = nI 0 from rfl) (by omega) (by omega)).mpr q)
              refine g_iload F 2 dL_isRecipient_194 rfl ?_
              refine g_bipush F dL_isRecipient_196 (v := 51) (by decide) ?_
              refine g_icmp_ne F (tgt := 225) dL_isRecipient_198 (by decide) (fun zc18 => ?_) (fun zc18 => ?_)
              ·
                exact absurd ((nI_eqE (show (nI (o2 % 52)) = nI (o2 % 52) from rfl) (show 51 = nI 51 from rfl) (by omega) (by omega)).mpr (by omega)) zc18
              ·
                refine g_iload F 0 dL_isRecipient_201 rfl ?_
                refine g_iload_n F 6 dL_isRecipient_203 rfl rfl ?_
                refine g_bipush F dL_isRecipient_204 (v := 6) (by decide) ?_
                refine g_icmp_ne F (tgt := 214) dL_isRecipient_206 (by decide) (fun zc19 => ?_) (fun zc19 => ?_)
                ·
                  refine g_bipush F dL_isRecipient_214 (v := -20) (by decide) ?_
                  refine g_icmp_ne F (tgt := 223) dL_isRecipient_216 (by decide) (fun zc20 => ?_) (fun zc20 => ?_)
                  ·
                    exact absurd zc20 (by decide)
                  ·
                    refine g_iconst F dL_isRecipient_219 (v := 1) (by decide) ?_
                    refine g_goto F (tgt := 224) dL_isRecipient_220 (by decide) ?_
                    exact g_qz F hr rfl hlocks (fun _ h => h) ⟨rfl, ⟨n, tq, t, σ, Lx, cap, mk, ev, zl, tx, mt, tn, tc, la, wz, kt, rd, fun _ _ => rfl, Nat.le_add_right _ _, hC9, hd79, hlo, hI, hJ, rfl⟩⟩ (show ((0 + 1) + 2) ≤ 5 by omega) (show ((0 + 6) + 12) ≤ 34 by omega) dL_isRecipient_224
                ·
                  exact absurd ((nI_eqE (show (nI o1) = nI o1 from rfl) (show 6 = nI 6 from rfl) (by omega) (by omega)).mp zc19) (by omega)
        ·
          exact absurd hp (fun q => q.elim (fun z => absurd z.1 (by decide)) (fun z => absurd z.1 (by decide)))
      ·
        have zc3n : o1 = 6 := (nI_eqE (show (nI o1) = nI o1 from rfl) (show 6 = nI 6 from rfl) (by omega) (by omega)).mp zc3
        refine g_iconst F dL_isRecipient_159 (v := 0) (by decide) ?_
        refine g_goto F (tgt := 168) dL_isRecipient_160 (by decide) ?_
        refine g_istore F (lv1 := [(6, .int 0), (5, .int (nI (o2 % 52))), (0, .ref (ad 10 0)), (1, .ref (ad 5 0)), (2, .int 2), (3, .int (nI o1)), (4, .int (nI o2))]) dL_isRecipient_168 (by decide) rfl ?_
        refine g_aload_n F 2 dL_isRecipient_170 rfl rfl ?_
        refine g_bipush F dL_isRecipient_171 (v := 7) (by decide) ?_
        refine g_iload_n F 5 dL_isRecipient_173 rfl rfl ?_
        refine g_iload F 1 dL_isRecipient_174 rfl ?_
        refine g_iconst F dL_isRecipient_176 (v := 0) (by decide) ?_
        refine g_iconst F dL_isRecipient_177 (v := 0) (by decide) ?_
        refine q_callSW F (rest := []) [.ref (ad 10 0), .int 7, .int (nI o1), .int (nI (o2 % 52)), .int 0, .int 0] (ld_read l D A cs ad d9 (cw D ad cs σ Lx cap mk ev zl tx mt tn tc (lwd cs la wz)) (nI o1) (nI (o2 % 52)) 0 0 (cc_read l D A cs ad d9 σ Lx cap mk ev zl tx mt tn tc (lwd cs la wz) n tq hC9 (nI o1) (nI (o2 % 52)) hlo hfl) hC9.1 rfl (fun v ad1 dm1 w1 h => ⟨_, h.2.1⟩) (fun E h => h.elim (fun q => .inl q.1) (fun q => .inr (.inl q.1)))) (vx_cwSW 6 F.1.2.2.2.2 gL_isRecipient_L_does rfl rfl rfl (by decide +kernel) ⟨Nat.le_of_ble_eq_true rfl, Nat.le_of_ble_eq_true rfl⟩) rfl rfl (Nat.le_of_ble_eq_true rfl) dL_isRecipient_178 ⟨show 0 + 2 ≤ 5 by omega, show 0 + 12 ≤ 34 by omega⟩ (fun rz ad1 dm1 w1 hv => ?_)
        rcases hv with hp | ⟨hp, rfl, e1, e2, e3⟩ | ⟨hp, rfl, e1, e2, e3⟩ | ⟨hp, rfl, e1, e2, e3⟩
        ·
          have ea : ix (nI o1) = o1 := ix_nI (by omega)
          rw [ea] at hp
          obtain ⟨⟨hA, hX⟩, rfl, rfl, rfl, e3⟩ := hp
          have hA := (rc_n (by omega)).mp hA
          have hX := (inr_n (a := 1) (b := 50) rfl rfl (by omega) (by decide) (by decide)).mp hX
          exact absurd hA (by omega)
        ·
          replace e1 := e1.symm
          subst e1
          replace e2 := e2.symm
          subst e2
          replace e3 := e3.symm
          subst e3
          have hp := (hp.resolve_right (fun q => absurd q.1 (by decide))).2
          refine g_st (st1 := [.int (-30)]) rfl ?_
          have hA : ¬ o1 < 6 := fun q => hp ((rc_n (by omega)).mpr q)
          refine g_istore F (lv1 := [(7, .int (-30)), (6, .int 0), (5, .int (nI (o2 % 52))), (0, .ref (ad 10 0)), (1, .ref (ad 5 0)), (2, .int 2), (3, .int (nI o1)), (4, .int (nI o2))]) dL_isRecipient_181 (by decide) rfl ?_
          refine g_iload_n F 6 dL_isRecipient_183 rfl rfl ?_
          refine g_bipush F dL_isRecipient_184 (v := 6) (by decide) ?_
          refine g_icmp_eq F (tgt := 201) dL_isRecipient_186 (by decide) (fun zc21 => ?_) (fun zc21 => ?_)
          ·
            refine g_iload F 0 dL_isRecipient_201 rfl ?_
            refine g_iload_n F 6 dL_isRecipient_203 rfl rfl ?_
            refine g_bipush F dL_isRecipient_204 (v := 6) (by decide) ?_
            refine g_icmp_ne F (tgt := 214) dL_isRecipient_206 (by decide) (fun zc22 => ?_) (fun zc22 => ?_)
            ·
              exact absurd ((nI_eqE (show (nI o1) = nI o1 from rfl) (show 6 = nI 6 from rfl) (by omega) (by omega)).mpr (by omega)) zc22
            ·
              refine g_bipush F dL_isRecipient_209 (v := -30) (by decide) ?_
              refine g_goto F (tgt := 216) dL_isRecipient_211 (by decide) ?_
              refine g_icmp_ne F (tgt := 223) dL_isRecipient_216 (by decide) (fun zc23 => ?_) (fun zc23 => ?_)
              ·
                exact absurd zc23 (by decide)
              ·
                refine g_iconst F dL_isRecipient_219 (v := 1) (by decide) ?_
                refine g_goto F (tgt := 224) dL_isRecipient_220 (by decide) ?_
                exact g_qz F hr rfl hlocks (fun _ h => h) ⟨rfl, ⟨n, tq, t, σ, Lx, cap, mk, ev, zl, tx, mt, tn, tc, la, wz, kt, rd, fun _ _ => rfl, Nat.le_add_right _ _, hC9, hd79, hlo, hI, hJ, rfl⟩⟩ (show (0 + 2) ≤ 5 by omega) (show (0 + 12) ≤ 34 by omega) dL_isRecipient_224
          ·
            exact absurd ((nI_eqE (show (nI o1) = nI o1 from rfl) (show 6 = nI 6 from rfl) (by omega) (by omega)).mpr (by omega)) zc21
        ·
          replace e1 := e1.symm
          subst e1
          replace e2 := e2.symm
          subst e2
          replace e3 := e3.symm
          subst e3
          have hp := (hp.resolve_left (fun q => absurd q.1 (by decide))).2
          refine g_st (st1 := [.int (-20)]) rfl ?_
          have hA := (rc_n (by omega)).mp hp.1
          have hB : ¬ (1 ≤ (o2 % 52) ∧ (o2 % 52) ≤ 50) := fun q => hp.2 ((inr_n (a := 1) (b := 50) rfl rfl (by omega) (by decide) (by decide)).mpr q)
          exact absurd hA (by omega)
        ·
          exact absurd hp (fun q => q.elim (fun z => absurd z.1 (by decide)) (fun z => absurd z.1 (by decide)))
    ·
      exact absurd zc2 (by decide)
  ·
    exact absurd zc1 (by decide)
