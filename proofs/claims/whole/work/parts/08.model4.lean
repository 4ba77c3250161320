def faC (σ : SG) (j : Nat) (cz : Int32) (c : Nat) : Int32 := (σ 0 0) + ((if cz = 2 then 2 else (if cz = 1 then 5 else 10) : Int32) * (if (σ 27 ((3 * j) + c)) ≤ 2 then (1 <<< ((σ 27 ((3 * j) + c)) &&& 31)) else 8))
def faS (σ : SG) (j : Nat) (cz : Int32) (c : Nat) : SG := (up2 (up2 (up2 σ 27 ((3 * j) + c) ((σ 27 ((3 * j) + c)) + 1)) 26 j (faC σ j cz c)) 31 (ix (σ 13 j)) ((σ 31 (ix (σ 13 j))) ||| (if cz = 2 then 0 else (if cz = 1 then 1 else 2))))
def roOK (σ : SG) (j : Nat) : Prop := (σ 13 j) = nI (ix (σ 13 j)) ∧ ix (σ 13 j) < 6
set_option maxHeartbeats 4000000 in
set_option maxRecDepth 100000 in
theorem mc_failed (l : Launch) (D : va_G) (A : Nat → Prop) (cs : Nat → ClassId) (ad : Nat → Nat → Nat) (dm : Nat → Nat → Prop) (w0 : CF) (σ : SG) (v cz : Int32) (j c1 : Nat) (hM : MD dm) (hvj : v = nI j) (hj : j < 40) (hc : cz = nI c1) (hc2 : c1 < 3) (hro : roOK σ j) : Met l yX6_failed wsX6_failed ({ frames := 0, cells := 0, slots := 0, locals := 0 }) (va_Pc [.ref (ad 0 0), .int v, .int cz] (PW D A (tysG cs) ad dm (mw ad cs σ w0))) (va_Qv (fun (_ : Unit) => True) (fun _ t => PW D A (tysG cs) ad dm (mw ad cs (faS σ j cz c1) w0) t) A) 0 0 A := by
  refine g_start (own := RX6) [.ref (ad 0 0), .int v, .int cz] (cc := cX6_failed) (maxL := 5) (ret := none) (lv0 := [(0, .ref (ad 0 0)), (1, .int v), (2, .int cz)]) (by decide) rfl rfl (Nat.le_of_ble_eq_true rfl) rfl ?_
  intro p e s m below meth c F hr hlocks hname
  have hin : ∀ w ∈ wsX60, w ∈ wsX6_failed := by decide +kernel
  refine g_aload_n F 0 dX6_failed_0 rfl rfl ?_
  refine mg_get F hM hin 27 (by decide) rfl (by decide +kernel) rfl dX6_failed_1 ?_
  refine g_iconst F dX6_failed_4 (v := 3) (by decide) ?_
  refine g_iload_n F 1 dX6_failed_5 rfl rfl ?_
  refine g_imul F dX6_failed_6 ?_
  refine g_iload_n F 2 dX6_failed_7 rfl rfl ?_
  refine g_iadd F dX6_failed_8 ?_
  refine mg_ald F hM 27 rfl (nI_addE (show (3 * v) = nI (3 * j) from (nI_mulE (show 3 = nI 3 from rfl) (show v = nI j from hvj))) (show cz = nI c1 from hc)) (show ((3 * j) + c1) < 120 by omega) (v := (σ 27 ((3 * j) + c1))) rfl dX6_failed_9 ?_
  refine g_istore_n F (lv1 := [(3, .int (σ 27 ((3 * j) + c1))), (0, .ref (ad 0 0)), (1, .int v), (2, .int cz)]) dX6_failed_10 rfl (by decide) rfl ?_
  refine g_aload_n F 1 dX6_failed_11 rfl rfl ?_
  refine mg_get F hM hin 27 (by decide) rfl (by decide +kernel) rfl dX6_failed_12 ?_
  refine g_iconst F dX6_failed_15 (v := 3) (by decide) ?_
  refine g_iload_n F 2 dX6_failed_16 rfl rfl ?_
  refine g_imul F dX6_failed_17 ?_
  refine g_iload_n F 3 dX6_failed_18 rfl rfl ?_
  refine g_iadd F dX6_failed_19 ?_
  refine g_dup2 F dX6_failed_20 rfl rfl ?_
  refine mg_ald F hM 27 rfl (nI_addE (show (3 * v) = nI (3 * j) from (nI_mulE (show 3 = nI 3 from rfl) (show v = nI j from hvj))) (show cz = nI c1 from hc)) (show ((3 * j) + c1) < 120 by omega) (v := (σ 27 ((3 * j) + c1))) rfl dX6_failed_21 ?_
  refine g_iconst F dX6_failed_22 (v := 1) (by decide) ?_
  refine g_iadd F dX6_failed_23 ?_
  refine mg_ast F hM 27 rfl (nI_addE (show (3 * v) = nI (3 * j) from (nI_mulE (show 3 = nI 3 from rfl) (show v = nI j from hvj))) (show cz = nI c1 from hc)) (show ((3 * j) + c1) < 120 by omega) dX6_failed_24 ?_
  refine g_iload_n F 3 dX6_failed_25 rfl rfl ?_
  refine g_iconst F dX6_failed_26 (v := 2) (by decide) ?_
  refine g_cut (w2 := (mw ad cs (up2 σ 27 ((3 * j) + c1) ((σ 27 ((3 * j) + c1)) + 1)) w0)) (pc2 := 45) (lv2 := [(3, .int (σ 27 ((3 * j) + c1))), (0, .ref (ad 0 0)), (1, .int v), (2, .int cz)]) (st2 := [.int (if cz = 2 then 2 else (if cz = 1 then 5 else 10) : Int32)]) ?_ (fun hJ1 => ?_)
  ·
    refine g_istore F (lv1 := [(4, .int (if cz = 2 then 2 else (if cz = 1 then 5 else 10) : Int32)), (3, .int (σ 27 ((3 * j) + c1))), (0, .ref (ad 0 0)), (1, .int v), (2, .int cz)]) dX6_failed_45 (by decide) rfl ?_
    refine g_aload_n F 2 dX6_failed_47 rfl rfl ?_
    refine mg_get F hM hin 26 (by decide) rfl (by decide +kernel) rfl dX6_failed_48 ?_
    refine g_iload_n F 3 dX6_failed_51 rfl rfl ?_
    refine g_aload_n F 2 dX6_failed_52 rfl rfl ?_
    refine mg_get F hM hin 0 (by decide) (congrArg (fun z : Int32 => some (Value.int z)) (show (up2 σ 27 ((3 * j) + c1) ((σ 27 ((3 * j) + c1)) + 1)) 0 0 = (σ 0 0) from ((up2_ne _ _ (fun h => absurd h.1 (by decide))).trans rfl))) (by decide +kernel) rfl dX6_failed_53 ?_
    refine g_iload F 0 dX6_failed_56 rfl ?_
    refine g_iload_n F 1 dX6_failed_58 rfl rfl ?_
    refine g_iconst F dX6_failed_59 (v := 2) (by decide) ?_
    refine g_cut (w2 := (mw ad cs (up2 σ 27 ((3 * j) + c1) ((σ 27 ((3 * j) + c1)) + 1)) w0)) (pc2 := 71) (lv2 := [(4, .int (if cz = 2 then 2 else (if cz = 1 then 5 else 10) : Int32)), (3, .int (σ 27 ((3 * j) + c1))), (0, .ref (ad 0 0)), (1, .int v), (2, .int cz)]) (st2 := [.int (if (σ 27 ((3 * j) + c1)) ≤ 2 then (1 <<< ((σ 27 ((3 * j) + c1)) &&& 31)) else 8 : Int32), .int (if cz = 2 then 2 else (if cz = 1 then 5 else 10) : Int32), .int (σ 0 0), .int v, .ref (ad 1 26)]) ?_ (fun hJ2 => ?_)
    ·
      refine g_imul F dX6_failed_71 ?_
      refine g_iadd F dX6_failed_72 ?_
      refine mg_ast F hM 26 rfl hvj (show j < 40 by omega) dX6_failed_73 ?_
      refine g_aload_n F 2 dX6_failed_74 rfl rfl ?_
      refine mg_get F hM hin 31 (by decide) rfl (by decide +kernel) rfl dX6_failed_75 ?_
      refine g_aload_n F 2 dX6_failed_78 rfl rfl ?_
      refine mg_get F hM hin 13 (by decide) rfl (by decide +kernel) rfl dX6_failed_79 ?_
      refine g_iload_n F 3 dX6_failed_82 rfl rfl ?_
      refine mg_ald F hM 13 rfl hvj (show j < 40 by omega) (v := (σ 13 j)) ((up2_ne _ _ (fun h => absurd h.1 (by decide))).trans ((up2_ne _ _ (fun h => absurd h.1 (by decide))).trans rfl)) dX6_failed_83 ?_
      refine g_dup2 F dX6_failed_84 rfl rfl ?_
      refine mg_ald F hM 31 rfl hro.1 hro.2 (v := (σ 31 (ix (σ 13 j)))) ((up2_ne _ _ (fun h => absurd h.1 (by decide))).trans ((up2_ne _ _ (fun h => absurd h.1 (by decide))).trans rfl)) dX6_failed_85 ?_
      refine g_iload_n F 4 dX6_failed_86 rfl rfl ?_
      refine g_iconst F dX6_failed_87 (v := 2) (by decide) ?_
      refine g_cut (w2 := (mw ad cs (up2 (up2 σ 27 ((3 * j) + c1) ((σ 27 ((3 * j) + c1)) + 1)) 26 j ((σ 0 0) + ((if cz = 2 then 2 else (if cz = 1 then 5 else 10) : Int32) * (if (σ 27 ((3 * j) + c1)) ≤ 2 then (1 <<< ((σ 27 ((3 * j) + c1)) &&& 31)) else 8 : Int32)))) w0)) (pc2 := 105) (lv2 := [(4, .int (if cz = 2 then 2 else (if cz = 1 then 5 else 10) : Int32)), (3, .int (σ 27 ((3 * j) + c1))), (0, .ref (ad 0 0)), (1, .int v), (2, .int cz)]) (st2 := [.int (if cz = 2 then 0 else (if cz = 1 then 1 else 2) : Int32), .int (σ 31 (ix (σ 13 j))), .int (σ 13 j), .ref (ad 1 31)]) ?_ (fun hJ3 => ?_)
      ·
        refine g_ior F dX6_failed_105 ?_
        refine mg_ast F hM 31 rfl hro.1 hro.2 dX6_failed_106 ?_
        exact g_vret F hr hlocks (fun _ h => by rw [show (mw ad cs (faS σ j cz c1) w0) = (mw ad cs (up2 (up2 (up2 σ 27 ((3 * j) + c1) ((σ 27 ((3 * j) + c1)) + 1)) 26 j ((σ 0 0) + ((if cz = 2 then 2 else (if cz = 1 then 5 else 10) : Int32) * (if (σ 27 ((3 * j) + c1)) ≤ 2 then (1 <<< ((σ 27 ((3 * j) + c1)) &&& 31)) else 8 : Int32)))) 31 (ix (σ 13 j)) ((σ 31 (ix (σ 13 j))) ||| (if cz = 2 then 0 else (if cz = 1 then 1 else 2) : Int32))) w0) from (by unfold faS faC; rfl)]; exact h) dX6_failed_107
      ·
        refine g_icmp_ne F (tgt := 95) dX6_failed_88 (by decide) (fun c4 => ?_) (fun c4 => ?_)
        ·
          refine g_iload_n F 4 dX6_failed_95 rfl rfl ?_
          refine g_iconst F dX6_failed_96 (v := 1) (by decide) ?_
          refine g_icmp_ne F (tgt := 104) dX6_failed_97 (by decide) (fun c5 => ?_) (fun c5 => ?_)
          ·
            refine g_iconst F dX6_failed_104 (v := 2) (by decide) ?_
            exact g_top (by rw [if_neg c4, if_neg c5]) hJ3
          ·
            refine g_iconst F dX6_failed_100 (v := 1) (by decide) ?_
            refine g_goto F (tgt := 105) dX6_failed_101 (by decide) ?_
            exact g_top (by rw [if_neg c4, if_pos c5]) hJ3
        ·
          refine g_iconst F dX6_failed_91 (v := 0) (by decide) ?_
          refine g_goto F (tgt := 105) dX6_failed_92 (by decide) ?_
          exact g_top (by rw [if_pos c4]) hJ3
    ·
      refine g_icmp_le F (tgt := 68) dX6_failed_60 (by decide) (fun c6 => ?_) (fun c6 => ?_)
      ·
        refine g_iconst F dX6_failed_68 (v := 1) (by decide) ?_
        refine g_iload_n F 1 dX6_failed_69 rfl rfl ?_
        refine g_ishl F dX6_failed_70 ?_
        exact g_top (by rw [if_pos c6]) hJ2
      ·
        refine g_bipush F dX6_failed_63 (v := 8) (by decide) ?_
        refine g_goto F (tgt := 71) dX6_failed_65 (by decide) ?_
        exact g_top (by rw [if_neg c6]) hJ2
  ·
    refine g_icmp_ne F (tgt := 34) dX6_failed_27 (by decide) (fun c7 => ?_) (fun c7 => ?_)
    ·
      refine g_iload_n F 3 dX6_failed_34 rfl rfl ?_
      refine g_iconst F dX6_failed_35 (v := 1) (by decide) ?_
      refine g_icmp_ne F (tgt := 43) dX6_failed_36 (by decide) (fun c8 => ?_) (fun c8 => ?_)
      ·
        refine g_bipush F dX6_failed_43 (v := 10) (by decide) ?_
        exact g_top (by rw [if_neg c7, if_neg c8]) hJ1
      ·
        refine g_iconst F dX6_failed_39 (v := 5) (by decide) ?_
        refine g_goto F (tgt := 45) dX6_failed_40 (by decide) ?_
        exact g_top (by rw [if_neg c7, if_pos c8]) hJ1
    ·
      refine g_iconst F dX6_failed_30 (v := 2) (by decide) ?_
      refine g_goto F (tgt := 45) dX6_failed_31 (by decide) ?_
      exact g_top (by rw [if_pos c7]) hJ1
def clF (σ : SG) (j : Nat) : Nat → SG
  | 0 => σ
  | k + 1 => up2 (clF σ j k) 27 ((3 * j) + k) 0
theorem clF_ne (σ : SG) (j : Nat) {f : Nat} (hf : f ≠ 27) (i : Nat) : ∀ k, clF σ j k f i = σ f i
  | 0 => rfl
  | k + 1 => by unfold clF; rw [up2_ne _ _ (fun h => hf h.1)]; exact clF_ne σ j hf i k
def trC (σ : SG) (j : Nat) : Int32 := (if (σ 28 (ix (σ 13 j))) = 0 then 0 else (σ 28 (ix (σ 13 j))))
def tr0 (σ : SG) (j : Nat) : SG := (up2 σ 25 j ((σ 25 j) + 1))
def tr1 (σ : SG) (j : Nat) : SG := (clF (up2 (up2 (up2 (tr0 σ j) 30 (ix (σ 13 j)) ((σ 30 (ix (σ 13 j))) + 1)) 24 j ((σ 24 j) + 1)) 26 j (σ 0 0)) j 3)
abbrev trF (σ : SG) (j : Nat) : Prop := ¬ (σ 28 (ix (σ 13 j))) = 0 ∨ ¬ (σ 30 (ix (σ 13 j))) < (σ 29 (ix (σ 13 j)))
def trS (σ : SG) (j : Nat) (v : Int32) : SG := if (σ 28 (ix (σ 13 j))) = 3 then enS (tr0 σ j) j v 4 else if trF σ j then faS (tr0 σ j) j (trC σ j) (ix (trC σ j)) else if ((σ 24 j) + 1) = nI (ptM σ j) then enS (tr1 σ j) j v 1 else tr1 σ j
def trR (σ : SG) (j : Nat) : Int32 := if (σ 28 (ix (σ 13 j))) = 3 then 0 else if trF σ j then 0 else 1
def moOK (σ : SG) (r : Nat) : Prop := (σ 28 r) = nI (ix (σ 28 r)) ∧ ix (σ 28 r) < 4
theorem trC_ok {σ : SG} {j : Nat} (h : moOK σ (ix (σ 13 j))) (h3 : ¬ (σ 28 (ix (σ 13 j))) = 3) : trC σ j = nI (ix (trC σ j)) ∧ ix (trC σ j) < 3 := by
  unfold trC
  split
  · exact ⟨rfl, by decide⟩
  · refine ⟨h.1, ?_⟩
    have := h.2
    rcases Nat.lt_or_ge (ix (σ 28 (ix (σ 13 j)))) 3 with q | q
    · exact q
    · exact absurd (by rw [h.1, show ix (σ 28 (ix (σ 13 j))) = 3 by omega]; rfl) h3
set_option maxHeartbeats 4000000 in
set_option maxRecDepth 100000 in
theorem mc_tries (l : Launch) (D : va_G) (A : Nat → Prop) (cs : Nat → ClassId) (ad : Nat → Nat → Nat) (dm : Nat → Nat → Prop) (w0 : CF) (σ : SG) (v : Int32) (j : Nat) (hM : MD dm) (hvj : v = nI j) (hj : j < 40) (hok : enOK σ j) (hro : roOK σ j) (htx : txOK σ j) (hmo : moOK σ (ix (σ 13 j))) : Met l yX6_tries wsX6_tries ({ frames := 3, cells := 0, slots := 0, locals := 74 }) (va_Pc [.ref (ad 0 0), .int v] (PW D A (tysG cs) ad dm (mw ad cs σ w0))) (va_Qi (fun r (_ : Unit) => r = (trR σ j)) (fun _ t => PW D A (tysG cs) ad dm (mw ad cs (trS σ j v) w0) t) A) 0 0 A := by
  refine g_start (own := RX6) [.ref (ad 0 0), .int v] (cc := cX6_tries) (maxL := 4) (ret := (some .int)) (lv0 := [(0, .ref (ad 0 0)), (1, .int v)]) (by decide) rfl rfl (Nat.le_of_ble_eq_true rfl) rfl ?_
  intro p e s m below meth c F hr hlocks hname
  have hin : ∀ w ∈ wsX60, w ∈ wsX6_tries := by decide +kernel
  refine g_aload_n F 0 dX6_tries_0 rfl rfl ?_
  refine mg_get F hM hin 13 (by decide) rfl (by decide +kernel) rfl dX6_tries_1 ?_
  refine g_iload_n F 1 dX6_tries_4 rfl rfl ?_
  refine mg_ald F hM 13 rfl hvj (show j < 40 by omega) (v := (σ 13 j)) rfl dX6_tries_5 ?_
  refine g_istore_n F (lv1 := [(2, .int (σ 13 j)), (0, .ref (ad 0 0)), (1, .int v)]) dX6_tries_6 rfl (by decide) rfl ?_
  refine g_aload_n F 1 dX6_tries_7 rfl rfl ?_
  refine mg_get F hM hin 25 (by decide) rfl (by decide +kernel) rfl dX6_tries_8 ?_
  refine g_iload_n F 2 dX6_tries_11 rfl rfl ?_
  refine g_dup2 F dX6_tries_12 rfl rfl ?_
  refine mg_ald F hM 25 rfl hvj (show j < 40 by omega) (v := (σ 25 j)) rfl dX6_tries_13 ?_
  refine g_iconst F dX6_tries_14 (v := 1) (by decide) ?_
  refine g_iadd F dX6_tries_15 ?_
  refine mg_ast F hM 25 rfl hvj (show j < 40 by omega) dX6_tries_16 ?_
  refine g_aload_n F 1 dX6_tries_17 rfl rfl ?_
  refine mg_get F hM hin 28 (by decide) rfl (by decide +kernel) rfl dX6_tries_18 ?_
  refine g_iload_n F 0 dX6_tries_21 rfl rfl ?_
  refine mg_ald F hM 28 rfl hro.1 hro.2 (v := (σ 28 (ix (σ 13 j)))) ((up2_ne _ _ (fun h => absurd h.1 (by decide))).trans rfl) dX6_tries_22 ?_
  refine g_iconst F dX6_tries_23 (v := 3) (by decide) ?_
  refine g_icmp_ne F (tgt := 35) dX6_tries_24 (by decide) (fun c1 => ?_) (fun c1 => ?_)
  ·
    refine g_aload_n F 1 dX6_tries_35 rfl rfl ?_
    refine mg_get F hM hin 28 (by decide) rfl (by decide +kernel) rfl dX6_tries_36 ?_
    refine g_iload_n F 0 dX6_tries_39 rfl rfl ?_
    refine mg_ald F hM 28 rfl hro.1 hro.2 (v := (σ 28 (ix (σ 13 j)))) ((up2_ne _ _ (fun h => absurd h.1 (by decide))).trans rfl) dX6_tries_40 ?_
    refine g_if_ne F (tgt := 59) dX6_tries_41 (by decide) (fun c2 => ?_) (fun c2 => ?_)
    ·
      refine g_aload_n F 1 dX6_tries_59 rfl rfl ?_
      refine g_iload_n F 2 dX6_tries_60 rfl rfl ?_
      refine g_aload_n F 1 dX6_tries_61 rfl rfl ?_
      refine mg_get F hM hin 28 (by decide) rfl (by decide +kernel) rfl dX6_tries_62 ?_
      refine g_iload_n F 0 dX6_tries_65 rfl rfl ?_
      refine mg_ald F hM 28 rfl hro.1 hro.2 (v := (σ 28 (ix (σ 13 j)))) ((up2_ne _ _ (fun h => absurd h.1 (by decide))).trans rfl) dX6_tries_66 ?_
      refine g_cut (w2 := (mw ad cs (up2 σ 25 j ((σ 25 j) + 1)) w0)) (pc2 := 80) (lv2 := [(2, .int (σ 13 j)), (0, .ref (ad 0 0)), (1, .int v)]) (st2 := [.int (if (σ 28 (ix (σ 13 j))) = 0 then 0 else (σ 28 (ix (σ 13 j))) : Int32), .int v, .ref (ad 0 0)]) ?_ (fun hJ3 => ?_)
      ·
        refine g_callVv F (C := RX6) (k := 0) (i := 0) (ci := 6) (T := TX6) (N := 33) (rest := []) [.int v, .int (if (σ 28 (ix (σ 13 j))) = 0 then 0 else (σ 28 (ix (σ 13 j))) : Int32)] (mc_failed l D A cs ad dm w0 (up2 σ 25 j ((σ 25 j) + 1)) v (if (σ 28 (ix (σ 13 j))) = 0 then 0 else (σ 28 (ix (σ 13 j))) : Int32) j (ix (trC σ j)) hM hvj (by omega) (trC_ok hmo c1).1 (trC_ok hmo c1).2 (by simpa [roOK, up2] using hro)) (cwV 2 F.1.2.2.2.2 gX6_tries_X6_failed rfl rfl rfl (by decide +kernel) ⟨Nat.le_of_ble_eq_true rfl, Nat.le_of_ble_eq_true rfl⟩) rfl hM.1 rfl rfl rfl rfl (Nat.le_of_ble_eq_true rfl) dX6_tries_80 ⟨Nat.le_of_ble_eq_true rfl, Nat.le_of_ble_eq_true rfl⟩ ?_
        refine g_iconst F dX6_tries_83 (v := 0) (by decide) ?_
        exact g_iret F hr ((by unfold trR; rw [if_neg c1, if_pos (Or.inl c2)])) hlocks (fun _ h => by rw [show (mw ad cs (trS σ j v) w0) = (mw ad cs (faS (up2 σ 25 j ((σ 25 j) + 1)) j (if (σ 28 (ix (σ 13 j))) = 0 then 0 else (σ 28 (ix (σ 13 j))) : Int32) (ix (trC σ j))) w0) from (by unfold trS; rw [if_neg c1, if_pos (Or.inl c2)]; rfl)]; exact h) dX6_tries_84
      ·
        refine g_if_ne F (tgt := 74) dX6_tries_67 (by decide) (fun c4 => ?_) (fun c4 => ?_)
        ·
          refine g_aload_n F 1 dX6_tries_74 rfl rfl ?_
          refine mg_get F hM hin 28 (by decide) rfl (by decide +kernel) rfl dX6_tries_75 ?_
          refine g_iload_n F 0 dX6_tries_78 rfl rfl ?_
          refine mg_ald F hM 28 rfl hro.1 hro.2 (v := (σ 28 (ix (σ 13 j)))) ((up2_ne _ _ (fun h => absurd h.1 (by decide))).trans rfl) dX6_tries_79 ?_
          exact g_top (by rw [if_neg c4]) hJ3
        ·
          refine g_iconst F dX6_tries_70 (v := 0) (by decide) ?_
          refine g_goto F (tgt := 80) dX6_tries_71 (by decide) ?_
          exact g_top (by rw [if_pos c4]) hJ3
    ·
      refine g_aload_n F 1 dX6_tries_44 rfl rfl ?_
      refine mg_get F hM hin 30 (by decide) rfl (by decide +kernel) rfl dX6_tries_45 ?_
      refine g_iload_n F 0 dX6_tries_48 rfl rfl ?_
      refine mg_ald F hM 30 rfl hro.1 hro.2 (v := (σ 30 (ix (σ 13 j)))) ((up2_ne _ _ (fun h => absurd h.1 (by decide))).trans rfl) dX6_tries_49 ?_
      refine g_aload_n F 1 dX6_tries_50 rfl rfl ?_
      refine mg_get F hM hin 29 (by decide) rfl (by decide +kernel) rfl dX6_tries_51 ?_
      refine g_iload_n F 0 dX6_tries_54 rfl rfl ?_
      refine mg_ald F hM 29 rfl hro.1 hro.2 (v := (σ 29 (ix (σ 13 j)))) ((up2_ne _ _ (fun h => absurd h.1 (by decide))).trans rfl) dX6_tries_55 ?_
      refine g_icmp_lt F (tgt := 85) dX6_tries_56 (by decide) (fun c5 => ?_) (fun c5 => ?_)
      ·
        refine g_aload_n F 1 dX6_tries_85 rfl rfl ?_
        refine mg_get F hM hin 30 (by decide) rfl (by decide +kernel) rfl dX6_tries_86 ?_
        refine g_iload_n F 0 dX6_tries_89 rfl rfl ?_
        refine g_dup2 F dX6_tries_90 rfl rfl ?_
        refine mg_ald F hM 30 rfl hro.1 hro.2 (v := (σ 30 (ix (σ 13 j)))) ((up2_ne _ _ (fun h => absurd h.1 (by decide))).trans rfl) dX6_tries_91 ?_
        refine g_iconst F dX6_tries_92 (v := 1) (by decide) ?_
        refine g_iadd F dX6_tries_93 ?_
        refine mg_ast F hM 30 rfl hro.1 hro.2 dX6_tries_94 ?_
        refine g_aload_n F 1 dX6_tries_95 rfl rfl ?_
        refine mg_get F hM hin 24 (by decide) rfl (by decide +kernel) rfl dX6_tries_96 ?_
        refine g_iload_n F 2 dX6_tries_99 rfl rfl ?_
        refine g_dup2 F dX6_tries_100 rfl rfl ?_
        refine mg_ald F hM 24 rfl hvj (show j < 40 by omega) (v := (σ 24 j)) ((up2_ne _ _ (fun h => absurd h.1 (by decide))).trans ((up2_ne _ _ (fun h => absurd h.1 (by decide))).trans rfl)) dX6_tries_101 ?_
        refine g_iconst F dX6_tries_102 (v := 1) (by decide) ?_
        refine g_iadd F dX6_tries_103 ?_
        refine mg_ast F hM 24 rfl hvj (show j < 40 by omega) dX6_tries_104 ?_
        refine g_aload_n F 1 dX6_tries_105 rfl rfl ?_
        refine mg_get F hM hin 26 (by decide) rfl (by decide +kernel) rfl dX6_tries_106 ?_
        refine g_iload_n F 2 dX6_tries_109 rfl rfl ?_
        refine g_aload_n F 1 dX6_tries_110 rfl rfl ?_
        refine mg_get F hM hin 0 (by decide) (congrArg (fun z : Int32 => some (Value.int z)) (show (up2 (up2 (up2 σ 25 j ((σ 25 j) + 1)) 30 (ix (σ 13 j)) ((σ 30 (ix (σ 13 j))) + 1)) 24 j ((σ 24 j) + 1)) 0 0 = (σ 0 0) from ((up2_ne _ _ (fun h => absurd h.1 (by decide))).trans ((up2_ne _ _ (fun h => absurd h.1 (by decide))).trans ((up2_ne _ _ (fun h => absurd h.1 (by decide))).trans rfl))))) (by decide +kernel) rfl dX6_tries_111 ?_
        refine mg_ast F hM 26 rfl hvj (show j < 40 by omega) dX6_tries_114 ?_
        refine g_iconst F dX6_tries_115 (v := 0) (by decide) ?_
        refine g_istore_n F (lv1 := [(3, .int 0), (2, .int (σ 13 j)), (0, .ref (ad 0 0)), (1, .int v)]) dX6_tries_116 rfl (by decide) rfl ?_
        refine g_loop 3 0 (by omega) (fun k6 => (mw ad cs (clF (up2 (up2 (up2 (up2 σ 25 j ((σ 25 j) + 1)) 30 (ix (σ 13 j)) ((σ 30 (ix (σ 13 j))) + 1)) 24 j ((σ 24 j) + 1)) 26 j (σ 0 0)) j k6) w0)) (fun k6 => [(3, .int (nI k6)), (2, .int (σ 13 j)), (0, .ref (ad 0 0)), (1, .int v)]) rfl rfl ?_ (fun k6 hk8 hk9 ih7 => ?_)
        ·
          show GG p l e _ s m _ below meth c D A ad dm _ _ _ _ (mw ad cs (clF (up2 (up2 (up2 (up2 σ 25 j ((σ 25 j) + 1)) 30 (ix (σ 13 j)) ((σ 30 (ix (σ 13 j))) + 1)) 24 j ((σ 24 j) + 1)) 26 j (σ 0 0)) j 3) w0) 117 [(3, .int (nI 3)), (2, .int (σ 13 j)), (0, .ref (ad 0 0)), (1, .int v)] []
          refine g_iload_n F 0 dX6_tries_117 rfl rfl ?_
          refine g_iconst F dX6_tries_118 (v := 3) (by decide) ?_
          refine g_icmp_ge F (tgt := 139) dX6_tries_119 (by decide) (fun c10 => ?_) (fun c10 => ?_)
          ·
            refine g_aload_n F 2 dX6_tries_139 rfl rfl ?_
            refine mg_get F hM hin 24 (by decide) rfl (by decide +kernel) rfl dX6_tries_140 ?_
            refine g_iload_n F 3 dX6_tries_143 rfl rfl ?_
            refine mg_ald F hM 24 rfl hvj (show j < 40 by omega) (v := ((clF (up2 (up2 (up2 (up2 σ 25 j ((σ 25 j) + 1)) 30 (ix (σ 13 j)) ((σ 30 (ix (σ 13 j))) + 1)) 24 j ((σ 24 j) + 1)) 26 j (σ 0 0)) j 3) 24 j)) rfl dX6_tries_144 ?_
            refine g_aload_n F 2 dX6_tries_145 rfl rfl ?_
            refine g_iload_n F 3 dX6_tries_146 rfl rfl ?_
            refine g_callVi F (C := RX6) (k := 0) (i := 0) (ci := 6) (T := TX6) (N := 33) (rest := [.int ((clF (up2 (up2 (up2 (up2 σ 25 j ((σ 25 j) + 1)) 30 (ix (σ 13 j)) ((σ 30 (ix (σ 13 j))) + 1)) 24 j ((σ 24 j) + 1)) 26 j (σ 0 0)) j 3) 24 j)]) [.int v] (mc_parted l D A cs ad dm w0 (clF (up2 (up2 (up2 (up2 σ 25 j ((σ 25 j) + 1)) 30 (ix (σ 13 j)) ((σ 30 (ix (σ 13 j))) + 1)) 24 j ((σ 24 j) + 1)) 26 j (σ 0 0)) j 3) v j hM hvj (by omega) (by simpa [txOK, up2, clF_ne] using htx)) (cwV 1 F.1.2.2.2.2 gX6_tries_X6_parted rfl rfl rfl (by decide +kernel) ⟨Nat.le_of_ble_eq_true rfl, Nat.le_of_ble_eq_true rfl⟩) rfl hM.1 rfl rfl rfl rfl (Nat.le_of_ble_eq_true rfl) dX6_tries_147 ⟨Nat.le_of_ble_eq_true rfl, Nat.le_of_ble_eq_true rfl⟩ ?_
            refine g_icmp_ne F (tgt := 159) dX6_tries_150 (by decide) (fun c11 => ?_) (fun c11 => ?_)
            ·
              refine g_iconst F dX6_tries_159 (v := 1) (by decide) ?_
              exact g_iret F hr ((by unfold trR; rw [if_neg c1, if_neg (fun q => q.elim (fun z => z c2) (fun z => z c5))])) hlocks (fun _ h => by rw [show (mw ad cs (trS σ j v) w0) = (mw ad cs (clF (up2 (up2 (up2 (up2 σ 25 j ((σ 25 j) + 1)) 30 (ix (σ 13 j)) ((σ 30 (ix (σ 13 j))) + 1)) 24 j ((σ 24 j) + 1)) 26 j (σ 0 0)) j 3) w0) from (by unfold trS; rw [if_neg c1, if_neg (fun q => q.elim (fun z => z c2) (fun z => z c5)), if_neg (by simpa [ptM, up2, tr0, clF_ne] using c11)]; rfl)]; exact h) dX6_tries_160
            ·
              refine g_aload_n F 2 dX6_tries_153 rfl rfl ?_
              refine g_iload_n F 3 dX6_tries_154 rfl rfl ?_
              refine g_iconst F dX6_tries_155 (v := 1) (by decide) ?_
              refine g_callVv F (C := RX6) (k := 0) (i := 0) (ci := 6) (T := TX6) (N := 33) (rest := []) [.int v, .int 1] (mc_ends l D A cs ad dm w0 (clF (up2 (up2 (up2 (up2 σ 25 j ((σ 25 j) + 1)) 30 (ix (σ 13 j)) ((σ 30 (ix (σ 13 j))) + 1)) 24 j ((σ 24 j) + 1)) 26 j (σ 0 0)) j 3) v 1 j hM hvj (by omega) (by simpa [enOK, rcA, rcN, up2, tr0, clF_ne] using hok)) (cwV 2 F.1.2.2.2.2 gX6_tries_X6_ends rfl rfl rfl (by decide +kernel) ⟨Nat.le_of_ble_eq_true rfl, Nat.le_of_ble_eq_true rfl⟩) rfl hM.1 rfl rfl rfl rfl (Nat.le_of_ble_eq_true rfl) dX6_tries_156 ⟨Nat.le_of_ble_eq_true rfl, Nat.le_of_ble_eq_true rfl⟩ ?_
              refine g_iconst F dX6_tries_159 (v := 1) (by decide) ?_
              exact g_iret F hr ((by unfold trR; rw [if_neg c1, if_neg (fun q => q.elim (fun z => z c2) (fun z => z c5))])) hlocks (fun _ h => by rw [show (mw ad cs (trS σ j v) w0) = (mw ad cs (enS (clF (up2 (up2 (up2 (up2 σ 25 j ((σ 25 j) + 1)) 30 (ix (σ 13 j)) ((σ 30 (ix (σ 13 j))) + 1)) 24 j ((σ 24 j) + 1)) 26 j (σ 0 0)) j 3) j v 1) w0) from (by unfold trS; rw [if_neg c1, if_neg (fun q => q.elim (fun z => z c2) (fun z => z c5)), if_pos (by simpa [ptM, up2, tr0, clF_ne] using c11)]; rfl)]; exact h) dX6_tries_160
          ·
            exact absurd ((nI_leE (show 3 = nI 3 from rfl) (show (nI 3) = nI 3 from rfl) (show 3 < 2 ^ 31 by omega) (show 3 < 2 ^ 31 by omega)).mpr (by omega)) c10
        ·
          replace ih7 : GG p l e _ s m _ below meth c D A ad dm _ _ _ _ (mw ad cs (clF (up2 (up2 (up2 (up2 σ 25 j ((σ 25 j) + 1)) 30 (ix (σ 13 j)) ((σ 30 (ix (σ 13 j))) + 1)) 24 j ((σ 24 j) + 1)) 26 j (σ 0 0)) j (k6 + 1)) w0) 117 [(3, .int (nI (k6 + 1))), (2, .int (σ 13 j)), (0, .ref (ad 0 0)), (1, .int v)] [] := ih7
          show GG p l e _ s m _ below meth c D A ad dm _ _ _ _ (mw ad cs (clF (up2 (up2 (up2 (up2 σ 25 j ((σ 25 j) + 1)) 30 (ix (σ 13 j)) ((σ 30 (ix (σ 13 j))) + 1)) 24 j ((σ 24 j) + 1)) 26 j (σ 0 0)) j k6) w0) 117 [(3, .int (nI k6)), (2, .int (σ 13 j)), (0, .ref (ad 0 0)), (1, .int v)] []
          refine g_iload_n F 0 dX6_tries_117 rfl rfl ?_
          refine g_iconst F dX6_tries_118 (v := 3) (by decide) ?_
          refine g_icmp_ge F (tgt := 139) dX6_tries_119 (by decide) (fun c12 => ?_) (fun c12 => ?_)
          ·
            exact absurd ((nI_leE (show 3 = nI 3 from rfl) (show (nI k6) = nI k6 from rfl) (show 3 < 2 ^ 31 by omega) (show k6 < 2 ^ 31 by omega)).mp c12) (by omega)
          ·
            refine g_aload_n F 2 dX6_tries_122 rfl rfl ?_
            refine mg_get F hM hin 27 (by decide) rfl (by decide +kernel) rfl dX6_tries_123 ?_
            refine g_iconst F dX6_tries_126 (v := 3) (by decide) ?_
            refine g_iload_n F 3 dX6_tries_127 rfl rfl ?_
            refine g_imul F dX6_tries_128 ?_
            refine g_iload_n F 0 dX6_tries_129 rfl rfl ?_
            refine g_iadd F dX6_tries_130 ?_
            refine g_iconst F dX6_tries_131 (v := 0) (by decide) ?_
            refine mg_ast F hM 27 rfl (nI_addE (show (3 * v) = nI (3 * j) from (nI_mulE (show 3 = nI 3 from rfl) (show v = nI j from hvj))) (show (nI k6) = nI k6 from rfl)) (show ((3 * j) + k6) < 120 by omega) dX6_tries_132 ?_
            refine g_iinc F (v := (nI (k6 + 1))) (lv1 := [(3, .int (nI (k6 + 1))), (2, .int (σ 13 j)), (0, .ref (ad 0 0)), (1, .int v)]) 0 dX6_tries_133 rfl (nI_1 k6) (by decide) rfl ?_
            refine g_goto F (tgt := 117) dX6_tries_136 (by decide) ?_
            exact g_lv [0, 1, 2, 3] rfl (g_w (w1 := (mw ad cs (clF (up2 (up2 (up2 (up2 σ 25 j ((σ 25 j) + 1)) 30 (ix (σ 13 j)) ((σ 30 (ix (σ 13 j))) + 1)) 24 j ((σ 24 j) + 1)) 26 j (σ 0 0)) j (k6 + 1)) w0)) rfl ih7)
      ·
        refine g_aload_n F 1 dX6_tries_59 rfl rfl ?_
        refine g_iload_n F 2 dX6_tries_60 rfl rfl ?_
        refine g_aload_n F 1 dX6_tries_61 rfl rfl ?_
        refine mg_get F hM hin 28 (by decide) rfl (by decide +kernel) rfl dX6_tries_62 ?_
        refine g_iload_n F 0 dX6_tries_65 rfl rfl ?_
        refine mg_ald F hM 28 rfl hro.1 hro.2 (v := (σ 28 (ix (σ 13 j)))) ((up2_ne _ _ (fun h => absurd h.1 (by decide))).trans rfl) dX6_tries_66 ?_
        refine g_cut (w2 := (mw ad cs (up2 σ 25 j ((σ 25 j) + 1)) w0)) (pc2 := 80) (lv2 := [(2, .int (σ 13 j)), (0, .ref (ad 0 0)), (1, .int v)]) (st2 := [.int (if (σ 28 (ix (σ 13 j))) = 0 then 0 else (σ 28 (ix (σ 13 j))) : Int32), .int v, .ref (ad 0 0)]) ?_ (fun hJ13 => ?_)
        ·
          refine g_callVv F (C := RX6) (k := 0) (i := 0) (ci := 6) (T := TX6) (N := 33) (rest := []) [.int v, .int (if (σ 28 (ix (σ 13 j))) = 0 then 0 else (σ 28 (ix (σ 13 j))) : Int32)] (mc_failed l D A cs ad dm w0 (up2 σ 25 j ((σ 25 j) + 1)) v (if (σ 28 (ix (σ 13 j))) = 0 then 0 else (σ 28 (ix (σ 13 j))) : Int32) j (ix (trC σ j)) hM hvj (by omega) (trC_ok hmo c1).1 (trC_ok hmo c1).2 (by simpa [roOK, up2] using hro)) (cwV 2 F.1.2.2.2.2 gX6_tries_X6_failed rfl rfl rfl (by decide +kernel) ⟨Nat.le_of_ble_eq_true rfl, Nat.le_of_ble_eq_true rfl⟩) rfl hM.1 rfl rfl rfl rfl (Nat.le_of_ble_eq_true rfl) dX6_tries_80 ⟨Nat.le_of_ble_eq_true rfl, Nat.le_of_ble_eq_true rfl⟩ ?_
          refine g_iconst F dX6_tries_83 (v := 0) (by decide) ?_
          exact g_iret F hr ((by unfold trR; rw [if_neg c1, if_pos (Or.inr c5)])) hlocks (fun _ h => by rw [show (mw ad cs (trS σ j v) w0) = (mw ad cs (faS (up2 σ 25 j ((σ 25 j) + 1)) j (if (σ 28 (ix (σ 13 j))) = 0 then 0 else (σ 28 (ix (σ 13 j))) : Int32) (ix (trC σ j))) w0) from (by unfold trS; rw [if_neg c1, if_pos (Or.inr c5)]; rfl)]; exact h) dX6_tries_84
        ·
          refine g_if_ne F (tgt := 74) dX6_tries_67 (by decide) (fun c14 => ?_) (fun c14 => ?_)
          ·
            refine g_aload_n F 1 dX6_tries_74 rfl rfl ?_
            refine mg_get F hM hin 28 (by decide) rfl (by decide +kernel) rfl dX6_tries_75 ?_
            refine g_iload_n F 0 dX6_tries_78 rfl rfl ?_
            refine mg_ald F hM 28 rfl hro.1 hro.2 (v := (σ 28 (ix (σ 13 j)))) ((up2_ne _ _ (fun h => absurd h.1 (by decide))).trans rfl) dX6_tries_79 ?_
            exact g_top (by rw [if_neg c14]) hJ13
          ·
            refine g_iconst F dX6_tries_70 (v := 0) (by decide) ?_
            refine g_goto F (tgt := 80) dX6_tries_71 (by decide) ?_
            exact g_top (by rw [if_pos c14]) hJ13
  ·
    refine g_aload_n F 1 dX6_tries_27 rfl rfl ?_
    refine g_iload_n F 2 dX6_tries_28 rfl rfl ?_
    refine g_iconst F dX6_tries_29 (v := 4) (by decide) ?_
    refine g_callVv F (C := RX6) (k := 0) (i := 0) (ci := 6) (T := TX6) (N := 33) (rest := []) [.int v, .int 4] (mc_ends l D A cs ad dm w0 (up2 σ 25 j ((σ 25 j) + 1)) v 4 j hM hvj (by omega) (by simpa [enOK, rcA, rcN, up2, tr0, clF_ne] using hok)) (cwV 2 F.1.2.2.2.2 gX6_tries_X6_ends rfl rfl rfl (by decide +kernel) ⟨Nat.le_of_ble_eq_true rfl, Nat.le_of_ble_eq_true rfl⟩) rfl hM.1 rfl rfl rfl rfl (Nat.le_of_ble_eq_true rfl) dX6_tries_30 ⟨Nat.le_of_ble_eq_true rfl, Nat.le_of_ble_eq_true rfl⟩ ?_
    refine g_iconst F dX6_tries_33 (v := 0) (by decide) ?_
    exact g_iret F hr ((by unfold trR; rw [if_pos c1])) hlocks (fun _ h => by rw [show (mw ad cs (trS σ j v) w0) = (mw ad cs (enS (up2 σ 25 j ((σ 25 j) + 1)) j v 4) w0) from (by unfold trS; rw [if_pos c1]; rfl)]; exact h) dX6_tries_34
def tkF (σ : SG) (a : Nat) : Nat → SG
  | 0 => σ
  | i + 1 => up2 (tkF σ a i) 10 ((40 * a) + i) ((tkF σ a i) 10 (((40 * a) + i) + 1))
theorem tkF_ne (σ : SG) (a : Nat) {f : Nat} (hf : f ≠ 10) (i : Nat) : ∀ k, tkF σ a k f i = σ f i
  | 0 => rfl
  | k + 1 => by unfold tkF; rw [up2_ne _ _ (fun h => hf h.1)]; exact tkF_ne σ a hf i k
