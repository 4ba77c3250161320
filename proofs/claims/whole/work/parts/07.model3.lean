theorem cd_okn {P Q : Prop} [Decidable P] [Decidable Q] : (if P then (if Q then (2 : Int32) else 0) else 1) ≤ 0 ↔ P ∧ ¬ Q := by
  by_cases hp : P <;> by_cases hq : Q <;> simp [hp, hq] <;> decide
theorem ix_msg {σ : SG} {v : Int32} {n : Nat} (hn : (σ 11 0) = nI n) (hn40 : n ≤ 40) (h : inR v 0 ((σ 11 0) - 1)) : v = nI (ix v) ∧ ix v < n := by
  rw [hn] at h
  obtain ⟨h0, h1⟩ := h
  rcases Nat.eq_zero_or_pos n with q | q
  · subst q
    exact absurd (by
      have : (v : Int32) < 0 ∨ 0 ≤ v := by rcases Int32.lt_or_le v 0 with a | a <;> simp [a]
      rcases this with a | a
      · exact absurd a h0
      · exact Int32.lt_of_lt_of_le (show nI 0 - 1 < 0 by decide) a) h1
  · obtain ⟨k, hk⟩ : ∃ k, n = k + 1 := ⟨n - 1, by omega⟩
    subst hk
    rw [nI_pred] at h1
    obtain ⟨j, hj, rfl⟩ := nI_of h0
    rw [nI_ltI (by omega) (by omega)] at h1
    rw [ix_nI (by omega)]
    exact ⟨rfl, by omega⟩
def txOK (σ : SG) (j : Nat) : Prop := (σ 17 j) = nI (ix (σ 17 j)) ∧ ix (σ 17 j) ≤ 500 ∧ (σ 18 j) = nI (ix (σ 18 j)) ∧ ix (σ 18 j) ≤ 50 ∧ (σ 19 j) = bi ((σ 19 j) = 1)
def ptM (σ : SG) (j : Nat) : Nat := pts ((σ 19 j) = 1) (ix (σ 18 j)) (ix (σ 17 j))
def loM (σ : SG) (j q : Nat) : Nat := lof ((σ 19 j) = 1) (ix (σ 18 j)) (ix (σ 17 j)) q
theorem ptM_le {σ : SG} {j : Nat} (h : txOK σ j) : ptM σ j ≤ 8 := (pts_spec _ _ _ h.2.1).1
theorem mc_partsOf1 (l : Launch) (D : va_G) (A : Nat → Prop) (cs : Nat → ClassId) (ad : Nat → Nat → Nat) (dm : Nat → Nat → Prop) (w : CF) (wd : Prop) [Decidable wd] (ev al : Nat) (hal : al ≤ 500) (hev : ev ≤ 50) (vl ve vw : Int32) (h1 : vl = nI al) (h2 : ve = nI ev) (h3 : vw = bi wd) : Met l yX6_partsOf wsX6_partsOf ({ frames := 1, cells := 0, slots := 0, locals := 30 }) (va_Pc [.int vl, .int ve, .int vw] (PW D A (tysG cs) ad dm w)) (va_Qi (fun r (_ : Unit) => r = nI (pts wd ev al)) (fun _ t => PW D A (tysG cs) ad dm w t) A) 0 0 A := by
  subst h1; subst h2; subst h3; exact mc_partsOf l D A cs ad dm w wd ev al hal hev
theorem mc_lettersOf1 (l : Launch) (D : va_G) (A : Nat → Prop) (cs : Nat → ClassId) (ad : Nat → Nat → Nat) (dm : Nat → Nat → Prop) (w : CF) (wd : Prop) [Decidable wd] (ev al q : Nat) (hal : al ≤ 500) (hev : ev ≤ 50) (hq : q ≤ 40) (vl ve vw vq : Int32) (h1 : vl = nI al) (h2 : ve = nI ev) (h3 : vw = bi wd) (h4 : vq = nI q) : Met l yX6_lettersOf wsX6_lettersOf ({ frames := 0, cells := 0, slots := 0, locals := 0 }) (va_Pc [.int vl, .int ve, .int vw, .int vq] (PW D A (tysG cs) ad dm w)) (va_Qi (fun r (_ : Unit) => r = nI (lof wd ev al q)) (fun _ t => PW D A (tysG cs) ad dm w t) A) 0 0 A := by
  subst h1; subst h2; subst h3; subst h4; exact mc_lettersOf l D A cs ad dm w wd ev al q hal hev hq
set_option maxHeartbeats 4000000 in
set_option maxRecDepth 100000 in
theorem mc_draft (l : Launch) (D : va_G) (A : Nat → Prop) (cs : Nat → ClassId) (ad : Nat → Nat → Nat) (dm : Nat → Nat → Prop) (w0 : CF) (σ : SG) (its many each : Int32) (wide : Prop) [Decidable wide] (hM : MD dm)  : Met l yX6_draft wsX6_draft ({ frames := 2, cells := 0, slots := 0, locals := 53 }) (va_Pc [.ref (ad 0 0), .int its, .int many, .int each, .int (bi (wide))] (PW D A (tysG cs) ad dm (mw ad cs σ w0))) (va_Qi (fun r (_ : Unit) => r = (if ((accP its) ∧ (((inR many 1 500) ∧ (inR each 0 50)))) then (nI (pts (wide) (ix each) (ix many))) else 0)) (fun _ t => PW D A (tysG cs) ad dm (mw ad cs (if ((accP its) ∧ (((inR many 1 500) ∧ (inR each 0 50)))) then (up2 (up2 (up2 (up2 σ 32 0 (if accP its then (if ((inR many 1 500) ∧ (inR each 0 50)) then 0 else 2) else 1 : Int32)) 1 (ix its) many) 2 (ix its) each) 3 (ix its) (bi (wide))) else (up2 σ 32 0 (if accP its then (if ((inR many 1 500) ∧ (inR each 0 50)) then 0 else 2) else 1 : Int32))) w0) t) A) 0 0 A := by
  refine g_start (own := RX6) [.ref (ad 0 0), .int its, .int many, .int each, .int (bi (wide))] (cc := cX6_draft) (maxL := 6) (ret := (some .int)) (lv0 := [(0, .ref (ad 0 0)), (1, .int its), (2, .int many), (3, .int each), (4, .int (bi (wide)))]) (by decide) rfl rfl (Nat.le_of_ble_eq_true rfl) rfl ?_
  intro p e s m below meth c F hr hlocks hname
  have hin : ∀ w ∈ wsX60, w ∈ wsX6_draft := by decide +kernel
  refine g_iload_n F 2 dX6_draft_0 rfl rfl ?_
  refine g_iconst F dX6_draft_1 (v := 1) (by decide) ?_
  refine g_sipush F dX6_draft_2 (v := 500) (by decide) ?_
  refine g_callSi F (rest := []) [.int many, .int 1, .int 500] (mc_isIn l D A cs ad dm (mw ad cs σ w0) many 1 500) (va_cwS 3 F.1.2.2.2.2 gX6_draft_X6_isIn rfl rfl rfl (by decide +kernel) ⟨Nat.le_of_ble_eq_true rfl, Nat.le_of_ble_eq_true rfl⟩) rfl rfl (Nat.le_of_ble_eq_true rfl) dX6_draft_5 ⟨Nat.le_of_ble_eq_true rfl, Nat.le_of_ble_eq_true rfl⟩ ?_
  refine g_cut (w2 := (mw ad cs σ w0)) (pc2 := 26) (lv2 := [(0, .ref (ad 0 0)), (1, .int its), (2, .int many), (3, .int each), (4, .int (bi (wide)))]) (st2 := [.int (bi (((inR many 1 500) ∧ (inR each 0 50))))]) ?_ (fun hJ1 => ?_)
  ·
    refine g_istore F (lv1 := [(5, .int (bi (((inR many 1 500) ∧ (inR each 0 50))))), (0, .ref (ad 0 0)), (1, .int its), (2, .int many), (3, .int each), (4, .int (bi (wide)))]) dX6_draft_26 (by decide) rfl ?_
    refine g_aload_n F 1 dX6_draft_28 rfl rfl ?_
    refine g_iload_n F 2 dX6_draft_29 rfl rfl ?_
    refine g_callSi F (rest := [.ref (ad 0 0)]) [.int its] (mc_isAccount l D A cs ad dm (mw ad cs σ w0) its) (va_cwS 1 F.1.2.2.2.2 gX6_draft_X6_isAccount rfl rfl rfl (by decide +kernel) ⟨Nat.le_of_ble_eq_true rfl, Nat.le_of_ble_eq_true rfl⟩) rfl rfl (Nat.le_of_ble_eq_true rfl) dX6_draft_30 ⟨Nat.le_of_ble_eq_true rfl, Nat.le_of_ble_eq_true rfl⟩ ?_
    refine g_cut (w2 := (mw ad cs σ w0)) (pc2 := 50) (lv2 := [(5, .int (bi (((inR many 1 500) ∧ (inR each 0 50))))), (0, .ref (ad 0 0)), (1, .int its), (2, .int many), (3, .int each), (4, .int (bi (wide)))]) (st2 := [.int (if accP its then (if ((inR many 1 500) ∧ (inR each 0 50)) then 0 else 2) else 1 : Int32), .ref (ad 0 0)]) ?_ (fun hJ2 => ?_)
    ·
      refine g_callVi F (C := RX6) (k := 0) (i := 0) (ci := 6) (T := TX6) (N := 33) (rest := []) [.int (if accP its then (if ((inR many 1 500) ∧ (inR each 0 50)) then 0 else 2) else 1 : Int32)] (mc_fails l D A cs ad dm w0 σ (if accP its then (if ((inR many 1 500) ∧ (inR each 0 50)) then 0 else 2) else 1 : Int32) hM) (cwV 1 F.1.2.2.2.2 gX6_draft_X6_fails rfl rfl rfl (by decide +kernel) ⟨Nat.le_of_ble_eq_true rfl, Nat.le_of_ble_eq_true rfl⟩) rfl hM.1 rfl rfl rfl rfl (Nat.le_of_ble_eq_true rfl) dX6_draft_50 ⟨Nat.le_of_ble_eq_true rfl, Nat.le_of_ble_eq_true rfl⟩ ?_
      refine g_ifb_eq F (tgt := 58) dX6_draft_53 (by decide) (fun c3 => ?_) (fun c3 => ?_)
      ·
        replace c3 := Classical.not_not.mp c3
        have hok := cd_ok.mp c3
        obtain ⟨hia, hia4⟩ := ix_acc hok.1
        obtain ⟨hmn, hmn5⟩ := ix_in (n := 500) rfl (show inR many 0 500 from ⟨fun q => hok.2.1.1 (Int32.lt_trans q (by decide)), hok.2.1.2⟩)
        obtain ⟨hea, hea5⟩ := ix_in (n := 50) rfl hok.2.2
        refine g_aload_n F 1 dX6_draft_58 rfl rfl ?_
        refine mg_get F hM hin 1 (by decide) rfl (by decide +kernel) rfl dX6_draft_59 ?_
        refine g_iload_n F 2 dX6_draft_62 rfl rfl ?_
        refine g_iload_n F 3 dX6_draft_63 rfl rfl ?_
        refine mg_ast F hM 1 rfl hia (show (ix its) < 4 by omega) dX6_draft_64 ?_
        refine g_aload_n F 1 dX6_draft_65 rfl rfl ?_
        refine mg_get F hM hin 2 (by decide) rfl (by decide +kernel) rfl dX6_draft_66 ?_
        refine g_iload_n F 2 dX6_draft_69 rfl rfl ?_
        refine g_iload_n F 4 dX6_draft_70 rfl rfl ?_
        refine mg_ast F hM 2 rfl hia (show (ix its) < 4 by omega) dX6_draft_71 ?_
        refine g_aload_n F 1 dX6_draft_72 rfl rfl ?_
        refine mg_get F hM hin 3 (by decide) rfl (by decide +kernel) rfl dX6_draft_73 ?_
        refine g_iload_n F 2 dX6_draft_76 rfl rfl ?_
        refine g_iload F 5 dX6_draft_77 rfl ?_
        refine mg_zst F hM 3 rfl hia (show (ix its) < 4 by omega) (bi_vn _) dX6_draft_79 ?_
        refine g_iload_n F 3 dX6_draft_80 rfl rfl ?_
        refine g_iload_n F 4 dX6_draft_81 rfl rfl ?_
        refine g_iload F 5 dX6_draft_82 rfl ?_
        refine g_callSi F (rest := []) [.int many, .int each, .int (bi (wide))] (mc_partsOf1 l D A cs ad dm (mw ad cs (up2 (up2 (up2 (up2 σ 32 0 (if accP its then (if ((inR many 1 500) ∧ (inR each 0 50)) then 0 else 2) else 1 : Int32)) 1 (ix its) many) 2 (ix its) each) 3 (ix its) (bi (wide))) w0) (wide) (ix each) (ix many) (by omega) (by omega) many each (bi (wide)) hmn hea rfl) (va_cwS 3 F.1.2.2.2.2 gX6_draft_X6_partsOf rfl rfl rfl (by decide +kernel) ⟨Nat.le_of_ble_eq_true rfl, Nat.le_of_ble_eq_true rfl⟩) rfl rfl (Nat.le_of_ble_eq_true rfl) dX6_draft_84 ⟨Nat.le_of_ble_eq_true rfl, Nat.le_of_ble_eq_true rfl⟩ ?_
        exact g_iret F hr ((if_pos hok).symm) hlocks (fun _ h => by rw [show (mw ad cs (if ((accP its) ∧ (((inR many 1 500) ∧ (inR each 0 50)))) then (up2 (up2 (up2 (up2 σ 32 0 (if accP its then (if ((inR many 1 500) ∧ (inR each 0 50)) then 0 else 2) else 1 : Int32)) 1 (ix its) many) 2 (ix its) each) 3 (ix its) (bi (wide))) else (up2 σ 32 0 (if accP its then (if ((inR many 1 500) ∧ (inR each 0 50)) then 0 else 2) else 1 : Int32))) w0) = (mw ad cs (up2 (up2 (up2 (up2 σ 32 0 (if accP its then (if ((inR many 1 500) ∧ (inR each 0 50)) then 0 else 2) else 1 : Int32)) 1 (ix its) many) 2 (ix its) each) 3 (ix its) (bi (wide))) w0) from (by rw [if_pos hok])]; exact h) dX6_draft_87
      ·
        refine g_iconst F dX6_draft_56 (v := 0) (by decide) ?_
        exact g_iret F hr ((if_neg (fun q => c3 (cd_ok.mpr q))).symm) hlocks (fun _ h => by rw [show (mw ad cs (if ((accP its) ∧ (((inR many 1 500) ∧ (inR each 0 50)))) then (up2 (up2 (up2 (up2 σ 32 0 (if accP its then (if ((inR many 1 500) ∧ (inR each 0 50)) then 0 else 2) else 1 : Int32)) 1 (ix its) many) 2 (ix its) each) 3 (ix its) (bi (wide))) else (up2 σ 32 0 (if accP its then (if ((inR many 1 500) ∧ (inR each 0 50)) then 0 else 2) else 1 : Int32))) w0) = (mw ad cs (up2 σ 32 0 (if accP its then (if ((inR many 1 500) ∧ (inR each 0 50)) then 0 else 2) else 1 : Int32)) w0) from (by rw [if_neg (fun q => c3 (cd_ok.mpr q))])]; exact h) dX6_draft_57
    ·
      refine g_ifb_ne F (tgt := 40) dX6_draft_33 (by decide) (fun c4 => ?_) (fun c4 => ?_)
      ·
        refine g_iload F 0 dX6_draft_40 rfl ?_
        refine g_ifb_eq F (tgt := 49) dX6_draft_42 (by decide) (fun c5 => ?_) (fun c5 => ?_)
        ·
          refine g_iconst F dX6_draft_49 (v := 2) (by decide) ?_
          exact g_top (by rw [if_pos c4, if_neg c5]) hJ2
        ·
          refine g_iconst F dX6_draft_45 (v := 0) (by decide) ?_
          refine g_goto F (tgt := 50) dX6_draft_46 (by decide) ?_
          exact g_top (by rw [if_pos c4, if_pos c5]) hJ2
      ·
        refine g_iconst F dX6_draft_36 (v := 1) (by decide) ?_
        refine g_goto F (tgt := 50) dX6_draft_37 (by decide) ?_
        exact g_top (by rw [if_neg c4]) hJ2
  ·
    refine g_ifb_eq F (tgt := 25) dX6_draft_8 (by decide) (fun c6 => ?_) (fun c6 => ?_)
    ·
      refine g_iconst F dX6_draft_25 (v := 0) (by decide) ?_
      exact g_top (bi_f (fun q => c6 q.1)) hJ1
    ·
      refine g_iload_n F 3 dX6_draft_11 rfl rfl ?_
      refine g_iconst F dX6_draft_12 (v := 0) (by decide) ?_
      refine g_bipush F dX6_draft_13 (v := 50) (by decide) ?_
      refine g_callSi F (rest := []) [.int each, .int 0, .int 50] (mc_isIn l D A cs ad dm (mw ad cs σ w0) each 0 50) (va_cwS 3 F.1.2.2.2.2 gX6_draft_X6_isIn rfl rfl rfl (by decide +kernel) ⟨Nat.le_of_ble_eq_true rfl, Nat.le_of_ble_eq_true rfl⟩) rfl rfl (Nat.le_of_ble_eq_true rfl) dX6_draft_15 ⟨Nat.le_of_ble_eq_true rfl, Nat.le_of_ble_eq_true rfl⟩ ?_
      refine g_ifb_eq F (tgt := 25) dX6_draft_18 (by decide) (fun c7 => ?_) (fun c7 => ?_)
      ·
        refine g_iconst F dX6_draft_25 (v := 0) (by decide) ?_
        exact g_top (bi_f (fun q => c7 q.2)) hJ1
      ·
        refine g_iconst F dX6_draft_21 (v := 1) (by decide) ?_
        refine g_goto F (tgt := 26) dX6_draft_22 (by decide) ?_
        exact g_top (bi_t ⟨c6, c7⟩) hJ1
set_option maxHeartbeats 4000000 in
set_option maxRecDepth 100000 in
theorem mc_setOptions (l : Launch) (D : va_G) (A : Nat → Prop) (cs : Nat → ClassId) (ad : Nat → Nat → Nat) (dm : Nat → Nat → Prop) (w0 : CF) (σ : SG) (its which called : Int32) (wanted : Prop) [Decidable wanted] (hM : MD dm)  : Met l yX6_setOptions wsX6_setOptions ({ frames := 2, cells := 0, slots := 0, locals := 42 }) (va_Pc [.ref (ad 0 0), .int its, .int which, .int called, .int (bi (wanted))] (PW D A (tysG cs) ad dm (mw ad cs σ w0))) (va_Qv (fun (_ : Unit) => True) (fun _ t => PW D A (tysG cs) ad dm (mw ad cs (if ((accP its) ∧ (((inR which 0 7) ∧ (inR called (-1) 99)))) then (up2 (up2 (up2 (up2 σ 32 0 (if accP its then (if ((inR which 0 7) ∧ (inR called (-1) 99)) then 0 else 2) else 1 : Int32)) 4 (ix its) which) 5 (ix its) called) 6 (ix its) (bi (wanted))) else (up2 σ 32 0 (if accP its then (if ((inR which 0 7) ∧ (inR called (-1) 99)) then 0 else 2) else 1 : Int32))) w0) t) A) 0 0 A := by
  refine g_start (own := RX6) [.ref (ad 0 0), .int its, .int which, .int called, .int (bi (wanted))] (cc := cX6_setOptions) (maxL := 6) (ret := none) (lv0 := [(0, .ref (ad 0 0)), (1, .int its), (2, .int which), (3, .int called), (4, .int (bi (wanted)))]) (by decide) rfl rfl (Nat.le_of_ble_eq_true rfl) rfl ?_
  intro p e s m below meth c F hr hlocks hname
  have hin : ∀ w ∈ wsX60, w ∈ wsX6_setOptions := by decide +kernel
  refine g_iload_n F 2 dX6_setOptions_0 rfl rfl ?_
  refine g_iconst F dX6_setOptions_1 (v := 0) (by decide) ?_
  refine g_bipush F dX6_setOptions_2 (v := 7) (by decide) ?_
  refine g_callSi F (rest := []) [.int which, .int 0, .int 7] (mc_isIn l D A cs ad dm (mw ad cs σ w0) which 0 7) (va_cwS 3 F.1.2.2.2.2 gX6_setOptions_X6_isIn rfl rfl rfl (by decide +kernel) ⟨Nat.le_of_ble_eq_true rfl, Nat.le_of_ble_eq_true rfl⟩) rfl rfl (Nat.le_of_ble_eq_true rfl) dX6_setOptions_4 ⟨Nat.le_of_ble_eq_true rfl, Nat.le_of_ble_eq_true rfl⟩ ?_
  refine g_cut (w2 := (mw ad cs σ w0)) (pc2 := 25) (lv2 := [(0, .ref (ad 0 0)), (1, .int its), (2, .int which), (3, .int called), (4, .int (bi (wanted)))]) (st2 := [.int (bi (((inR which 0 7) ∧ (inR called (-1) 99))))]) ?_ (fun hJ1 => ?_)
  ·
    refine g_istore F (lv1 := [(5, .int (bi (((inR which 0 7) ∧ (inR called (-1) 99))))), (0, .ref (ad 0 0)), (1, .int its), (2, .int which), (3, .int called), (4, .int (bi (wanted)))]) dX6_setOptions_25 (by decide) rfl ?_
    refine g_aload_n F 1 dX6_setOptions_27 rfl rfl ?_
    refine g_iload_n F 2 dX6_setOptions_28 rfl rfl ?_
    refine g_callSi F (rest := [.ref (ad 0 0)]) [.int its] (mc_isAccount l D A cs ad dm (mw ad cs σ w0) its) (va_cwS 1 F.1.2.2.2.2 gX6_setOptions_X6_isAccount rfl rfl rfl (by decide +kernel) ⟨Nat.le_of_ble_eq_true rfl, Nat.le_of_ble_eq_true rfl⟩) rfl rfl (Nat.le_of_ble_eq_true rfl) dX6_setOptions_29 ⟨Nat.le_of_ble_eq_true rfl, Nat.le_of_ble_eq_true rfl⟩ ?_
    refine g_cut (w2 := (mw ad cs σ w0)) (pc2 := 49) (lv2 := [(5, .int (bi (((inR which 0 7) ∧ (inR called (-1) 99))))), (0, .ref (ad 0 0)), (1, .int its), (2, .int which), (3, .int called), (4, .int (bi (wanted)))]) (st2 := [.int (if accP its then (if ((inR which 0 7) ∧ (inR called (-1) 99)) then 0 else 2) else 1 : Int32), .ref (ad 0 0)]) ?_ (fun hJ2 => ?_)
    ·
      refine g_callVi F (C := RX6) (k := 0) (i := 0) (ci := 6) (T := TX6) (N := 33) (rest := []) [.int (if accP its then (if ((inR which 0 7) ∧ (inR called (-1) 99)) then 0 else 2) else 1 : Int32)] (mc_fails l D A cs ad dm w0 σ (if accP its then (if ((inR which 0 7) ∧ (inR called (-1) 99)) then 0 else 2) else 1 : Int32) hM) (cwV 1 F.1.2.2.2.2 gX6_setOptions_X6_fails rfl rfl rfl (by decide +kernel) ⟨Nat.le_of_ble_eq_true rfl, Nat.le_of_ble_eq_true rfl⟩) rfl hM.1 rfl rfl rfl rfl (Nat.le_of_ble_eq_true rfl) dX6_setOptions_49 ⟨Nat.le_of_ble_eq_true rfl, Nat.le_of_ble_eq_true rfl⟩ ?_
      refine g_ifb_ne F (tgt := 77) dX6_setOptions_52 (by decide) (fun c3 => ?_) (fun c3 => ?_)
      ·
        exact g_vret F hr hlocks (fun _ h => by rw [show (mw ad cs (if ((accP its) ∧ (((inR which 0 7) ∧ (inR called (-1) 99)))) then (up2 (up2 (up2 (up2 σ 32 0 (if accP its then (if ((inR which 0 7) ∧ (inR called (-1) 99)) then 0 else 2) else 1 : Int32)) 4 (ix its) which) 5 (ix its) called) 6 (ix its) (bi (wanted))) else (up2 σ 32 0 (if accP its then (if ((inR which 0 7) ∧ (inR called (-1) 99)) then 0 else 2) else 1 : Int32))) w0) = (mw ad cs (up2 σ 32 0 (if accP its then (if ((inR which 0 7) ∧ (inR called (-1) 99)) then 0 else 2) else 1 : Int32)) w0) from (by rw [if_neg (fun q => c3 (cd_ok.mpr q))])]; exact h) dX6_setOptions_77
      ·
        replace c3 := Classical.not_not.mp c3
        have hok := cd_ok.mp c3
        obtain ⟨hia, hia4⟩ := ix_acc hok.1
        refine g_aload_n F 1 dX6_setOptions_55 rfl rfl ?_
        refine mg_get F hM hin 4 (by decide) rfl (by decide +kernel) rfl dX6_setOptions_56 ?_
        refine g_iload_n F 2 dX6_setOptions_59 rfl rfl ?_
        refine g_iload_n F 3 dX6_setOptions_60 rfl rfl ?_
        refine mg_ast F hM 4 rfl hia (show (ix its) < 4 by omega) dX6_setOptions_61 ?_
        refine g_aload_n F 1 dX6_setOptions_62 rfl rfl ?_
        refine mg_get F hM hin 5 (by decide) rfl (by decide +kernel) rfl dX6_setOptions_63 ?_
        refine g_iload_n F 2 dX6_setOptions_66 rfl rfl ?_
        refine g_iload_n F 4 dX6_setOptions_67 rfl rfl ?_
        refine mg_ast F hM 5 rfl hia (show (ix its) < 4 by omega) dX6_setOptions_68 ?_
        refine g_aload_n F 1 dX6_setOptions_69 rfl rfl ?_
        refine mg_get F hM hin 6 (by decide) rfl (by decide +kernel) rfl dX6_setOptions_70 ?_
        refine g_iload_n F 2 dX6_setOptions_73 rfl rfl ?_
        refine g_iload F 5 dX6_setOptions_74 rfl ?_
        refine mg_zst F hM 6 rfl hia (show (ix its) < 4 by omega) (bi_vn _) dX6_setOptions_76 ?_
        exact g_vret F hr hlocks (fun _ h => by rw [show (mw ad cs (if ((accP its) ∧ (((inR which 0 7) ∧ (inR called (-1) 99)))) then (up2 (up2 (up2 (up2 σ 32 0 (if accP its then (if ((inR which 0 7) ∧ (inR called (-1) 99)) then 0 else 2) else 1 : Int32)) 4 (ix its) which) 5 (ix its) called) 6 (ix its) (bi (wanted))) else (up2 σ 32 0 (if accP its then (if ((inR which 0 7) ∧ (inR called (-1) 99)) then 0 else 2) else 1 : Int32))) w0) = (mw ad cs (up2 (up2 (up2 (up2 σ 32 0 (if accP its then (if ((inR which 0 7) ∧ (inR called (-1) 99)) then 0 else 2) else 1 : Int32)) 4 (ix its) which) 5 (ix its) called) 6 (ix its) (bi (wanted))) w0) from (by rw [if_pos hok])]; exact h) dX6_setOptions_77
    ·
      refine g_ifb_ne F (tgt := 39) dX6_setOptions_32 (by decide) (fun c4 => ?_) (fun c4 => ?_)
      ·
        refine g_iload F 0 dX6_setOptions_39 rfl ?_
        refine g_ifb_eq F (tgt := 48) dX6_setOptions_41 (by decide) (fun c5 => ?_) (fun c5 => ?_)
        ·
          refine g_iconst F dX6_setOptions_48 (v := 2) (by decide) ?_
          exact g_top (by rw [if_pos c4, if_neg c5]) hJ2
        ·
          refine g_iconst F dX6_setOptions_44 (v := 0) (by decide) ?_
          refine g_goto F (tgt := 49) dX6_setOptions_45 (by decide) ?_
          exact g_top (by rw [if_pos c4, if_pos c5]) hJ2
      ·
        refine g_iconst F dX6_setOptions_35 (v := 1) (by decide) ?_
        refine g_goto F (tgt := 49) dX6_setOptions_36 (by decide) ?_
        exact g_top (by rw [if_neg c4]) hJ2
  ·
    refine g_ifb_eq F (tgt := 24) dX6_setOptions_7 (by decide) (fun c6 => ?_) (fun c6 => ?_)
    ·
      refine g_iconst F dX6_setOptions_24 (v := 0) (by decide) ?_
      exact g_top (bi_f (fun q => c6 q.1)) hJ1
    ·
      refine g_iload_n F 3 dX6_setOptions_10 rfl rfl ?_
      refine g_iconst F dX6_setOptions_11 (v := -1) (by decide) ?_
      refine g_bipush F dX6_setOptions_12 (v := 99) (by decide) ?_
      refine g_callSi F (rest := []) [.int called, .int (-1), .int 99] (mc_isIn l D A cs ad dm (mw ad cs σ w0) called (-1) 99) (va_cwS 3 F.1.2.2.2.2 gX6_setOptions_X6_isIn rfl rfl rfl (by decide +kernel) ⟨Nat.le_of_ble_eq_true rfl, Nat.le_of_ble_eq_true rfl⟩) rfl rfl (Nat.le_of_ble_eq_true rfl) dX6_setOptions_14 ⟨Nat.le_of_ble_eq_true rfl, Nat.le_of_ble_eq_true rfl⟩ ?_
      refine g_ifb_eq F (tgt := 24) dX6_setOptions_17 (by decide) (fun c7 => ?_) (fun c7 => ?_)
      ·
        refine g_iconst F dX6_setOptions_24 (v := 0) (by decide) ?_
        exact g_top (bi_f (fun q => c7 q.2)) hJ1
      ·
        refine g_iconst F dX6_setOptions_20 (v := 1) (by decide) ?_
        refine g_goto F (tgt := 25) dX6_setOptions_21 (by decide) ?_
        exact g_top (bi_t ⟨c6, c7⟩) hJ1
set_option maxHeartbeats 4000000 in
set_option maxRecDepth 100000 in
theorem mc_setRate (l : Launch) (D : va_G) (A : Nat → Prop) (cs : Nat → ClassId) (ad : Nat → Nat → Nat) (dm : Nat → Nat → Prop) (w0 : CF) (σ : SG) (its many ticks : Int32) (hM : MD dm)  : Met l yX6_setRate wsX6_setRate ({ frames := 2, cells := 0, slots := 0, locals := 42 }) (va_Pc [.ref (ad 0 0), .int its, .int many, .int ticks] (PW D A (tysG cs) ad dm (mw ad cs σ w0))) (va_Qi (fun r (_ : Unit) => r = (if ((accP its) ∧ (((inR many 0 40) ∧ (inR ticks 1 200)))) then (σ 7 (ix its)) else 0)) (fun _ t => PW D A (tysG cs) ad dm (mw ad cs (if ((accP its) ∧ (((inR many 0 40) ∧ (inR ticks 1 200)))) then (up2 (up2 (up2 σ 32 0 (if accP its then (if ((inR many 0 40) ∧ (inR ticks 1 200)) then 0 else 2) else 1 : Int32)) 7 (ix its) many) 8 (ix its) ticks) else (up2 σ 32 0 (if accP its then (if ((inR many 0 40) ∧ (inR ticks 1 200)) then 0 else 2) else 1 : Int32))) w0) t) A) 0 0 A := by
  refine g_start (own := RX6) [.ref (ad 0 0), .int its, .int many, .int ticks] (cc := cX6_setRate) (maxL := 6) (ret := (some .int)) (lv0 := [(0, .ref (ad 0 0)), (1, .int its), (2, .int many), (3, .int ticks)]) (by decide) rfl rfl (Nat.le_of_ble_eq_true rfl) rfl ?_
  intro p e s m below meth c F hr hlocks hname
  have hin : ∀ w ∈ wsX60, w ∈ wsX6_setRate := by decide +kernel
  refine g_iload_n F 2 dX6_setRate_0 rfl rfl ?_
  refine g_iconst F dX6_setRate_1 (v := 0) (by decide) ?_
  refine g_bipush F dX6_setRate_2 (v := 40) (by decide) ?_
  refine g_callSi F (rest := []) [.int many, .int 0, .int 40] (mc_isIn l D A cs ad dm (mw ad cs σ w0) many 0 40) (va_cwS 3 F.1.2.2.2.2 gX6_setRate_X6_isIn rfl rfl rfl (by decide +kernel) ⟨Nat.le_of_ble_eq_true rfl, Nat.le_of_ble_eq_true rfl⟩) rfl rfl (Nat.le_of_ble_eq_true rfl) dX6_setRate_4 ⟨Nat.le_of_ble_eq_true rfl, Nat.le_of_ble_eq_true rfl⟩ ?_
  refine g_cut (w2 := (mw ad cs σ w0)) (pc2 := 26) (lv2 := [(0, .ref (ad 0 0)), (1, .int its), (2, .int many), (3, .int ticks)]) (st2 := [.int (bi (((inR many 0 40) ∧ (inR ticks 1 200))))]) ?_ (fun hJ1 => ?_)
  ·
    refine g_istore F (lv1 := [(4, .int (bi (((inR many 0 40) ∧ (inR ticks 1 200))))), (0, .ref (ad 0 0)), (1, .int its), (2, .int many), (3, .int ticks)]) dX6_setRate_26 (by decide) rfl ?_
    refine g_aload_n F 1 dX6_setRate_28 rfl rfl ?_
    refine g_iload_n F 2 dX6_setRate_29 rfl rfl ?_
    refine g_callSi F (rest := [.ref (ad 0 0)]) [.int its] (mc_isAccount l D A cs ad dm (mw ad cs σ w0) its) (va_cwS 1 F.1.2.2.2.2 gX6_setRate_X6_isAccount rfl rfl rfl (by decide +kernel) ⟨Nat.le_of_ble_eq_true rfl, Nat.le_of_ble_eq_true rfl⟩) rfl rfl (Nat.le_of_ble_eq_true rfl) dX6_setRate_30 ⟨Nat.le_of_ble_eq_true rfl, Nat.le_of_ble_eq_true rfl⟩ ?_
    refine g_cut (w2 := (mw ad cs σ w0)) (pc2 := 50) (lv2 := [(4, .int (bi (((inR many 0 40) ∧ (inR ticks 1 200))))), (0, .ref (ad 0 0)), (1, .int its), (2, .int many), (3, .int ticks)]) (st2 := [.int (if accP its then (if ((inR many 0 40) ∧ (inR ticks 1 200)) then 0 else 2) else 1 : Int32), .ref (ad 0 0)]) ?_ (fun hJ2 => ?_)
    ·
      refine g_callVi F (C := RX6) (k := 0) (i := 0) (ci := 6) (T := TX6) (N := 33) (rest := []) [.int (if accP its then (if ((inR many 0 40) ∧ (inR ticks 1 200)) then 0 else 2) else 1 : Int32)] (mc_fails l D A cs ad dm w0 σ (if accP its then (if ((inR many 0 40) ∧ (inR ticks 1 200)) then 0 else 2) else 1 : Int32) hM) (cwV 1 F.1.2.2.2.2 gX6_setRate_X6_fails rfl rfl rfl (by decide +kernel) ⟨Nat.le_of_ble_eq_true rfl, Nat.le_of_ble_eq_true rfl⟩) rfl hM.1 rfl rfl rfl rfl (Nat.le_of_ble_eq_true rfl) dX6_setRate_50 ⟨Nat.le_of_ble_eq_true rfl, Nat.le_of_ble_eq_true rfl⟩ ?_
      refine g_ifb_eq F (tgt := 58) dX6_setRate_53 (by decide) (fun c3 => ?_) (fun c3 => ?_)
      ·
        replace c3 := Classical.not_not.mp c3
        have hok := cd_ok.mp c3
        obtain ⟨hia, hia4⟩ := ix_acc hok.1
        refine g_aload_n F 1 dX6_setRate_58 rfl rfl ?_
        refine mg_get F hM hin 7 (by decide) rfl (by decide +kernel) rfl dX6_setRate_59 ?_
        refine g_iload_n F 2 dX6_setRate_62 rfl rfl ?_
        refine mg_ald F hM 7 rfl hia (show (ix its) < 4 by omega) (v := (σ 7 (ix its))) ((up2_ne _ _ (fun h => absurd h.1 (by decide))).trans rfl) dX6_setRate_63 ?_
        refine g_istore F (lv1 := [(5, .int (σ 7 (ix its))), (4, .int (bi (((inR many 0 40) ∧ (inR ticks 1 200))))), (0, .ref (ad 0 0)), (1, .int its), (2, .int many), (3, .int ticks)]) dX6_setRate_64 (by decide) rfl ?_
        refine g_aload_n F 2 dX6_setRate_66 rfl rfl ?_
        refine mg_get F hM hin 7 (by decide) rfl (by decide +kernel) rfl dX6_setRate_67 ?_
        refine g_iload_n F 3 dX6_setRate_70 rfl rfl ?_
        refine g_iload_n F 4 dX6_setRate_71 rfl rfl ?_
        refine mg_ast F hM 7 rfl hia (show (ix its) < 4 by omega) dX6_setRate_72 ?_
        refine g_aload_n F 2 dX6_setRate_73 rfl rfl ?_
        refine mg_get F hM hin 8 (by decide) rfl (by decide +kernel) rfl dX6_setRate_74 ?_
        refine g_iload_n F 3 dX6_setRate_77 rfl rfl ?_
        refine g_iload_n F 5 dX6_setRate_78 rfl rfl ?_
        refine mg_ast F hM 8 rfl hia (show (ix its) < 4 by omega) dX6_setRate_79 ?_
        refine g_iload F 0 dX6_setRate_80 rfl ?_
        exact g_iret F hr ((if_pos hok).symm) hlocks (fun _ h => by rw [show (mw ad cs (if ((accP its) ∧ (((inR many 0 40) ∧ (inR ticks 1 200)))) then (up2 (up2 (up2 σ 32 0 (if accP its then (if ((inR many 0 40) ∧ (inR ticks 1 200)) then 0 else 2) else 1 : Int32)) 7 (ix its) many) 8 (ix its) ticks) else (up2 σ 32 0 (if accP its then (if ((inR many 0 40) ∧ (inR ticks 1 200)) then 0 else 2) else 1 : Int32))) w0) = (mw ad cs (up2 (up2 (up2 σ 32 0 (if accP its then (if ((inR many 0 40) ∧ (inR ticks 1 200)) then 0 else 2) else 1 : Int32)) 7 (ix its) many) 8 (ix its) ticks) w0) from (by rw [if_pos hok])]; exact h) dX6_setRate_82
      ·
        refine g_iconst F dX6_setRate_56 (v := 0) (by decide) ?_
        exact g_iret F hr ((if_neg (fun q => c3 (cd_ok.mpr q))).symm) hlocks (fun _ h => by rw [show (mw ad cs (if ((accP its) ∧ (((inR many 0 40) ∧ (inR ticks 1 200)))) then (up2 (up2 (up2 σ 32 0 (if accP its then (if ((inR many 0 40) ∧ (inR ticks 1 200)) then 0 else 2) else 1 : Int32)) 7 (ix its) many) 8 (ix its) ticks) else (up2 σ 32 0 (if accP its then (if ((inR many 0 40) ∧ (inR ticks 1 200)) then 0 else 2) else 1 : Int32))) w0) = (mw ad cs (up2 σ 32 0 (if accP its then (if ((inR many 0 40) ∧ (inR ticks 1 200)) then 0 else 2) else 1 : Int32)) w0) from (by rw [if_neg (fun q => c3 (cd_ok.mpr q))])]; exact h) dX6_setRate_57
    ·
      refine g_ifb_ne F (tgt := 40) dX6_setRate_33 (by decide) (fun c4 => ?_) (fun c4 => ?_)
      ·
        refine g_iload F 0 dX6_setRate_40 rfl ?_
        refine g_ifb_eq F (tgt := 49) dX6_setRate_42 (by decide) (fun c5 => ?_) (fun c5 => ?_)
        ·
          refine g_iconst F dX6_setRate_49 (v := 2) (by decide) ?_
          exact g_top (by rw [if_pos c4, if_neg c5]) hJ2
        ·
          refine g_iconst F dX6_setRate_45 (v := 0) (by decide) ?_
          refine g_goto F (tgt := 50) dX6_setRate_46 (by decide) ?_
          exact g_top (by rw [if_pos c4, if_pos c5]) hJ2
      ·
        refine g_iconst F dX6_setRate_36 (v := 1) (by decide) ?_
        refine g_goto F (tgt := 50) dX6_setRate_37 (by decide) ?_
        exact g_top (by rw [if_neg c4]) hJ2
  ·
    refine g_ifb_eq F (tgt := 25) dX6_setRate_7 (by decide) (fun c6 => ?_) (fun c6 => ?_)
    ·
      refine g_iconst F dX6_setRate_25 (v := 0) (by decide) ?_
      exact g_top (bi_f (fun q => c6 q.1)) hJ1
    ·
      refine g_iload_n F 3 dX6_setRate_10 rfl rfl ?_
      refine g_iconst F dX6_setRate_11 (v := 1) (by decide) ?_
      refine g_sipush F dX6_setRate_12 (v := 200) (by decide) ?_
      refine g_callSi F (rest := []) [.int ticks, .int 1, .int 200] (mc_isIn l D A cs ad dm (mw ad cs σ w0) ticks 1 200) (va_cwS 3 F.1.2.2.2.2 gX6_setRate_X6_isIn rfl rfl rfl (by decide +kernel) ⟨Nat.le_of_ble_eq_true rfl, Nat.le_of_ble_eq_true rfl⟩) rfl rfl (Nat.le_of_ble_eq_true rfl) dX6_setRate_15 ⟨Nat.le_of_ble_eq_true rfl, Nat.le_of_ble_eq_true rfl⟩ ?_
      refine g_ifb_eq F (tgt := 25) dX6_setRate_18 (by decide) (fun c7 => ?_) (fun c7 => ?_)
      ·
        refine g_iconst F dX6_setRate_25 (v := 0) (by decide) ?_
        exact g_top (bi_f (fun q => c7 q.2)) hJ1
      ·
        refine g_iconst F dX6_setRate_21 (v := 1) (by decide) ?_
        refine g_goto F (tgt := 26) dX6_setRate_22 (by decide) ?_
        exact g_top (bi_t ⟨c6, c7⟩) hJ1
set_option maxHeartbeats 4000000 in
set_option maxRecDepth 100000 in
theorem mc_of_23 (l : Launch) (D : va_G) (A : Nat → Prop) (cs : Nat → ClassId) (ad : Nat → Nat → Nat) (dm : Nat → Nat → Prop) (w0 : CF) (σ : SG) (its : Int32) (n : Nat) (hM : MD dm) (hn : σ 11 0 = nI n) (hn40 : n ≤ 40) : Met l yX6_of wsX6_of ({ frames := 2, cells := 0, slots := 0, locals := 43 }) (va_Pc [.ref (ad 0 0), .ref (ad 1 23), .int its] (PW D A (tysG cs) ad dm (mw ad cs σ w0))) (va_Qi (fun r (_ : Unit) => r = (if inR its 0 ((σ 11 0) - 1) then (σ 23 (ix its)) else 0)) (fun _ t => PW D A (tysG cs) ad dm (mw ad cs (up2 σ 32 0 (bi (¬ (inR its 0 ((σ 11 0) - 1))))) w0) t) A) 0 0 A := by
  refine g_start (own := RX6) [.ref (ad 0 0), .ref (ad 1 23), .int its] (cc := cX6_of) (maxL := 3) (ret := (some .int)) (lv0 := [(0, .ref (ad 0 0)), (1, .ref (ad 1 23)), (2, .int its)]) (by decide) rfl rfl (Nat.le_of_ble_eq_true rfl) rfl ?_
  intro p e s m below meth c F hr hlocks hname
  refine g_aload_n F 0 dX6_of_0 rfl rfl ?_
  refine g_aload_n F 0 dX6_of_1 rfl rfl ?_
  refine g_iload_n F 2 dX6_of_2 rfl rfl ?_
  refine g_callVi F (C := RX6) (k := 0) (i := 0) (ci := 6) (T := TX6) (N := 33) (rest := [.ref (ad 0 0)]) [.int its] (mc_isMessage l D A cs ad dm w0 σ its hM) (cwV 1 F.1.2.2.2.2 gX6_of_X6_isMessage rfl rfl rfl (by decide +kernel) ⟨Nat.le_of_ble_eq_true rfl, Nat.le_of_ble_eq_true rfl⟩) rfl hM.1 rfl rfl rfl rfl (Nat.le_of_ble_eq_true rfl) dX6_of_3 ⟨Nat.le_of_ble_eq_true rfl, Nat.le_of_ble_eq_true rfl⟩ ?_
  refine g_cut (w2 := (mw ad cs σ w0)) (pc2 := 14) (lv2 := [(0, .ref (ad 0 0)), (1, .ref (ad 1 23)), (2, .int its)]) (st2 := [.int (bi (¬ (inR its 0 ((σ 11 0) - 1)))), .ref (ad 0 0)]) ?_ (fun hJ1 => ?_)
  ·
    refine g_callVi F (C := RX6) (k := 0) (i := 0) (ci := 6) (T := TX6) (N := 33) (rest := []) [.int (bi (¬ (inR its 0 ((σ 11 0) - 1))))] (mc_fails l D A cs ad dm w0 σ (bi (¬ (inR its 0 ((σ 11 0) - 1)))) hM) (cwV 1 F.1.2.2.2.2 gX6_of_X6_fails rfl rfl rfl (by decide +kernel) ⟨Nat.le_of_ble_eq_true rfl, Nat.le_of_ble_eq_true rfl⟩) rfl hM.1 rfl rfl rfl rfl (Nat.le_of_ble_eq_true rfl) dX6_of_14 ⟨Nat.le_of_ble_eq_true rfl, Nat.le_of_ble_eq_true rfl⟩ ?_
    refine g_ifb_eq F (tgt := 24) dX6_of_17 (by decide) (fun c2 => ?_) (fun c2 => ?_)
    ·
      replace c2 := Classical.not_not.mp c2
      have hok := cd_ok1.mp c2
      obtain ⟨hia, hia4⟩ := ix_msg hn hn40 hok
      refine g_aload_n F 1 dX6_of_24 rfl rfl ?_
      refine g_iload_n F 2 dX6_of_25 rfl rfl ?_
      refine mg_ald F hM 23 rfl hia (show (ix its) < 40 by omega) (v := (σ 23 (ix its))) ((up2_ne _ _ (fun h => absurd h.1 (by decide))).trans rfl) dX6_of_26 ?_
      exact g_iret F hr ((if_pos hok).symm) hlocks (fun _ h => h) dX6_of_27
    ·
      refine g_iconst F dX6_of_20 (v := 0) (by decide) ?_
      refine g_goto F (tgt := 27) dX6_of_21 (by decide) ?_
      exact g_iret F hr ((if_neg (fun q => c2 (cd_ok1.mpr q))).symm) hlocks (fun _ h => h) dX6_of_27
  ·
    refine g_ifb_eq F (tgt := 13) dX6_of_6 (by decide) (fun c3 => ?_) (fun c3 => ?_)
    ·
      refine g_iconst F dX6_of_13 (v := 1) (by decide) ?_
      exact g_top (bi_t c3) hJ1
    ·
      refine g_iconst F dX6_of_9 (v := 0) (by decide) ?_
      refine g_goto F (tgt := 14) dX6_of_10 (by decide) ?_
      exact g_top (bi_f (fun q => q c3)) hJ1
set_option maxHeartbeats 4000000 in
set_option maxRecDepth 100000 in
theorem mc_of_24 (l : Launch) (D : va_G) (A : Nat → Prop) (cs : Nat → ClassId) (ad : Nat → Nat → Nat) (dm : Nat → Nat → Prop) (w0 : CF) (σ : SG) (its : Int32) (n : Nat) (hM : MD dm) (hn : σ 11 0 = nI n) (hn40 : n ≤ 40) : Met l yX6_of wsX6_of ({ frames := 2, cells := 0, slots := 0, locals := 43 }) (va_Pc [.ref (ad 0 0), .ref (ad 1 24), .int its] (PW D A (tysG cs) ad dm (mw ad cs σ w0))) (va_Qi (fun r (_ : Unit) => r = (if inR its 0 ((σ 11 0) - 1) then (σ 24 (ix its)) else 0)) (fun _ t => PW D A (tysG cs) ad dm (mw ad cs (up2 σ 32 0 (bi (¬ (inR its 0 ((σ 11 0) - 1))))) w0) t) A) 0 0 A := by
  refine g_start (own := RX6) [.ref (ad 0 0), .ref (ad 1 24), .int its] (cc := cX6_of) (maxL := 3) (ret := (some .int)) (lv0 := [(0, .ref (ad 0 0)), (1, .ref (ad 1 24)), (2, .int its)]) (by decide) rfl rfl (Nat.le_of_ble_eq_true rfl) rfl ?_
  intro p e s m below meth c F hr hlocks hname
  refine g_aload_n F 0 dX6_of_0 rfl rfl ?_
  refine g_aload_n F 0 dX6_of_1 rfl rfl ?_
  refine g_iload_n F 2 dX6_of_2 rfl rfl ?_
  refine g_callVi F (C := RX6) (k := 0) (i := 0) (ci := 6) (T := TX6) (N := 33) (rest := [.ref (ad 0 0)]) [.int its] (mc_isMessage l D A cs ad dm w0 σ its hM) (cwV 1 F.1.2.2.2.2 gX6_of_X6_isMessage rfl rfl rfl (by decide +kernel) ⟨Nat.le_of_ble_eq_true rfl, Nat.le_of_ble_eq_true rfl⟩) rfl hM.1 rfl rfl rfl rfl (Nat.le_of_ble_eq_true rfl) dX6_of_3 ⟨Nat.le_of_ble_eq_true rfl, Nat.le_of_ble_eq_true rfl⟩ ?_
  refine g_cut (w2 := (mw ad cs σ w0)) (pc2 := 14) (lv2 := [(0, .ref (ad 0 0)), (1, .ref (ad 1 24)), (2, .int its)]) (st2 := [.int (bi (¬ (inR its 0 ((σ 11 0) - 1)))), .ref (ad 0 0)]) ?_ (fun hJ1 => ?_)
  ·
    refine g_callVi F (C := RX6) (k := 0) (i := 0) (ci := 6) (T := TX6) (N := 33) (rest := []) [.int (bi (¬ (inR its 0 ((σ 11 0) - 1))))] (mc_fails l D A cs ad dm w0 σ (bi (¬ (inR its 0 ((σ 11 0) - 1)))) hM) (cwV 1 F.1.2.2.2.2 gX6_of_X6_fails rfl rfl rfl (by decide +kernel) ⟨Nat.le_of_ble_eq_true rfl, Nat.le_of_ble_eq_true rfl⟩) rfl hM.1 rfl rfl rfl rfl (Nat.le_of_ble_eq_true rfl) dX6_of_14 ⟨Nat.le_of_ble_eq_true rfl, Nat.le_of_ble_eq_true rfl⟩ ?_
    refine g_ifb_eq F (tgt := 24) dX6_of_17 (by decide) (fun c2 => ?_) (fun c2 => ?_)
    ·
      replace c2 := Classical.not_not.mp c2
      have hok := cd_ok1.mp c2
      obtain ⟨hia, hia4⟩ := ix_msg hn hn40 hok
      refine g_aload_n F 1 dX6_of_24 rfl rfl ?_
      refine g_iload_n F 2 dX6_of_25 rfl rfl ?_
      refine mg_ald F hM 24 rfl hia (show (ix its) < 40 by omega) (v := (σ 24 (ix its))) ((up2_ne _ _ (fun h => absurd h.1 (by decide))).trans rfl) dX6_of_26 ?_
      exact g_iret F hr ((if_pos hok).symm) hlocks (fun _ h => h) dX6_of_27
    ·
      refine g_iconst F dX6_of_20 (v := 0) (by decide) ?_
      refine g_goto F (tgt := 27) dX6_of_21 (by decide) ?_
      exact g_iret F hr ((if_neg (fun q => c2 (cd_ok1.mpr q))).symm) hlocks (fun _ h => h) dX6_of_27
  ·
    refine g_ifb_eq F (tgt := 13) dX6_of_6 (by decide) (fun c3 => ?_) (fun c3 => ?_)
    ·
      refine g_iconst F dX6_of_13 (v := 1) (by decide) ?_
      exact g_top (bi_t c3) hJ1
    ·
      refine g_iconst F dX6_of_9 (v := 0) (by decide) ?_
      refine g_goto F (tgt := 14) dX6_of_10 (by decide) ?_
      exact g_top (bi_f (fun q => q c3)) hJ1
set_option maxHeartbeats 4000000 in
set_option maxRecDepth 100000 in
theorem mc_of_25 (l : Launch) (D : va_G) (A : Nat → Prop) (cs : Nat → ClassId) (ad : Nat → Nat → Nat) (dm : Nat → Nat → Prop) (w0 : CF) (σ : SG) (its : Int32) (n : Nat) (hM : MD dm) (hn : σ 11 0 = nI n) (hn40 : n ≤ 40) : Met l yX6_of wsX6_of ({ frames := 2, cells := 0, slots := 0, locals := 43 }) (va_Pc [.ref (ad 0 0), .ref (ad 1 25), .int its] (PW D A (tysG cs) ad dm (mw ad cs σ w0))) (va_Qi (fun r (_ : Unit) => r = (if inR its 0 ((σ 11 0) - 1) then (σ 25 (ix its)) else 0)) (fun _ t => PW D A (tysG cs) ad dm (mw ad cs (up2 σ 32 0 (bi (¬ (inR its 0 ((σ 11 0) - 1))))) w0) t) A) 0 0 A := by
  refine g_start (own := RX6) [.ref (ad 0 0), .ref (ad 1 25), .int its] (cc := cX6_of) (maxL := 3) (ret := (some .int)) (lv0 := [(0, .ref (ad 0 0)), (1, .ref (ad 1 25)), (2, .int its)]) (by decide) rfl rfl (Nat.le_of_ble_eq_true rfl) rfl ?_
  intro p e s m below meth c F hr hlocks hname
  refine g_aload_n F 0 dX6_of_0 rfl rfl ?_
  refine g_aload_n F 0 dX6_of_1 rfl rfl ?_
  refine g_iload_n F 2 dX6_of_2 rfl rfl ?_
  refine g_callVi F (C := RX6) (k := 0) (i := 0) (ci := 6) (T := TX6) (N := 33) (rest := [.ref (ad 0 0)]) [.int its] (mc_isMessage l D A cs ad dm w0 σ its hM) (cwV 1 F.1.2.2.2.2 gX6_of_X6_isMessage rfl rfl rfl (by decide +kernel) ⟨Nat.le_of_ble_eq_true rfl, Nat.le_of_ble_eq_true rfl⟩) rfl hM.1 rfl rfl rfl rfl (Nat.le_of_ble_eq_true rfl) dX6_of_3 ⟨Nat.le_of_ble_eq_true rfl, Nat.le_of_ble_eq_true rfl⟩ ?_
  refine g_cut (w2 := (mw ad cs σ w0)) (pc2 := 14) (lv2 := [(0, .ref (ad 0 0)), (1, .ref (ad 1 25)), (2, .int its)]) (st2 := [.int (bi (¬ (inR its 0 ((σ 11 0) - 1)))), .ref (ad 0 0)]) ?_ (fun hJ1 => ?_)
  ·
    refine g_callVi F (C := RX6) (k := 0) (i := 0) (ci := 6) (T := TX6) (N := 33) (rest := []) [.int (bi (¬ (inR its 0 ((σ 11 0) - 1))))] (mc_fails l D A cs ad dm w0 σ (bi (¬ (inR its 0 ((σ 11 0) - 1)))) hM) (cwV 1 F.1.2.2.2.2 gX6_of_X6_fails rfl rfl rfl (by decide +kernel) ⟨Nat.le_of_ble_eq_true rfl, Nat.le_of_ble_eq_true rfl⟩) rfl hM.1 rfl rfl rfl rfl (Nat.le_of_ble_eq_true rfl) dX6_of_14 ⟨Nat.le_of_ble_eq_true rfl, Nat.le_of_ble_eq_true rfl⟩ ?_
    refine g_ifb_eq F (tgt := 24) dX6_of_17 (by decide) (fun c2 => ?_) (fun c2 => ?_)
    ·
      replace c2 := Classical.not_not.mp c2
      have hok := cd_ok1.mp c2
      obtain ⟨hia, hia4⟩ := ix_msg hn hn40 hok
      refine g_aload_n F 1 dX6_of_24 rfl rfl ?_
      refine g_iload_n F 2 dX6_of_25 rfl rfl ?_
      refine mg_ald F hM 25 rfl hia (show (ix its) < 40 by omega) (v := (σ 25 (ix its))) ((up2_ne _ _ (fun h => absurd h.1 (by decide))).trans rfl) dX6_of_26 ?_
      exact g_iret F hr ((if_pos hok).symm) hlocks (fun _ h => h) dX6_of_27
    ·
      refine g_iconst F dX6_of_20 (v := 0) (by decide) ?_
      refine g_goto F (tgt := 27) dX6_of_21 (by decide) ?_
      exact g_iret F hr ((if_neg (fun q => c2 (cd_ok1.mpr q))).symm) hlocks (fun _ h => h) dX6_of_27
  ·
    refine g_ifb_eq F (tgt := 13) dX6_of_6 (by decide) (fun c3 => ?_) (fun c3 => ?_)
    ·
      refine g_iconst F dX6_of_13 (v := 1) (by decide) ?_
      exact g_top (bi_t c3) hJ1
    ·
      refine g_iconst F dX6_of_9 (v := 0) (by decide) ?_
      refine g_goto F (tgt := 14) dX6_of_10 (by decide) ?_
      exact g_top (bi_f (fun q => q c3)) hJ1
set_option maxHeartbeats 4000000 in
set_option maxRecDepth 100000 in
theorem mc_state (l : Launch) (D : va_G) (A : Nat → Prop) (cs : Nat → ClassId) (ad : Nat → Nat → Nat) (dm : Nat → Nat → Prop) (w0 : CF) (σ : SG) (its : Int32) (n : Nat) (hM : MD dm) (hn : σ 11 0 = nI n) (hn40 : n ≤ 40) : Met l yX6_state wsX6_state ({ frames := 3, cells := 0, slots := 0, locals := 65 }) (va_Pc [.ref (ad 0 0), .int its] (PW D A (tysG cs) ad dm (mw ad cs σ w0))) (va_Qi (fun r (_ : Unit) => r = (if inR its 0 ((σ 11 0) - 1) then (σ 23 (ix its)) else 0)) (fun _ t => PW D A (tysG cs) ad dm (mw ad cs (up2 σ 32 0 (bi (¬ (inR its 0 ((σ 11 0) - 1))))) w0) t) A) 0 0 A := by
  refine g_start (own := RX6) [.ref (ad 0 0), .int its] (cc := cX6_state) (maxL := 2) (ret := (some .int)) (lv0 := [(0, .ref (ad 0 0)), (1, .int its)]) (by decide) rfl rfl (Nat.le_of_ble_eq_true rfl) rfl ?_
  intro p e s m below meth c F hr hlocks hname
  have hin : ∀ w ∈ wsX60, w ∈ wsX6_state := by decide +kernel
  refine g_aload_n F 0 dX6_state_0 rfl rfl ?_
  refine g_aload_n F 0 dX6_state_1 rfl rfl ?_
  refine mg_get F hM hin 23 (by decide) rfl (by decide +kernel) rfl dX6_state_2 ?_
  refine g_iload_n F 1 dX6_state_5 rfl rfl ?_
  refine g_callVi F (C := RX6) (k := 0) (i := 0) (ci := 6) (T := TX6) (N := 33) (rest := []) [.ref (ad 1 23), .int its] (mc_of_23 l D A cs ad dm w0 σ its n hM hn hn40) (cwV 2 F.1.2.2.2.2 gX6_state_X6_of rfl rfl rfl (by decide +kernel) ⟨Nat.le_of_ble_eq_true rfl, Nat.le_of_ble_eq_true rfl⟩) rfl hM.1 rfl rfl rfl rfl (Nat.le_of_ble_eq_true rfl) dX6_state_6 ⟨Nat.le_of_ble_eq_true rfl, Nat.le_of_ble_eq_true rfl⟩ ?_
  exact g_iret F hr rfl hlocks (fun _ h => h) dX6_state_9
set_option maxHeartbeats 4000000 in
set_option maxRecDepth 100000 in
theorem mc_stateByLog (l : Launch) (D : va_G) (A : Nat → Prop) (cs : Nat → ClassId) (ad : Nat → Nat → Nat) (dm : Nat → Nat → Prop) (w0 : CF) (σ : SG) (its : Int32) (n : Nat) (hM : MD dm) (hn : σ 11 0 = nI n) (hn40 : n ≤ 40) : Met l yX6_stateByLog wsX6_stateByLog ({ frames := 3, cells := 0, slots := 0, locals := 65 }) (va_Pc [.ref (ad 0 0), .int its] (PW D A (tysG cs) ad dm (mw ad cs σ w0))) (va_Qi (fun r (_ : Unit) => r = (if inR its 0 ((σ 11 0) - 1) then (σ 23 (ix its)) else 0)) (fun _ t => PW D A (tysG cs) ad dm (mw ad cs (up2 σ 32 0 (bi (¬ (inR its 0 ((σ 11 0) - 1))))) w0) t) A) 0 0 A := by
  refine g_start (own := RX6) [.ref (ad 0 0), .int its] (cc := cX6_stateByLog) (maxL := 2) (ret := (some .int)) (lv0 := [(0, .ref (ad 0 0)), (1, .int its)]) (by decide) rfl rfl (Nat.le_of_ble_eq_true rfl) rfl ?_
  intro p e s m below meth c F hr hlocks hname
  have hin : ∀ w ∈ wsX60, w ∈ wsX6_stateByLog := by decide +kernel
  refine g_aload_n F 0 dX6_stateByLog_0 rfl rfl ?_
  refine g_aload_n F 0 dX6_stateByLog_1 rfl rfl ?_
  refine mg_get F hM hin 23 (by decide) rfl (by decide +kernel) rfl dX6_stateByLog_2 ?_
  refine g_iload_n F 1 dX6_stateByLog_5 rfl rfl ?_
  refine g_callVi F (C := RX6) (k := 0) (i := 0) (ci := 6) (T := TX6) (N := 33) (rest := []) [.ref (ad 1 23), .int its] (mc_of_23 l D A cs ad dm w0 σ its n hM hn hn40) (cwV 2 F.1.2.2.2.2 gX6_stateByLog_X6_of rfl rfl rfl (by decide +kernel) ⟨Nat.le_of_ble_eq_true rfl, Nat.le_of_ble_eq_true rfl⟩) rfl hM.1 rfl rfl rfl rfl (Nat.le_of_ble_eq_true rfl) dX6_stateByLog_6 ⟨Nat.le_of_ble_eq_true rfl, Nat.le_of_ble_eq_true rfl⟩ ?_
  exact g_iret F hr rfl hlocks (fun _ h => h) dX6_stateByLog_9
set_option maxHeartbeats 4000000 in
set_option maxRecDepth 100000 in
theorem mc_delivered (l : Launch) (D : va_G) (A : Nat → Prop) (cs : Nat → ClassId) (ad : Nat → Nat → Nat) (dm : Nat → Nat → Prop) (w0 : CF) (σ : SG) (its : Int32) (n : Nat) (hM : MD dm) (hn : σ 11 0 = nI n) (hn40 : n ≤ 40) : Met l yX6_delivered wsX6_delivered ({ frames := 3, cells := 0, slots := 0, locals := 65 }) (va_Pc [.ref (ad 0 0), .int its] (PW D A (tysG cs) ad dm (mw ad cs σ w0))) (va_Qi (fun r (_ : Unit) => r = (if inR its 0 ((σ 11 0) - 1) then (σ 24 (ix its)) else 0)) (fun _ t => PW D A (tysG cs) ad dm (mw ad cs (up2 σ 32 0 (bi (¬ (inR its 0 ((σ 11 0) - 1))))) w0) t) A) 0 0 A := by
  refine g_start (own := RX6) [.ref (ad 0 0), .int its] (cc := cX6_delivered) (maxL := 2) (ret := (some .int)) (lv0 := [(0, .ref (ad 0 0)), (1, .int its)]) (by decide) rfl rfl (Nat.le_of_ble_eq_true rfl) rfl ?_
  intro p e s m below meth c F hr hlocks hname
  have hin : ∀ w ∈ wsX60, w ∈ wsX6_delivered := by decide +kernel
  refine g_aload_n F 0 dX6_delivered_0 rfl rfl ?_
  refine g_aload_n F 0 dX6_delivered_1 rfl rfl ?_
  refine mg_get F hM hin 24 (by decide) rfl (by decide +kernel) rfl dX6_delivered_2 ?_
  refine g_iload_n F 1 dX6_delivered_5 rfl rfl ?_
  refine g_callVi F (C := RX6) (k := 0) (i := 0) (ci := 6) (T := TX6) (N := 33) (rest := []) [.ref (ad 1 24), .int its] (mc_of_24 l D A cs ad dm w0 σ its n hM hn hn40) (cwV 2 F.1.2.2.2.2 gX6_delivered_X6_of rfl rfl rfl (by decide +kernel) ⟨Nat.le_of_ble_eq_true rfl, Nat.le_of_ble_eq_true rfl⟩) rfl hM.1 rfl rfl rfl rfl (Nat.le_of_ble_eq_true rfl) dX6_delivered_6 ⟨Nat.le_of_ble_eq_true rfl, Nat.le_of_ble_eq_true rfl⟩ ?_
  exact g_iret F hr rfl hlocks (fun _ h => h) dX6_delivered_9
set_option maxHeartbeats 4000000 in
set_option maxRecDepth 100000 in
theorem mc_attempts (l : Launch) (D : va_G) (A : Nat → Prop) (cs : Nat → ClassId) (ad : Nat → Nat → Nat) (dm : Nat → Nat → Prop) (w0 : CF) (σ : SG) (its : Int32) (n : Nat) (hM : MD dm) (hn : σ 11 0 = nI n) (hn40 : n ≤ 40) : Met l yX6_attempts wsX6_attempts ({ frames := 3, cells := 0, slots := 0, locals := 65 }) (va_Pc [.ref (ad 0 0), .int its] (PW D A (tysG cs) ad dm (mw ad cs σ w0))) (va_Qi (fun r (_ : Unit) => r = (if inR its 0 ((σ 11 0) - 1) then (σ 25 (ix its)) else 0)) (fun _ t => PW D A (tysG cs) ad dm (mw ad cs (up2 σ 32 0 (bi (¬ (inR its 0 ((σ 11 0) - 1))))) w0) t) A) 0 0 A := by
  refine g_start (own := RX6) [.ref (ad 0 0), .int its] (cc := cX6_attempts) (maxL := 2) (ret := (some .int)) (lv0 := [(0, .ref (ad 0 0)), (1, .int its)]) (by decide) rfl rfl (Nat.le_of_ble_eq_true rfl) rfl ?_
  intro p e s m below meth c F hr hlocks hname
  have hin : ∀ w ∈ wsX60, w ∈ wsX6_attempts := by decide +kernel
  refine g_aload_n F 0 dX6_attempts_0 rfl rfl ?_
  refine g_aload_n F 0 dX6_attempts_1 rfl rfl ?_
  refine mg_get F hM hin 25 (by decide) rfl (by decide +kernel) rfl dX6_attempts_2 ?_
  refine g_iload_n F 1 dX6_attempts_5 rfl rfl ?_
  refine g_callVi F (C := RX6) (k := 0) (i := 0) (ci := 6) (T := TX6) (N := 33) (rest := []) [.ref (ad 1 25), .int its] (mc_of_25 l D A cs ad dm w0 σ its n hM hn hn40) (cwV 2 F.1.2.2.2.2 gX6_attempts_X6_of rfl rfl rfl (by decide +kernel) ⟨Nat.le_of_ble_eq_true rfl, Nat.le_of_ble_eq_true rfl⟩) rfl hM.1 rfl rfl rfl rfl (Nat.le_of_ble_eq_true rfl) dX6_attempts_6 ⟨Nat.le_of_ble_eq_true rfl, Nat.le_of_ble_eq_true rfl⟩ ?_
  exact g_iret F hr rfl hlocks (fun _ h => h) dX6_attempts_9
set_option maxHeartbeats 4000000 in
set_option maxRecDepth 100000 in
theorem mc_parted (l : Launch) (D : va_G) (A : Nat → Prop) (cs : Nat → ClassId) (ad : Nat → Nat → Nat) (dm : Nat → Nat → Prop) (w0 : CF) (σ : SG) (v : Int32) (j : Nat) (hM : MD dm) (hvj : v = nI j) (hj : j < 40) (htx : txOK σ j) : Met l yX6_parted wsX6_parted ({ frames := 2, cells := 0, slots := 0, locals := 53 }) (va_Pc [.ref (ad 0 0), .int v] (PW D A (tysG cs) ad dm (mw ad cs σ w0))) (va_Qi (fun r (_ : Unit) => r = (nI (ptM σ j))) (fun _ t => PW D A (tysG cs) ad dm (mw ad cs σ w0) t) A) 0 0 A := by
  refine g_start (own := RX6) [.ref (ad 0 0), .int v] (cc := cX6_parted) (maxL := 2) (ret := (some .int)) (lv0 := [(0, .ref (ad 0 0)), (1, .int v)]) (by decide) rfl rfl (Nat.le_of_ble_eq_true rfl) rfl ?_
  intro p e s m below meth c F hr hlocks hname
  have hin : ∀ w ∈ wsX60, w ∈ wsX6_parted := by decide +kernel
  refine g_aload_n F 0 dX6_parted_0 rfl rfl ?_
  refine mg_get F hM hin 17 (by decide) rfl (by decide +kernel) rfl dX6_parted_1 ?_
  refine g_iload_n F 1 dX6_parted_4 rfl rfl ?_
  refine mg_ald F hM 17 rfl hvj (show j < 40 by omega) (v := (σ 17 j)) rfl dX6_parted_5 ?_
  refine g_aload_n F 0 dX6_parted_6 rfl rfl ?_
  refine mg_get F hM hin 18 (by decide) rfl (by decide +kernel) rfl dX6_parted_7 ?_
  refine g_iload_n F 1 dX6_parted_10 rfl rfl ?_
  refine mg_ald F hM 18 rfl hvj (show j < 40 by omega) (v := (σ 18 j)) rfl dX6_parted_11 ?_
  refine g_aload_n F 0 dX6_parted_12 rfl rfl ?_
  refine mg_get F hM hin 19 (by decide) rfl (by decide +kernel) rfl dX6_parted_13 ?_
  refine g_iload_n F 1 dX6_parted_16 rfl rfl ?_
  refine mg_zld F hM 19 rfl hvj (show j < 40 by omega) (v := (σ 19 j)) rfl dX6_parted_17 ?_
  refine g_callSi F (rest := []) [.int (σ 17 j), .int (σ 18 j), .int (σ 19 j)] (mc_partsOf1 l D A cs ad dm (mw ad cs σ w0) ((σ 19 j) = 1) (ix (σ 18 j)) (ix (σ 17 j)) htx.2.1 htx.2.2.2.1 (σ 17 j) (σ 18 j) (σ 19 j) htx.1 htx.2.2.1 htx.2.2.2.2) (va_cwS 3 F.1.2.2.2.2 gX6_parted_X6_partsOf rfl rfl rfl (by decide +kernel) ⟨Nat.le_of_ble_eq_true rfl, Nat.le_of_ble_eq_true rfl⟩) rfl rfl (Nat.le_of_ble_eq_true rfl) dX6_parted_18 ⟨Nat.le_of_ble_eq_true rfl, Nat.le_of_ble_eq_true rfl⟩ ?_
  exact g_iret F hr (rfl) hlocks (fun _ h => h) dX6_parted_21
set_option maxHeartbeats 4000000 in
set_option maxRecDepth 100000 in
theorem mc_parts (l : Launch) (D : va_G) (A : Nat → Prop) (cs : Nat → ClassId) (ad : Nat → Nat → Nat) (dm : Nat → Nat → Prop) (w0 : CF) (σ : SG) (its : Int32) (n : Nat) (hM : MD dm) (hn : σ 11 0 = nI n) (hn40 : n ≤ 40) (hTX : ∀ j, j < n → txOK σ j) : Met l yX6_parts wsX6_parts ({ frames := 3, cells := 0, slots := 0, locals := 74 }) (va_Pc [.ref (ad 0 0), .int its] (PW D A (tysG cs) ad dm (mw ad cs σ w0))) (va_Qi (fun r (_ : Unit) => r = (if ((inR its 0 ((σ 11 0) - 1))) then (nI (ptM (up2 σ 32 0 (bi (¬ (inR its 0 ((σ 11 0) - 1))))) (ix its))) else 0)) (fun _ t => PW D A (tysG cs) ad dm (mw ad cs (if ((inR its 0 ((σ 11 0) - 1))) then (up2 σ 32 0 (bi (¬ (inR its 0 ((σ 11 0) - 1))))) else (up2 σ 32 0 (bi (¬ (inR its 0 ((σ 11 0) - 1)))))) w0) t) A) 0 0 A := by
  refine g_start (own := RX6) [.ref (ad 0 0), .int its] (cc := cX6_parts) (maxL := 2) (ret := (some .int)) (lv0 := [(0, .ref (ad 0 0)), (1, .int its)]) (by decide) rfl rfl (Nat.le_of_ble_eq_true rfl) rfl ?_
  intro p e s m below meth c F hr hlocks hname
  refine g_aload_n F 0 dX6_parts_0 rfl rfl ?_
  refine g_aload_n F 0 dX6_parts_1 rfl rfl ?_
  refine g_iload_n F 1 dX6_parts_2 rfl rfl ?_
  refine g_callVi F (C := RX6) (k := 0) (i := 0) (ci := 6) (T := TX6) (N := 33) (rest := [.ref (ad 0 0)]) [.int its] (mc_isMessage l D A cs ad dm w0 σ its hM) (cwV 1 F.1.2.2.2.2 gX6_parts_X6_isMessage rfl rfl rfl (by decide +kernel) ⟨Nat.le_of_ble_eq_true rfl, Nat.le_of_ble_eq_true rfl⟩) rfl hM.1 rfl rfl rfl rfl (Nat.le_of_ble_eq_true rfl) dX6_parts_3 ⟨Nat.le_of_ble_eq_true rfl, Nat.le_of_ble_eq_true rfl⟩ ?_
  refine g_cut (w2 := (mw ad cs σ w0)) (pc2 := 14) (lv2 := [(0, .ref (ad 0 0)), (1, .int its)]) (st2 := [.int (bi (¬ (inR its 0 ((σ 11 0) - 1)))), .ref (ad 0 0)]) ?_ (fun hJ1 => ?_)
  ·
    refine g_callVi F (C := RX6) (k := 0) (i := 0) (ci := 6) (T := TX6) (N := 33) (rest := []) [.int (bi (¬ (inR its 0 ((σ 11 0) - 1))))] (mc_fails l D A cs ad dm w0 σ (bi (¬ (inR its 0 ((σ 11 0) - 1)))) hM) (cwV 1 F.1.2.2.2.2 gX6_parts_X6_fails rfl rfl rfl (by decide +kernel) ⟨Nat.le_of_ble_eq_true rfl, Nat.le_of_ble_eq_true rfl⟩) rfl hM.1 rfl rfl rfl rfl (Nat.le_of_ble_eq_true rfl) dX6_parts_14 ⟨Nat.le_of_ble_eq_true rfl, Nat.le_of_ble_eq_true rfl⟩ ?_
    refine g_ifb_eq F (tgt := 24) dX6_parts_17 (by decide) (fun c2 => ?_) (fun c2 => ?_)
    ·
      replace c2 := Classical.not_not.mp c2
      have hok := cd_ok1.mp c2
      obtain ⟨hia, hia4⟩ := ix_msg hn hn40 hok
      refine g_aload_n F 0 dX6_parts_24 rfl rfl ?_
      refine g_iload_n F 1 dX6_parts_25 rfl rfl ?_
      refine g_callVi F (C := RX6) (k := 0) (i := 0) (ci := 6) (T := TX6) (N := 33) (rest := []) [.int its] (mc_parted l D A cs ad dm w0 (up2 σ 32 0 (bi (¬ (inR its 0 ((σ 11 0) - 1))))) its (ix its) hM hia (by omega) (by have := hTX (ix its) hia4; simpa [txOK, up2] using this)) (cwV 1 F.1.2.2.2.2 gX6_parts_X6_parted rfl rfl rfl (by decide +kernel) ⟨Nat.le_of_ble_eq_true rfl, Nat.le_of_ble_eq_true rfl⟩) rfl hM.1 rfl rfl rfl rfl (Nat.le_of_ble_eq_true rfl) dX6_parts_26 ⟨Nat.le_of_ble_eq_true rfl, Nat.le_of_ble_eq_true rfl⟩ ?_
      exact g_iret F hr ((if_pos hok).symm) hlocks (fun _ h => by rw [show (mw ad cs (if ((inR its 0 ((σ 11 0) - 1))) then (up2 σ 32 0 (bi (¬ (inR its 0 ((σ 11 0) - 1))))) else (up2 σ 32 0 (bi (¬ (inR its 0 ((σ 11 0) - 1)))))) w0) = (mw ad cs (up2 σ 32 0 (bi (¬ (inR its 0 ((σ 11 0) - 1))))) w0) from (by rw [if_pos hok])]; exact h) dX6_parts_29
    ·
      refine g_iconst F dX6_parts_20 (v := 0) (by decide) ?_
      refine g_goto F (tgt := 29) dX6_parts_21 (by decide) ?_
      exact g_iret F hr ((if_neg (fun q => c2 (cd_ok1.mpr q))).symm) hlocks (fun _ h => by rw [show (mw ad cs (if ((inR its 0 ((σ 11 0) - 1))) then (up2 σ 32 0 (bi (¬ (inR its 0 ((σ 11 0) - 1))))) else (up2 σ 32 0 (bi (¬ (inR its 0 ((σ 11 0) - 1)))))) w0) = (mw ad cs (up2 σ 32 0 (bi (¬ (inR its 0 ((σ 11 0) - 1))))) w0) from (by rw [if_neg (fun q => c2 (cd_ok1.mpr q))])]; exact h) dX6_parts_29
  ·
    refine g_ifb_eq F (tgt := 13) dX6_parts_6 (by decide) (fun c3 => ?_) (fun c3 => ?_)
    ·
      refine g_iconst F dX6_parts_13 (v := 1) (by decide) ?_
      exact g_top (bi_t c3) hJ1
    ·
      refine g_iconst F dX6_parts_9 (v := 0) (by decide) ?_
      refine g_goto F (tgt := 14) dX6_parts_10 (by decide) ?_
      exact g_top (bi_f (fun q => q c3)) hJ1
set_option maxHeartbeats 4000000 in
set_option maxRecDepth 100000 in
theorem mc_due (l : Launch) (D : va_G) (A : Nat → Prop) (cs : Nat → ClassId) (ad : Nat → Nat → Nat) (dm : Nat → Nat → Prop) (w0 : CF) (σ : SG) (its : Int32) (n : Nat) (hM : MD dm) (hn : σ 11 0 = nI n) (hn40 : n ≤ 40) : Met l yX6_due wsX6_due ({ frames := 2, cells := 0, slots := 0, locals := 43 }) (va_Pc [.ref (ad 0 0), .int its] (PW D A (tysG cs) ad dm (mw ad cs σ w0))) (va_Qi (fun r (_ : Unit) => r = (if ((inR its 0 ((σ 11 0) - 1)) ∧ ((σ 23 (ix its)) = 0)) then (σ 26 (ix its)) else 0)) (fun _ t => PW D A (tysG cs) ad dm (mw ad cs (if ((inR its 0 ((σ 11 0) - 1)) ∧ ((σ 23 (ix its)) = 0)) then (up2 σ 32 0 (if inR its 0 ((σ 11 0) - 1) then (if (σ 23 (ix its)) = 0 then 0 else 2) else 1 : Int32)) else (up2 σ 32 0 (if inR its 0 ((σ 11 0) - 1) then (if (σ 23 (ix its)) = 0 then 0 else 2) else 1 : Int32))) w0) t) A) 0 0 A := by
  refine g_start (own := RX6) [.ref (ad 0 0), .int its] (cc := cX6_due) (maxL := 3) (ret := (some .int)) (lv0 := [(0, .ref (ad 0 0)), (1, .int its)]) (by decide) rfl rfl (Nat.le_of_ble_eq_true rfl) rfl ?_
  intro p e s m below meth c F hr hlocks hname
  have hin : ∀ w ∈ wsX60, w ∈ wsX6_due := by decide +kernel
  refine g_aload_n F 0 dX6_due_0 rfl rfl ?_
  refine g_iload_n F 1 dX6_due_1 rfl rfl ?_
  refine g_callVi F (C := RX6) (k := 0) (i := 0) (ci := 6) (T := TX6) (N := 33) (rest := []) [.int its] (mc_isMessage l D A cs ad dm w0 σ its hM) (cwV 1 F.1.2.2.2.2 gX6_due_X6_isMessage rfl rfl rfl (by decide +kernel) ⟨Nat.le_of_ble_eq_true rfl, Nat.le_of_ble_eq_true rfl⟩) rfl hM.1 rfl rfl rfl rfl (Nat.le_of_ble_eq_true rfl) dX6_due_2 ⟨Nat.le_of_ble_eq_true rfl, Nat.le_of_ble_eq_true rfl⟩ ?_
  refine g_istore_n F (lv1 := [(2, .int (bi (inR its 0 ((σ 11 0) - 1)))), (0, .ref (ad 0 0)), (1, .int its)]) dX6_due_5 rfl (by decide) rfl ?_
  refine g_aload_n F 1 dX6_due_6 rfl rfl ?_
  refine g_iload_n F 0 dX6_due_7 rfl rfl ?_
  refine g_cut (w2 := (mw ad cs σ w0)) (pc2 := 29) (lv2 := [(2, .int (bi (inR its 0 ((σ 11 0) - 1)))), (0, .ref (ad 0 0)), (1, .int its)]) (st2 := [.int (if inR its 0 ((σ 11 0) - 1) then (if (σ 23 (ix its)) = 0 then 0 else 2) else 1 : Int32), .ref (ad 0 0)]) ?_ (fun hJ1 => ?_)
  ·
    refine g_callVi F (C := RX6) (k := 0) (i := 0) (ci := 6) (T := TX6) (N := 33) (rest := []) [.int (if inR its 0 ((σ 11 0) - 1) then (if (σ 23 (ix its)) = 0 then 0 else 2) else 1 : Int32)] (mc_fails l D A cs ad dm w0 σ (if inR its 0 ((σ 11 0) - 1) then (if (σ 23 (ix its)) = 0 then 0 else 2) else 1 : Int32) hM) (cwV 1 F.1.2.2.2.2 gX6_due_X6_fails rfl rfl rfl (by decide +kernel) ⟨Nat.le_of_ble_eq_true rfl, Nat.le_of_ble_eq_true rfl⟩) rfl hM.1 rfl rfl rfl rfl (Nat.le_of_ble_eq_true rfl) dX6_due_29 ⟨Nat.le_of_ble_eq_true rfl, Nat.le_of_ble_eq_true rfl⟩ ?_
    refine g_ifb_eq F (tgt := 39) dX6_due_32 (by decide) (fun c2 => ?_) (fun c2 => ?_)
    ·
      replace c2 := Classical.not_not.mp c2
      have hok := cd_ok.mp c2
      obtain ⟨hia, hia4⟩ := ix_msg hn hn40 hok.1
      refine g_aload_n F 1 dX6_due_39 rfl rfl ?_
      refine mg_get F hM hin 26 (by decide) rfl (by decide +kernel) rfl dX6_due_40 ?_
      refine g_iload_n F 2 dX6_due_43 rfl rfl ?_
      refine mg_ald F hM 26 rfl hia (show (ix its) < 40 by omega) (v := (σ 26 (ix its))) ((up2_ne _ _ (fun h => absurd h.1 (by decide))).trans rfl) dX6_due_44 ?_
      exact g_iret F hr ((if_pos hok).symm) hlocks (fun _ h => by rw [show (mw ad cs (if ((inR its 0 ((σ 11 0) - 1)) ∧ ((σ 23 (ix its)) = 0)) then (up2 σ 32 0 (if inR its 0 ((σ 11 0) - 1) then (if (σ 23 (ix its)) = 0 then 0 else 2) else 1 : Int32)) else (up2 σ 32 0 (if inR its 0 ((σ 11 0) - 1) then (if (σ 23 (ix its)) = 0 then 0 else 2) else 1 : Int32))) w0) = (mw ad cs (up2 σ 32 0 (if inR its 0 ((σ 11 0) - 1) then (if (σ 23 (ix its)) = 0 then 0 else 2) else 1 : Int32)) w0) from (by rw [if_pos hok])]; exact h) dX6_due_45
    ·
      refine g_iconst F dX6_due_35 (v := 0) (by decide) ?_
      refine g_goto F (tgt := 45) dX6_due_36 (by decide) ?_
      exact g_iret F hr ((if_neg (fun q => c2 (cd_ok.mpr q))).symm) hlocks (fun _ h => by rw [show (mw ad cs (if ((inR its 0 ((σ 11 0) - 1)) ∧ ((σ 23 (ix its)) = 0)) then (up2 σ 32 0 (if inR its 0 ((σ 11 0) - 1) then (if (σ 23 (ix its)) = 0 then 0 else 2) else 1 : Int32)) else (up2 σ 32 0 (if inR its 0 ((σ 11 0) - 1) then (if (σ 23 (ix its)) = 0 then 0 else 2) else 1 : Int32))) w0) = (mw ad cs (up2 σ 32 0 (if inR its 0 ((σ 11 0) - 1) then (if (σ 23 (ix its)) = 0 then 0 else 2) else 1 : Int32)) w0) from (by rw [if_neg (fun q => c2 (cd_ok.mpr q))])]; exact h) dX6_due_45
  ·
    refine g_ifb_ne F (tgt := 15) dX6_due_8 (by decide) (fun c3 => ?_) (fun c3 => ?_)
    ·
      refine g_aload_n F 1 dX6_due_15 rfl rfl ?_
      refine mg_get F hM hin 23 (by decide) rfl (by decide +kernel) rfl dX6_due_16 ?_
      refine g_iload_n F 2 dX6_due_19 rfl rfl ?_
      refine mg_ald F hM 23 rfl (ix_msg hn hn40 ‹inR its 0 ((σ 11 0) - 1)›).1 (Nat.lt_of_lt_of_le (ix_msg hn hn40 ‹inR its 0 ((σ 11 0) - 1)›).2 hn40) (v := (σ 23 (ix its))) rfl dX6_due_20 ?_
      refine g_if_ne F (tgt := 28) dX6_due_21 (by decide) (fun c4 => ?_) (fun c4 => ?_)
      ·
        refine g_iconst F dX6_due_28 (v := 2) (by decide) ?_
        exact g_top (by rw [if_pos c3, if_neg c4]) hJ1
      ·
        refine g_iconst F dX6_due_24 (v := 0) (by decide) ?_
        refine g_goto F (tgt := 29) dX6_due_25 (by decide) ?_
        exact g_top (by rw [if_pos c3, if_pos c4]) hJ1
    ·
      refine g_iconst F dX6_due_11 (v := 1) (by decide) ?_
      refine g_goto F (tgt := 29) dX6_due_12 (by decide) ?_
      exact g_top (by rw [if_neg c3]) hJ1
set_option maxHeartbeats 4000000 in
set_option maxRecDepth 100000 in
theorem mc_delete (l : Launch) (D : va_G) (A : Nat → Prop) (cs : Nat → ClassId) (ad : Nat → Nat → Nat) (dm : Nat → Nat → Prop) (w0 : CF) (σ : SG) (its : Int32) (n : Nat) (hM : MD dm) (hn : σ 11 0 = nI n) (hn40 : n ≤ 40) (hOK : ∀ j, j < n → (σ 23 j) = 0 → enOK σ j) : Met l yX6_delete wsX6_delete ({ frames := 2, cells := 0, slots := 0, locals := 43 }) (va_Pc [.ref (ad 0 0), .int its] (PW D A (tysG cs) ad dm (mw ad cs σ w0))) (va_Qi (fun r (_ : Unit) => r = (if ((inR its 0 ((σ 11 0) - 1)) ∧ ((σ 23 (ix its)) = 0)) then ((enS (up2 σ 32 0 (if inR its 0 ((σ 11 0) - 1) then (if (σ 23 (ix its)) = 0 then 0 else 2) else 1 : Int32)) (ix its) its 3) 24 (ix its)) else 0)) (fun _ t => PW D A (tysG cs) ad dm (mw ad cs (if ((inR its 0 ((σ 11 0) - 1)) ∧ ((σ 23 (ix its)) = 0)) then (enS (up2 σ 32 0 (if inR its 0 ((σ 11 0) - 1) then (if (σ 23 (ix its)) = 0 then 0 else 2) else 1 : Int32)) (ix its) its 3) else (up2 σ 32 0 (if inR its 0 ((σ 11 0) - 1) then (if (σ 23 (ix its)) = 0 then 0 else 2) else 1 : Int32))) w0) t) A) 0 0 A := by
  refine g_start (own := RX6) [.ref (ad 0 0), .int its] (cc := cX6_delete) (maxL := 3) (ret := (some .int)) (lv0 := [(0, .ref (ad 0 0)), (1, .int its)]) (by decide) rfl rfl (Nat.le_of_ble_eq_true rfl) rfl ?_
  intro p e s m below meth c F hr hlocks hname
  have hin : ∀ w ∈ wsX60, w ∈ wsX6_delete := by decide +kernel
  refine g_aload_n F 0 dX6_delete_0 rfl rfl ?_
  refine g_iload_n F 1 dX6_delete_1 rfl rfl ?_
  refine g_callVi F (C := RX6) (k := 0) (i := 0) (ci := 6) (T := TX6) (N := 33) (rest := []) [.int its] (mc_isMessage l D A cs ad dm w0 σ its hM) (cwV 1 F.1.2.2.2.2 gX6_delete_X6_isMessage rfl rfl rfl (by decide +kernel) ⟨Nat.le_of_ble_eq_true rfl, Nat.le_of_ble_eq_true rfl⟩) rfl hM.1 rfl rfl rfl rfl (Nat.le_of_ble_eq_true rfl) dX6_delete_2 ⟨Nat.le_of_ble_eq_true rfl, Nat.le_of_ble_eq_true rfl⟩ ?_
  refine g_istore_n F (lv1 := [(2, .int (bi (inR its 0 ((σ 11 0) - 1)))), (0, .ref (ad 0 0)), (1, .int its)]) dX6_delete_5 rfl (by decide) rfl ?_
  refine g_aload_n F 1 dX6_delete_6 rfl rfl ?_
  refine g_iload_n F 0 dX6_delete_7 rfl rfl ?_
  refine g_cut (w2 := (mw ad cs σ w0)) (pc2 := 29) (lv2 := [(2, .int (bi (inR its 0 ((σ 11 0) - 1)))), (0, .ref (ad 0 0)), (1, .int its)]) (st2 := [.int (if inR its 0 ((σ 11 0) - 1) then (if (σ 23 (ix its)) = 0 then 0 else 2) else 1 : Int32), .ref (ad 0 0)]) ?_ (fun hJ1 => ?_)
  ·
    refine g_callVi F (C := RX6) (k := 0) (i := 0) (ci := 6) (T := TX6) (N := 33) (rest := []) [.int (if inR its 0 ((σ 11 0) - 1) then (if (σ 23 (ix its)) = 0 then 0 else 2) else 1 : Int32)] (mc_fails l D A cs ad dm w0 σ (if inR its 0 ((σ 11 0) - 1) then (if (σ 23 (ix its)) = 0 then 0 else 2) else 1 : Int32) hM) (cwV 1 F.1.2.2.2.2 gX6_delete_X6_fails rfl rfl rfl (by decide +kernel) ⟨Nat.le_of_ble_eq_true rfl, Nat.le_of_ble_eq_true rfl⟩) rfl hM.1 rfl rfl rfl rfl (Nat.le_of_ble_eq_true rfl) dX6_delete_29 ⟨Nat.le_of_ble_eq_true rfl, Nat.le_of_ble_eq_true rfl⟩ ?_
    refine g_ifb_eq F (tgt := 37) dX6_delete_32 (by decide) (fun c2 => ?_) (fun c2 => ?_)
    ·
      replace c2 := Classical.not_not.mp c2
      have hok := cd_ok.mp c2
      obtain ⟨hia, hia4⟩ := ix_msg hn hn40 hok.1
      refine g_aload_n F 1 dX6_delete_37 rfl rfl ?_
      refine g_iload_n F 2 dX6_delete_38 rfl rfl ?_
      refine g_iconst F dX6_delete_39 (v := 3) (by decide) ?_
      refine g_callVv F (C := RX6) (k := 0) (i := 0) (ci := 6) (T := TX6) (N := 33) (rest := []) [.int its, .int 3] (mc_ends l D A cs ad dm w0 (up2 σ 32 0 (if inR its 0 ((σ 11 0) - 1) then (if (σ 23 (ix its)) = 0 then 0 else 2) else 1 : Int32)) its 3 (ix its) hM hia (by omega) (by have := hOK (ix its) hia4 hok.2; simpa [enOK, rcA, rcN, up2] using this)) (cwV 2 F.1.2.2.2.2 gX6_delete_X6_ends rfl rfl rfl (by decide +kernel) ⟨Nat.le_of_ble_eq_true rfl, Nat.le_of_ble_eq_true rfl⟩) rfl hM.1 rfl rfl rfl rfl (Nat.le_of_ble_eq_true rfl) dX6_delete_40 ⟨Nat.le_of_ble_eq_true rfl, Nat.le_of_ble_eq_true rfl⟩ ?_
      refine g_aload_n F 1 dX6_delete_43 rfl rfl ?_
      refine mg_get F hM hin 24 (by decide) rfl (by decide +kernel) rfl dX6_delete_44 ?_
      refine g_iload_n F 2 dX6_delete_47 rfl rfl ?_
      refine mg_ald F hM 24 rfl hia (show (ix its) < 40 by omega) (v := ((enS (up2 σ 32 0 (if inR its 0 ((σ 11 0) - 1) then (if (σ 23 (ix its)) = 0 then 0 else 2) else 1 : Int32)) (ix its) its 3) 24 (ix its))) rfl dX6_delete_48 ?_
      exact g_iret F hr ((if_pos hok).symm) hlocks (fun _ h => by rw [show (mw ad cs (if ((inR its 0 ((σ 11 0) - 1)) ∧ ((σ 23 (ix its)) = 0)) then (enS (up2 σ 32 0 (if inR its 0 ((σ 11 0) - 1) then (if (σ 23 (ix its)) = 0 then 0 else 2) else 1 : Int32)) (ix its) its 3) else (up2 σ 32 0 (if inR its 0 ((σ 11 0) - 1) then (if (σ 23 (ix its)) = 0 then 0 else 2) else 1 : Int32))) w0) = (mw ad cs (enS (up2 σ 32 0 (if inR its 0 ((σ 11 0) - 1) then (if (σ 23 (ix its)) = 0 then 0 else 2) else 1 : Int32)) (ix its) its 3) w0) from (by rw [if_pos hok])]; exact h) dX6_delete_49
    ·
      refine g_iconst F dX6_delete_35 (v := 0) (by decide) ?_
      exact g_iret F hr ((if_neg (fun q => c2 (cd_ok.mpr q))).symm) hlocks (fun _ h => by rw [show (mw ad cs (if ((inR its 0 ((σ 11 0) - 1)) ∧ ((σ 23 (ix its)) = 0)) then (enS (up2 σ 32 0 (if inR its 0 ((σ 11 0) - 1) then (if (σ 23 (ix its)) = 0 then 0 else 2) else 1 : Int32)) (ix its) its 3) else (up2 σ 32 0 (if inR its 0 ((σ 11 0) - 1) then (if (σ 23 (ix its)) = 0 then 0 else 2) else 1 : Int32))) w0) = (mw ad cs (up2 σ 32 0 (if inR its 0 ((σ 11 0) - 1) then (if (σ 23 (ix its)) = 0 then 0 else 2) else 1 : Int32)) w0) from (by rw [if_neg (fun q => c2 (cd_ok.mpr q))])]; exact h) dX6_delete_36
  ·
    refine g_ifb_ne F (tgt := 15) dX6_delete_8 (by decide) (fun c3 => ?_) (fun c3 => ?_)
    ·
      refine g_aload_n F 1 dX6_delete_15 rfl rfl ?_
      refine mg_get F hM hin 23 (by decide) rfl (by decide +kernel) rfl dX6_delete_16 ?_
      refine g_iload_n F 2 dX6_delete_19 rfl rfl ?_
      refine mg_ald F hM 23 rfl (ix_msg hn hn40 ‹inR its 0 ((σ 11 0) - 1)›).1 (Nat.lt_of_lt_of_le (ix_msg hn hn40 ‹inR its 0 ((σ 11 0) - 1)›).2 hn40) (v := (σ 23 (ix its))) rfl dX6_delete_20 ?_
      refine g_if_ne F (tgt := 28) dX6_delete_21 (by decide) (fun c4 => ?_) (fun c4 => ?_)
      ·
        refine g_iconst F dX6_delete_28 (v := 2) (by decide) ?_
        exact g_top (by rw [if_pos c3, if_neg c4]) hJ1
      ·
        refine g_iconst F dX6_delete_24 (v := 0) (by decide) ?_
        refine g_goto F (tgt := 29) dX6_delete_25 (by decide) ?_
        exact g_top (by rw [if_pos c3, if_pos c4]) hJ1
    ·
      refine g_iconst F dX6_delete_11 (v := 1) (by decide) ?_
      refine g_goto F (tgt := 29) dX6_delete_12 (by decide) ?_
      exact g_top (by rw [if_neg c3]) hJ1
set_option maxHeartbeats 4000000 in
set_option maxRecDepth 100000 in
theorem mc_setMode (l : Launch) (D : va_G) (A : Nat → Prop) (cs : Nat → ClassId) (ad : Nat → Nat → Nat) (dm : Nat → Nat → Prop) (w0 : CF) (σ : SG) (its to : Int32) (n : Nat) (hM : MD dm) (hn : σ 11 0 = nI n) (hn40 : n ≤ 40) : Met l yX6_setMode wsX6_setMode ({ frames := 2, cells := 0, slots := 0, locals := 45 }) (va_Pc [.ref (ad 0 0), .int its, .int to] (PW D A (tysG cs) ad dm (mw ad cs σ w0))) (va_Qi (fun r (_ : Unit) => r = (if ((recP its) ∧ (inR to 0 3)) then (σ 28 (ix its)) else 0)) (fun _ t => PW D A (tysG cs) ad dm (mw ad cs (if ((recP its) ∧ (inR to 0 3)) then (if to = 0 then (wkS (up2 (up2 σ 32 0 (if recP its then (if inR to 0 3 then 0 else 2) else 1 : Int32)) 28 (ix its) to) (ix its) its 1 n) else (up2 (up2 σ 32 0 (if recP its then (if inR to 0 3 then 0 else 2) else 1 : Int32)) 28 (ix its) to)) else (up2 σ 32 0 (if recP its then (if inR to 0 3 then 0 else 2) else 1 : Int32))) w0) t) A) 0 0 A := by
  refine g_start (own := RX6) [.ref (ad 0 0), .int its, .int to] (cc := cX6_setMode) (maxL := 4) (ret := (some .int)) (lv0 := [(0, .ref (ad 0 0)), (1, .int its), (2, .int to)]) (by decide) rfl rfl (Nat.le_of_ble_eq_true rfl) rfl ?_
  intro p e s m below meth c F hr hlocks hname
  have hin : ∀ w ∈ wsX60, w ∈ wsX6_setMode := by decide +kernel
  refine g_aload_n F 0 dX6_setMode_0 rfl rfl ?_
  refine g_iload_n F 1 dX6_setMode_1 rfl rfl ?_
  refine g_callSi F (rest := [.ref (ad 0 0)]) [.int its] (mc_isRecipient l D A cs ad dm (mw ad cs σ w0) its) (va_cwS 1 F.1.2.2.2.2 gX6_setMode_X6_isRecipient rfl rfl rfl (by decide +kernel) ⟨Nat.le_of_ble_eq_true rfl, Nat.le_of_ble_eq_true rfl⟩) rfl rfl (Nat.le_of_ble_eq_true rfl) dX6_setMode_2 ⟨Nat.le_of_ble_eq_true rfl, Nat.le_of_ble_eq_true rfl⟩ ?_
  refine g_cut (w2 := (mw ad cs σ w0)) (pc2 := 26) (lv2 := [(0, .ref (ad 0 0)), (1, .int its), (2, .int to)]) (st2 := [.int (if recP its then (if inR to 0 3 then 0 else 2) else 1 : Int32), .ref (ad 0 0)]) ?_ (fun hJ1 => ?_)
  ·
    refine g_callVi F (C := RX6) (k := 0) (i := 0) (ci := 6) (T := TX6) (N := 33) (rest := []) [.int (if recP its then (if inR to 0 3 then 0 else 2) else 1 : Int32)] (mc_fails l D A cs ad dm w0 σ (if recP its then (if inR to 0 3 then 0 else 2) else 1 : Int32) hM) (cwV 1 F.1.2.2.2.2 gX6_setMode_X6_fails rfl rfl rfl (by decide +kernel) ⟨Nat.le_of_ble_eq_true rfl, Nat.le_of_ble_eq_true rfl⟩) rfl hM.1 rfl rfl rfl rfl (Nat.le_of_ble_eq_true rfl) dX6_setMode_26 ⟨Nat.le_of_ble_eq_true rfl, Nat.le_of_ble_eq_true rfl⟩ ?_
    refine g_ifb_eq F (tgt := 34) dX6_setMode_29 (by decide) (fun c2 => ?_) (fun c2 => ?_)
    ·
      replace c2 := Classical.not_not.mp c2
      have hok := cd_ok.mp c2
      obtain ⟨hia, hia4⟩ := ix_rec hok.1
      refine g_aload_n F 0 dX6_setMode_34 rfl rfl ?_
      refine mg_get F hM hin 28 (by decide) rfl (by decide +kernel) rfl dX6_setMode_35 ?_
      refine g_iload_n F 1 dX6_setMode_38 rfl rfl ?_
      refine mg_ald F hM 28 rfl hia (show (ix its) < 6 by omega) (v := (σ 28 (ix its))) ((up2_ne _ _ (fun h => absurd h.1 (by decide))).trans rfl) dX6_setMode_39 ?_
      refine g_istore_n F (lv1 := [(3, .int (σ 28 (ix its))), (0, .ref (ad 0 0)), (1, .int its), (2, .int to)]) dX6_setMode_40 rfl (by decide) rfl ?_
      refine g_aload_n F 1 dX6_setMode_41 rfl rfl ?_
      refine mg_get F hM hin 28 (by decide) rfl (by decide +kernel) rfl dX6_setMode_42 ?_
      refine g_iload_n F 2 dX6_setMode_45 rfl rfl ?_
      refine g_iload_n F 3 dX6_setMode_46 rfl rfl ?_
      refine mg_ast F hM 28 rfl hia (show (ix its) < 6 by omega) dX6_setMode_47 ?_
      refine g_iload_n F 3 dX6_setMode_48 rfl rfl ?_
      refine g_if_ne F (tgt := 58) dX6_setMode_49 (by decide) (fun c3 => ?_) (fun c3 => ?_)
      ·
        refine g_iload_n F 0 dX6_setMode_58 rfl rfl ?_
        exact g_iret F hr ((if_pos hok).symm) hlocks (fun _ h => by rw [show (mw ad cs (if ((recP its) ∧ (inR to 0 3)) then (if to = 0 then (wkS (up2 (up2 σ 32 0 (if recP its then (if inR to 0 3 then 0 else 2) else 1 : Int32)) 28 (ix its) to) (ix its) its 1 n) else (up2 (up2 σ 32 0 (if recP its then (if inR to 0 3 then 0 else 2) else 1 : Int32)) 28 (ix its) to)) else (up2 σ 32 0 (if recP its then (if inR to 0 3 then 0 else 2) else 1 : Int32))) w0) = (mw ad cs (up2 (up2 σ 32 0 (if recP its then (if inR to 0 3 then 0 else 2) else 1 : Int32)) 28 (ix its) to) w0) from (by rw [if_pos hok, if_neg c3])]; exact h) dX6_setMode_59
      ·
        refine g_aload_n F 1 dX6_setMode_52 rfl rfl ?_
        refine g_iload_n F 2 dX6_setMode_53 rfl rfl ?_
        refine g_iconst F dX6_setMode_54 (v := 1) (by decide) ?_
        refine g_callVv F (C := RX6) (k := 0) (i := 0) (ci := 6) (T := TX6) (N := 33) (rest := []) [.int its, .int 1] (mc_wakes l D A cs ad dm w0 (up2 (up2 σ 32 0 (if recP its then (if inR to 0 3 then 0 else 2) else 1 : Int32)) 28 (ix its) to) its 1 (ix its) n hM (by first | exact hn | (simp only [up2]; exact hn) | (simp [up2]; exact hn)) hn40 hia (by omega)) (cwV 2 F.1.2.2.2.2 gX6_setMode_X6_wakes rfl rfl rfl (by decide +kernel) ⟨Nat.le_of_ble_eq_true rfl, Nat.le_of_ble_eq_true rfl⟩) rfl hM.1 rfl rfl rfl rfl (Nat.le_of_ble_eq_true rfl) dX6_setMode_55 ⟨Nat.le_of_ble_eq_true rfl, Nat.le_of_ble_eq_true rfl⟩ ?_
        refine g_iload_n F 0 dX6_setMode_58 rfl rfl ?_
        exact g_iret F hr ((if_pos hok).symm) hlocks (fun _ h => by rw [show (mw ad cs (if ((recP its) ∧ (inR to 0 3)) then (if to = 0 then (wkS (up2 (up2 σ 32 0 (if recP its then (if inR to 0 3 then 0 else 2) else 1 : Int32)) 28 (ix its) to) (ix its) its 1 n) else (up2 (up2 σ 32 0 (if recP its then (if inR to 0 3 then 0 else 2) else 1 : Int32)) 28 (ix its) to)) else (up2 σ 32 0 (if recP its then (if inR to 0 3 then 0 else 2) else 1 : Int32))) w0) = (mw ad cs (wkS (up2 (up2 σ 32 0 (if recP its then (if inR to 0 3 then 0 else 2) else 1 : Int32)) 28 (ix its) to) (ix its) its 1 n) w0) from (by rw [if_pos hok, if_pos c3])]; exact h) dX6_setMode_59
    ·
      refine g_iconst F dX6_setMode_32 (v := 0) (by decide) ?_
      exact g_iret F hr ((if_neg (fun q => c2 (cd_ok.mpr q))).symm) hlocks (fun _ h => by rw [show (mw ad cs (if ((recP its) ∧ (inR to 0 3)) then (if to = 0 then (wkS (up2 (up2 σ 32 0 (if recP its then (if inR to 0 3 then 0 else 2) else 1 : Int32)) 28 (ix its) to) (ix its) its 1 n) else (up2 (up2 σ 32 0 (if recP its then (if inR to 0 3 then 0 else 2) else 1 : Int32)) 28 (ix its) to)) else (up2 σ 32 0 (if recP its then (if inR to 0 3 then 0 else 2) else 1 : Int32))) w0) = (mw ad cs (up2 σ 32 0 (if recP its then (if inR to 0 3 then 0 else 2) else 1 : Int32)) w0) from (by rw [if_neg (fun q => c2 (cd_ok.mpr q))])]; exact h) dX6_setMode_33
  ·
    refine g_ifb_ne F (tgt := 12) dX6_setMode_5 (by decide) (fun c4 => ?_) (fun c4 => ?_)
    ·
      refine g_iload_n F 2 dX6_setMode_12 rfl rfl ?_
      refine g_iconst F dX6_setMode_13 (v := 0) (by decide) ?_
      refine g_iconst F dX6_setMode_14 (v := 3) (by decide) ?_
      refine g_callSi F (rest := [.ref (ad 0 0)]) [.int to, .int 0, .int 3] (mc_isIn l D A cs ad dm (mw ad cs σ w0) to 0 3) (va_cwS 3 F.1.2.2.2.2 gX6_setMode_X6_isIn rfl rfl rfl (by decide +kernel) ⟨Nat.le_of_ble_eq_true rfl, Nat.le_of_ble_eq_true rfl⟩) rfl rfl (Nat.le_of_ble_eq_true rfl) dX6_setMode_15 ⟨Nat.le_of_ble_eq_true rfl, Nat.le_of_ble_eq_true rfl⟩ ?_
      refine g_ifb_eq F (tgt := 25) dX6_setMode_18 (by decide) (fun c5 => ?_) (fun c5 => ?_)
      ·
        refine g_iconst F dX6_setMode_25 (v := 2) (by decide) ?_
        exact g_top (by rw [if_pos c4, if_neg c5]) hJ1
      ·
        refine g_iconst F dX6_setMode_21 (v := 0) (by decide) ?_
        refine g_goto F (tgt := 26) dX6_setMode_22 (by decide) ?_
        exact g_top (by rw [if_pos c4, if_pos c5]) hJ1
    ·
      refine g_iconst F dX6_setMode_8 (v := 1) (by decide) ?_
      refine g_goto F (tgt := 26) dX6_setMode_9 (by decide) ?_
      exact g_top (by rw [if_neg c4]) hJ1
set_option maxHeartbeats 4000000 in
set_option maxRecDepth 100000 in
theorem mc_setRoom (l : Launch) (D : va_G) (A : Nat → Prop) (cs : Nat → ClassId) (ad : Nat → Nat → Nat) (dm : Nat → Nat → Prop) (w0 : CF) (σ : SG) (its to : Int32) (n : Nat) (hM : MD dm) (hn : σ 11 0 = nI n) (hn40 : n ≤ 40) : Met l yX6_setRoom wsX6_setRoom ({ frames := 3, cells := 0, slots := 0, locals := 66 }) (va_Pc [.ref (ad 0 0), .int its, .int to] (PW D A (tysG cs) ad dm (mw ad cs σ w0))) (va_Qi (fun r (_ : Unit) => r = (if ((recP its) ∧ (inR to 0 50)) then (σ 29 (ix its)) else 0)) (fun _ t => PW D A (tysG cs) ad dm (mw ad cs (if ((recP its) ∧ (inR to 0 50)) then (lkS (up2 (up2 σ 32 0 (if recP its then (if inR to 0 50 then 0 else 2) else 1 : Int32)) 29 (ix its) to) (ix its) its n) else (up2 σ 32 0 (if recP its then (if inR to 0 50 then 0 else 2) else 1 : Int32))) w0) t) A) 0 0 A := by
  refine g_start (own := RX6) [.ref (ad 0 0), .int its, .int to] (cc := cX6_setRoom) (maxL := 4) (ret := (some .int)) (lv0 := [(0, .ref (ad 0 0)), (1, .int its), (2, .int to)]) (by decide) rfl rfl (Nat.le_of_ble_eq_true rfl) rfl ?_
  intro p e s m below meth c F hr hlocks hname
  have hin : ∀ w ∈ wsX60, w ∈ wsX6_setRoom := by decide +kernel
  refine g_aload_n F 0 dX6_setRoom_0 rfl rfl ?_
  refine g_iload_n F 1 dX6_setRoom_1 rfl rfl ?_
  refine g_callSi F (rest := [.ref (ad 0 0)]) [.int its] (mc_isRecipient l D A cs ad dm (mw ad cs σ w0) its) (va_cwS 1 F.1.2.2.2.2 gX6_setRoom_X6_isRecipient rfl rfl rfl (by decide +kernel) ⟨Nat.le_of_ble_eq_true rfl, Nat.le_of_ble_eq_true rfl⟩) rfl rfl (Nat.le_of_ble_eq_true rfl) dX6_setRoom_2 ⟨Nat.le_of_ble_eq_true rfl, Nat.le_of_ble_eq_true rfl⟩ ?_
  refine g_cut (w2 := (mw ad cs σ w0)) (pc2 := 27) (lv2 := [(0, .ref (ad 0 0)), (1, .int its), (2, .int to)]) (st2 := [.int (if recP its then (if inR to 0 50 then 0 else 2) else 1 : Int32), .ref (ad 0 0)]) ?_ (fun hJ1 => ?_)
  ·
    refine g_callVi F (C := RX6) (k := 0) (i := 0) (ci := 6) (T := TX6) (N := 33) (rest := []) [.int (if recP its then (if inR to 0 50 then 0 else 2) else 1 : Int32)] (mc_fails l D A cs ad dm w0 σ (if recP its then (if inR to 0 50 then 0 else 2) else 1 : Int32) hM) (cwV 1 F.1.2.2.2.2 gX6_setRoom_X6_fails rfl rfl rfl (by decide +kernel) ⟨Nat.le_of_ble_eq_true rfl, Nat.le_of_ble_eq_true rfl⟩) rfl hM.1 rfl rfl rfl rfl (Nat.le_of_ble_eq_true rfl) dX6_setRoom_27 ⟨Nat.le_of_ble_eq_true rfl, Nat.le_of_ble_eq_true rfl⟩ ?_
    refine g_ifb_eq F (tgt := 35) dX6_setRoom_30 (by decide) (fun c2 => ?_) (fun c2 => ?_)
    ·
      replace c2 := Classical.not_not.mp c2
      have hok := cd_ok.mp c2
      obtain ⟨hia, hia4⟩ := ix_rec hok.1
      refine g_aload_n F 0 dX6_setRoom_35 rfl rfl ?_
      refine mg_get F hM hin 29 (by decide) rfl (by decide +kernel) rfl dX6_setRoom_36 ?_
      refine g_iload_n F 1 dX6_setRoom_39 rfl rfl ?_
      refine mg_ald F hM 29 rfl hia (show (ix its) < 6 by omega) (v := (σ 29 (ix its))) ((up2_ne _ _ (fun h => absurd h.1 (by decide))).trans rfl) dX6_setRoom_40 ?_
      refine g_istore_n F (lv1 := [(3, .int (σ 29 (ix its))), (0, .ref (ad 0 0)), (1, .int its), (2, .int to)]) dX6_setRoom_41 rfl (by decide) rfl ?_
      refine g_aload_n F 1 dX6_setRoom_42 rfl rfl ?_
      refine mg_get F hM hin 29 (by decide) rfl (by decide +kernel) rfl dX6_setRoom_43 ?_
      refine g_iload_n F 2 dX6_setRoom_46 rfl rfl ?_
      refine g_iload_n F 3 dX6_setRoom_47 rfl rfl ?_
      refine mg_ast F hM 29 rfl hia (show (ix its) < 6 by omega) dX6_setRoom_48 ?_
      refine g_aload_n F 1 dX6_setRoom_49 rfl rfl ?_
      refine g_iload_n F 2 dX6_setRoom_50 rfl rfl ?_
      refine g_callVv F (C := RX6) (k := 0) (i := 0) (ci := 6) (T := TX6) (N := 33) (rest := []) [.int its] (mc_looks l D A cs ad dm w0 (up2 (up2 σ 32 0 (if recP its then (if inR to 0 50 then 0 else 2) else 1 : Int32)) 29 (ix its) to) its (ix its) n hM (by first | exact hn | (simp only [up2]; exact hn) | (simp [up2]; exact hn)) hn40 hia (by omega)) (cwV 1 F.1.2.2.2.2 gX6_setRoom_X6_looks rfl rfl rfl (by decide +kernel) ⟨Nat.le_of_ble_eq_true rfl, Nat.le_of_ble_eq_true rfl⟩) rfl hM.1 rfl rfl rfl rfl (Nat.le_of_ble_eq_true rfl) dX6_setRoom_51 ⟨Nat.le_of_ble_eq_true rfl, Nat.le_of_ble_eq_true rfl⟩ ?_
      refine g_iload_n F 0 dX6_setRoom_54 rfl rfl ?_
      exact g_iret F hr ((if_pos hok).symm) hlocks (fun _ h => by rw [show (mw ad cs (if ((recP its) ∧ (inR to 0 50)) then (lkS (up2 (up2 σ 32 0 (if recP its then (if inR to 0 50 then 0 else 2) else 1 : Int32)) 29 (ix its) to) (ix its) its n) else (up2 σ 32 0 (if recP its then (if inR to 0 50 then 0 else 2) else 1 : Int32))) w0) = (mw ad cs (lkS (up2 (up2 σ 32 0 (if recP its then (if inR to 0 50 then 0 else 2) else 1 : Int32)) 29 (ix its) to) (ix its) its n) w0) from (by rw [if_pos hok])]; exact h) dX6_setRoom_55
    ·
      refine g_iconst F dX6_setRoom_33 (v := 0) (by decide) ?_
      exact g_iret F hr ((if_neg (fun q => c2 (cd_ok.mpr q))).symm) hlocks (fun _ h => by rw [show (mw ad cs (if ((recP its) ∧ (inR to 0 50)) then (lkS (up2 (up2 σ 32 0 (if recP its then (if inR to 0 50 then 0 else 2) else 1 : Int32)) 29 (ix its) to) (ix its) its n) else (up2 σ 32 0 (if recP its then (if inR to 0 50 then 0 else 2) else 1 : Int32))) w0) = (mw ad cs (up2 σ 32 0 (if recP its then (if inR to 0 50 then 0 else 2) else 1 : Int32)) w0) from (by rw [if_neg (fun q => c2 (cd_ok.mpr q))])]; exact h) dX6_setRoom_34
  ·
    refine g_ifb_ne F (tgt := 12) dX6_setRoom_5 (by decide) (fun c3 => ?_) (fun c3 => ?_)
    ·
      refine g_iload_n F 2 dX6_setRoom_12 rfl rfl ?_
      refine g_iconst F dX6_setRoom_13 (v := 0) (by decide) ?_
      refine g_bipush F dX6_setRoom_14 (v := 50) (by decide) ?_
      refine g_callSi F (rest := [.ref (ad 0 0)]) [.int to, .int 0, .int 50] (mc_isIn l D A cs ad dm (mw ad cs σ w0) to 0 50) (va_cwS 3 F.1.2.2.2.2 gX6_setRoom_X6_isIn rfl rfl rfl (by decide +kernel) ⟨Nat.le_of_ble_eq_true rfl, Nat.le_of_ble_eq_true rfl⟩) rfl rfl (Nat.le_of_ble_eq_true rfl) dX6_setRoom_16 ⟨Nat.le_of_ble_eq_true rfl, Nat.le_of_ble_eq_true rfl⟩ ?_
      refine g_ifb_eq F (tgt := 26) dX6_setRoom_19 (by decide) (fun c4 => ?_) (fun c4 => ?_)
      ·
        refine g_iconst F dX6_setRoom_26 (v := 2) (by decide) ?_
        exact g_top (by rw [if_pos c3, if_neg c4]) hJ1
      ·
        refine g_iconst F dX6_setRoom_22 (v := 0) (by decide) ?_
        refine g_goto F (tgt := 27) dX6_setRoom_23 (by decide) ?_
        exact g_top (by rw [if_pos c3, if_pos c4]) hJ1
    ·
      refine g_iconst F dX6_setRoom_8 (v := 1) (by decide) ?_
      refine g_goto F (tgt := 27) dX6_setRoom_9 (by decide) ?_
      exact g_top (by rw [if_neg c3]) hJ1
set_option maxHeartbeats 4000000 in
set_option maxRecDepth 100000 in
theorem mc_read (l : Launch) (D : va_G) (A : Nat → Prop) (cs : Nat → ClassId) (ad : Nat → Nat → Nat) (dm : Nat → Nat → Prop) (w0 : CF) (σ : SG) (its many : Int32) (n : Nat) (hM : MD dm) (hn : σ 11 0 = nI n) (hn40 : n ≤ 40) : Met l yX6_read wsX6_read ({ frames := 3, cells := 0, slots := 0, locals := 66 }) (va_Pc [.ref (ad 0 0), .int its, .int many] (PW D A (tysG cs) ad dm (mw ad cs σ w0))) (va_Qi (fun r (_ : Unit) => r = (if ((recP its) ∧ (inR many 1 50)) then ((lkS (up2 (up2 σ 32 0 (if recP its then (if inR many 1 50 then 0 else 2) else 1 : Int32)) 30 (ix its) ((σ 30 (ix its)) - (if (σ 30 (ix its)) ≤ many then (σ 30 (ix its)) else many))) (ix its) its n) 30 (ix its)) else 0)) (fun _ t => PW D A (tysG cs) ad dm (mw ad cs (if ((recP its) ∧ (inR many 1 50)) then (lkS (up2 (up2 σ 32 0 (if recP its then (if inR many 1 50 then 0 else 2) else 1 : Int32)) 30 (ix its) ((σ 30 (ix its)) - (if (σ 30 (ix its)) ≤ many then (σ 30 (ix its)) else many))) (ix its) its n) else (up2 σ 32 0 (if recP its then (if inR many 1 50 then 0 else 2) else 1 : Int32))) w0) t) A) 0 0 A := by
  refine g_start (own := RX6) [.ref (ad 0 0), .int its, .int many] (cc := cX6_read) (maxL := 3) (ret := (some .int)) (lv0 := [(0, .ref (ad 0 0)), (1, .int its), (2, .int many)]) (by decide) rfl rfl (Nat.le_of_ble_eq_true rfl) rfl ?_
  intro p e s m below meth c F hr hlocks hname
  have hin : ∀ w ∈ wsX60, w ∈ wsX6_read := by decide +kernel
  refine g_aload_n F 0 dX6_read_0 rfl rfl ?_
  refine g_iload_n F 1 dX6_read_1 rfl rfl ?_
  refine g_callSi F (rest := [.ref (ad 0 0)]) [.int its] (mc_isRecipient l D A cs ad dm (mw ad cs σ w0) its) (va_cwS 1 F.1.2.2.2.2 gX6_read_X6_isRecipient rfl rfl rfl (by decide +kernel) ⟨Nat.le_of_ble_eq_true rfl, Nat.le_of_ble_eq_true rfl⟩) rfl rfl (Nat.le_of_ble_eq_true rfl) dX6_read_2 ⟨Nat.le_of_ble_eq_true rfl, Nat.le_of_ble_eq_true rfl⟩ ?_
  refine g_cut (w2 := (mw ad cs σ w0)) (pc2 := 27) (lv2 := [(0, .ref (ad 0 0)), (1, .int its), (2, .int many)]) (st2 := [.int (if recP its then (if inR many 1 50 then 0 else 2) else 1 : Int32), .ref (ad 0 0)]) ?_ (fun hJ1 => ?_)
  ·
    refine g_callVi F (C := RX6) (k := 0) (i := 0) (ci := 6) (T := TX6) (N := 33) (rest := []) [.int (if recP its then (if inR many 1 50 then 0 else 2) else 1 : Int32)] (mc_fails l D A cs ad dm w0 σ (if recP its then (if inR many 1 50 then 0 else 2) else 1 : Int32) hM) (cwV 1 F.1.2.2.2.2 gX6_read_X6_fails rfl rfl rfl (by decide +kernel) ⟨Nat.le_of_ble_eq_true rfl, Nat.le_of_ble_eq_true rfl⟩) rfl hM.1 rfl rfl rfl rfl (Nat.le_of_ble_eq_true rfl) dX6_read_27 ⟨Nat.le_of_ble_eq_true rfl, Nat.le_of_ble_eq_true rfl⟩ ?_
    refine g_ifb_eq F (tgt := 35) dX6_read_30 (by decide) (fun c2 => ?_) (fun c2 => ?_)
    ·
      replace c2 := Classical.not_not.mp c2
      have hok := cd_ok.mp c2
      obtain ⟨hia, hia4⟩ := ix_rec hok.1
      refine g_aload_n F 0 dX6_read_35 rfl rfl ?_
      refine mg_get F hM hin 30 (by decide) rfl (by decide +kernel) rfl dX6_read_36 ?_
      refine g_iload_n F 1 dX6_read_39 rfl rfl ?_
      refine g_dup2 F dX6_read_40 rfl rfl ?_
      refine mg_ald F hM 30 rfl hia (show (ix its) < 6 by omega) (v := (σ 30 (ix its))) ((up2_ne _ _ (fun h => absurd h.1 (by decide))).trans rfl) dX6_read_41 ?_
      refine g_iload_n F 2 dX6_read_42 rfl rfl ?_
      refine g_aload_n F 0 dX6_read_43 rfl rfl ?_
      refine mg_get F hM hin 30 (by decide) rfl (by decide +kernel) rfl dX6_read_44 ?_
      refine g_iload_n F 1 dX6_read_47 rfl rfl ?_
      refine mg_ald F hM 30 rfl hia (show (ix its) < 6 by omega) (v := (σ 30 (ix its))) ((up2_ne _ _ (fun h => absurd h.1 (by decide))).trans rfl) dX6_read_48 ?_
      refine g_cut (w2 := (mw ad cs (up2 σ 32 0 (if recP its then (if inR many 1 50 then 0 else 2) else 1 : Int32)) w0)) (pc2 := 62) (lv2 := [(0, .ref (ad 0 0)), (1, .int its), (2, .int many)]) (st2 := [.int (if (σ 30 (ix its)) ≤ many then (σ 30 (ix its)) else many : Int32), .int (σ 30 (ix its)), .int its, .ref (ad 1 30)]) ?_ (fun hJ3 => ?_)
      ·
        refine g_isub F dX6_read_62 ?_
        refine mg_ast F hM 30 rfl hia (show (ix its) < 6 by omega) dX6_read_63 ?_
        refine g_aload_n F 0 dX6_read_64 rfl rfl ?_
        refine g_iload_n F 1 dX6_read_65 rfl rfl ?_
        refine g_callVv F (C := RX6) (k := 0) (i := 0) (ci := 6) (T := TX6) (N := 33) (rest := []) [.int its] (mc_looks l D A cs ad dm w0 (up2 (up2 σ 32 0 (if recP its then (if inR many 1 50 then 0 else 2) else 1 : Int32)) 30 (ix its) ((σ 30 (ix its)) - (if (σ 30 (ix its)) ≤ many then (σ 30 (ix its)) else many : Int32))) its (ix its) n hM (by first | exact hn | (simp only [up2]; exact hn) | (simp [up2]; exact hn)) hn40 hia (by omega)) (cwV 1 F.1.2.2.2.2 gX6_read_X6_looks rfl rfl rfl (by decide +kernel) ⟨Nat.le_of_ble_eq_true rfl, Nat.le_of_ble_eq_true rfl⟩) rfl hM.1 rfl rfl rfl rfl (Nat.le_of_ble_eq_true rfl) dX6_read_66 ⟨Nat.le_of_ble_eq_true rfl, Nat.le_of_ble_eq_true rfl⟩ ?_
        refine g_aload_n F 0 dX6_read_69 rfl rfl ?_
        refine mg_get F hM hin 30 (by decide) rfl (by decide +kernel) rfl dX6_read_70 ?_
        refine g_iload_n F 1 dX6_read_73 rfl rfl ?_
        refine mg_ald F hM 30 rfl hia (show (ix its) < 6 by omega) (v := ((lkS (up2 (up2 σ 32 0 (if recP its then (if inR many 1 50 then 0 else 2) else 1 : Int32)) 30 (ix its) ((σ 30 (ix its)) - (if (σ 30 (ix its)) ≤ many then (σ 30 (ix its)) else many : Int32))) (ix its) its n) 30 (ix its))) rfl dX6_read_74 ?_
        exact g_iret F hr ((if_pos hok).symm) hlocks (fun _ h => by rw [show (mw ad cs (if ((recP its) ∧ (inR many 1 50)) then (lkS (up2 (up2 σ 32 0 (if recP its then (if inR many 1 50 then 0 else 2) else 1 : Int32)) 30 (ix its) ((σ 30 (ix its)) - (if (σ 30 (ix its)) ≤ many then (σ 30 (ix its)) else many))) (ix its) its n) else (up2 σ 32 0 (if recP its then (if inR many 1 50 then 0 else 2) else 1 : Int32))) w0) = (mw ad cs (lkS (up2 (up2 σ 32 0 (if recP its then (if inR many 1 50 then 0 else 2) else 1 : Int32)) 30 (ix its) ((σ 30 (ix its)) - (if (σ 30 (ix its)) ≤ many then (σ 30 (ix its)) else many : Int32))) (ix its) its n) w0) from (by rw [if_pos hok])]; exact h) dX6_read_75
      ·
        refine g_icmp_ge F (tgt := 56) dX6_read_49 (by decide) (fun c4 => ?_) (fun c4 => ?_)
        ·
          refine g_aload_n F 0 dX6_read_56 rfl rfl ?_
          refine mg_get F hM hin 30 (by decide) rfl (by decide +kernel) rfl dX6_read_57 ?_
          refine g_iload_n F 1 dX6_read_60 rfl rfl ?_
          refine mg_ald F hM 30 rfl hia (show (ix its) < 6 by omega) (v := (σ 30 (ix its))) ((up2_ne _ _ (fun h => absurd h.1 (by decide))).trans rfl) dX6_read_61 ?_
          exact g_top (by rw [if_pos c4]) hJ3
        ·
          refine g_iload_n F 2 dX6_read_52 rfl rfl ?_
          refine g_goto F (tgt := 62) dX6_read_53 (by decide) ?_
          exact g_top (by rw [if_neg c4]) hJ3
    ·
      refine g_iconst F dX6_read_33 (v := 0) (by decide) ?_
      exact g_iret F hr ((if_neg (fun q => c2 (cd_ok.mpr q))).symm) hlocks (fun _ h => by rw [show (mw ad cs (if ((recP its) ∧ (inR many 1 50)) then (lkS (up2 (up2 σ 32 0 (if recP its then (if inR many 1 50 then 0 else 2) else 1 : Int32)) 30 (ix its) ((σ 30 (ix its)) - (if (σ 30 (ix its)) ≤ many then (σ 30 (ix its)) else many))) (ix its) its n) else (up2 σ 32 0 (if recP its then (if inR many 1 50 then 0 else 2) else 1 : Int32))) w0) = (mw ad cs (up2 σ 32 0 (if recP its then (if inR many 1 50 then 0 else 2) else 1 : Int32)) w0) from (by rw [if_neg (fun q => c2 (cd_ok.mpr q))])]; exact h) dX6_read_34
  ·
    refine g_ifb_ne F (tgt := 12) dX6_read_5 (by decide) (fun c5 => ?_) (fun c5 => ?_)
    ·
      refine g_iload_n F 2 dX6_read_12 rfl rfl ?_
      refine g_iconst F dX6_read_13 (v := 1) (by decide) ?_
      refine g_bipush F dX6_read_14 (v := 50) (by decide) ?_
      refine g_callSi F (rest := [.ref (ad 0 0)]) [.int many, .int 1, .int 50] (mc_isIn l D A cs ad dm (mw ad cs σ w0) many 1 50) (va_cwS 3 F.1.2.2.2.2 gX6_read_X6_isIn rfl rfl rfl (by decide +kernel) ⟨Nat.le_of_ble_eq_true rfl, Nat.le_of_ble_eq_true rfl⟩) rfl rfl (Nat.le_of_ble_eq_true rfl) dX6_read_16 ⟨Nat.le_of_ble_eq_true rfl, Nat.le_of_ble_eq_true rfl⟩ ?_
      refine g_ifb_eq F (tgt := 26) dX6_read_19 (by decide) (fun c6 => ?_) (fun c6 => ?_)
      ·
        refine g_iconst F dX6_read_26 (v := 2) (by decide) ?_
        exact g_top (by rw [if_pos c5, if_neg c6]) hJ1
      ·
        refine g_iconst F dX6_read_22 (v := 0) (by decide) ?_
        refine g_goto F (tgt := 27) dX6_read_23 (by decide) ?_
        exact g_top (by rw [if_pos c5, if_pos c6]) hJ1
    ·
      refine g_iconst F dX6_read_8 (v := 1) (by decide) ?_
      refine g_goto F (tgt := 27) dX6_read_9 (by decide) ?_
      exact g_top (by rw [if_neg c5]) hJ1
set_option maxHeartbeats 4000000 in
set_option maxRecDepth 100000 in
theorem mc_inRoom (l : Launch) (D : va_G) (A : Nat → Prop) (cs : Nat → ClassId) (ad : Nat → Nat → Nat) (dm : Nat → Nat → Prop) (w0 : CF) (σ : SG) (its : Int32) (hM : MD dm)  : Met l yX6_inRoom wsX6_inRoom ({ frames := 2, cells := 0, slots := 0, locals := 42 }) (va_Pc [.ref (ad 0 0), .int its] (PW D A (tysG cs) ad dm (mw ad cs σ w0))) (va_Qi (fun r (_ : Unit) => r = (if ((recP its)) then (σ 30 (ix its)) else 0)) (fun _ t => PW D A (tysG cs) ad dm (mw ad cs (if ((recP its)) then (up2 σ 32 0 (bi (¬ (recP its)))) else (up2 σ 32 0 (bi (¬ (recP its))))) w0) t) A) 0 0 A := by
  refine g_start (own := RX6) [.ref (ad 0 0), .int its] (cc := cX6_inRoom) (maxL := 2) (ret := (some .int)) (lv0 := [(0, .ref (ad 0 0)), (1, .int its)]) (by decide) rfl rfl (Nat.le_of_ble_eq_true rfl) rfl ?_
  intro p e s m below meth c F hr hlocks hname
  have hin : ∀ w ∈ wsX60, w ∈ wsX6_inRoom := by decide +kernel
  refine g_aload_n F 0 dX6_inRoom_0 rfl rfl ?_
  refine g_iload_n F 1 dX6_inRoom_1 rfl rfl ?_
  refine g_callSi F (rest := [.ref (ad 0 0)]) [.int its] (mc_isRecipient l D A cs ad dm (mw ad cs σ w0) its) (va_cwS 1 F.1.2.2.2.2 gX6_inRoom_X6_isRecipient rfl rfl rfl (by decide +kernel) ⟨Nat.le_of_ble_eq_true rfl, Nat.le_of_ble_eq_true rfl⟩) rfl rfl (Nat.le_of_ble_eq_true rfl) dX6_inRoom_2 ⟨Nat.le_of_ble_eq_true rfl, Nat.le_of_ble_eq_true rfl⟩ ?_
  refine g_cut (w2 := (mw ad cs σ w0)) (pc2 := 13) (lv2 := [(0, .ref (ad 0 0)), (1, .int its)]) (st2 := [.int (bi (¬ (recP its))), .ref (ad 0 0)]) ?_ (fun hJ1 => ?_)
  ·
    refine g_callVi F (C := RX6) (k := 0) (i := 0) (ci := 6) (T := TX6) (N := 33) (rest := []) [.int (bi (¬ (recP its)))] (mc_fails l D A cs ad dm w0 σ (bi (¬ (recP its))) hM) (cwV 1 F.1.2.2.2.2 gX6_inRoom_X6_fails rfl rfl rfl (by decide +kernel) ⟨Nat.le_of_ble_eq_true rfl, Nat.le_of_ble_eq_true rfl⟩) rfl hM.1 rfl rfl rfl rfl (Nat.le_of_ble_eq_true rfl) dX6_inRoom_13 ⟨Nat.le_of_ble_eq_true rfl, Nat.le_of_ble_eq_true rfl⟩ ?_
    refine g_ifb_eq F (tgt := 23) dX6_inRoom_16 (by decide) (fun c2 => ?_) (fun c2 => ?_)
    ·
      replace c2 := Classical.not_not.mp c2
      have hok := cd_ok1.mp c2
      obtain ⟨hia, hia4⟩ := ix_rec hok
      refine g_aload_n F 0 dX6_inRoom_23 rfl rfl ?_
      refine mg_get F hM hin 30 (by decide) rfl (by decide +kernel) rfl dX6_inRoom_24 ?_
      refine g_iload_n F 1 dX6_inRoom_27 rfl rfl ?_
      refine mg_ald F hM 30 rfl hia (show (ix its) < 6 by omega) (v := (σ 30 (ix its))) ((up2_ne _ _ (fun h => absurd h.1 (by decide))).trans rfl) dX6_inRoom_28 ?_
      exact g_iret F hr ((if_pos hok).symm) hlocks (fun _ h => by rw [show (mw ad cs (if ((recP its)) then (up2 σ 32 0 (bi (¬ (recP its)))) else (up2 σ 32 0 (bi (¬ (recP its))))) w0) = (mw ad cs (up2 σ 32 0 (bi (¬ (recP its)))) w0) from (by rw [if_pos hok])]; exact h) dX6_inRoom_29
    ·
      refine g_iconst F dX6_inRoom_19 (v := 0) (by decide) ?_
      refine g_goto F (tgt := 29) dX6_inRoom_20 (by decide) ?_
      exact g_iret F hr ((if_neg (fun q => c2 (cd_ok1.mpr q))).symm) hlocks (fun _ h => by rw [show (mw ad cs (if ((recP its)) then (up2 σ 32 0 (bi (¬ (recP its)))) else (up2 σ 32 0 (bi (¬ (recP its))))) w0) = (mw ad cs (up2 σ 32 0 (bi (¬ (recP its)))) w0) from (by rw [if_neg (fun q => c2 (cd_ok1.mpr q))])]; exact h) dX6_inRoom_29
  ·
    refine g_ifb_eq F (tgt := 12) dX6_inRoom_5 (by decide) (fun c3 => ?_) (fun c3 => ?_)
    ·
      refine g_iconst F dX6_inRoom_12 (v := 1) (by decide) ?_
      exact g_top (bi_t c3) hJ1
    ·
      refine g_iconst F dX6_inRoom_8 (v := 0) (by decide) ?_
      refine g_goto F (tgt := 13) dX6_inRoom_9 (by decide) ?_
      exact g_top (bi_f (fun q => q c3)) hJ1
set_option maxHeartbeats 4000000 in
set_option maxRecDepth 100000 in
theorem mc_marks (l : Launch) (D : va_G) (A : Nat → Prop) (cs : Nat → ClassId) (ad : Nat → Nat → Nat) (dm : Nat → Nat → Prop) (w0 : CF) (σ : SG) (its : Int32) (hM : MD dm)  : Met l yX6_marks wsX6_marks ({ frames := 2, cells := 0, slots := 0, locals := 42 }) (va_Pc [.ref (ad 0 0), .int its] (PW D A (tysG cs) ad dm (mw ad cs σ w0))) (va_Qi (fun r (_ : Unit) => r = (if ((recP its)) then (σ 31 (ix its)) else 0)) (fun _ t => PW D A (tysG cs) ad dm (mw ad cs (if ((recP its)) then (up2 σ 32 0 (bi (¬ (recP its)))) else (up2 σ 32 0 (bi (¬ (recP its))))) w0) t) A) 0 0 A := by
  refine g_start (own := RX6) [.ref (ad 0 0), .int its] (cc := cX6_marks) (maxL := 2) (ret := (some .int)) (lv0 := [(0, .ref (ad 0 0)), (1, .int its)]) (by decide) rfl rfl (Nat.le_of_ble_eq_true rfl) rfl ?_
  intro p e s m below meth c F hr hlocks hname
  have hin : ∀ w ∈ wsX60, w ∈ wsX6_marks := by decide +kernel
  refine g_aload_n F 0 dX6_marks_0 rfl rfl ?_
  refine g_iload_n F 1 dX6_marks_1 rfl rfl ?_
  refine g_callSi F (rest := [.ref (ad 0 0)]) [.int its] (mc_isRecipient l D A cs ad dm (mw ad cs σ w0) its) (va_cwS 1 F.1.2.2.2.2 gX6_marks_X6_isRecipient rfl rfl rfl (by decide +kernel) ⟨Nat.le_of_ble_eq_true rfl, Nat.le_of_ble_eq_true rfl⟩) rfl rfl (Nat.le_of_ble_eq_true rfl) dX6_marks_2 ⟨Nat.le_of_ble_eq_true rfl, Nat.le_of_ble_eq_true rfl⟩ ?_
  refine g_cut (w2 := (mw ad cs σ w0)) (pc2 := 13) (lv2 := [(0, .ref (ad 0 0)), (1, .int its)]) (st2 := [.int (bi (¬ (recP its))), .ref (ad 0 0)]) ?_ (fun hJ1 => ?_)
  ·
    refine g_callVi F (C := RX6) (k := 0) (i := 0) (ci := 6) (T := TX6) (N := 33) (rest := []) [.int (bi (¬ (recP its)))] (mc_fails l D A cs ad dm w0 σ (bi (¬ (recP its))) hM) (cwV 1 F.1.2.2.2.2 gX6_marks_X6_fails rfl rfl rfl (by decide +kernel) ⟨Nat.le_of_ble_eq_true rfl, Nat.le_of_ble_eq_true rfl⟩) rfl hM.1 rfl rfl rfl rfl (Nat.le_of_ble_eq_true rfl) dX6_marks_13 ⟨Nat.le_of_ble_eq_true rfl, Nat.le_of_ble_eq_true rfl⟩ ?_
    refine g_ifb_eq F (tgt := 23) dX6_marks_16 (by decide) (fun c2 => ?_) (fun c2 => ?_)
    ·
      replace c2 := Classical.not_not.mp c2
      have hok := cd_ok1.mp c2
      obtain ⟨hia, hia4⟩ := ix_rec hok
      refine g_aload_n F 0 dX6_marks_23 rfl rfl ?_
      refine mg_get F hM hin 31 (by decide) rfl (by decide +kernel) rfl dX6_marks_24 ?_
      refine g_iload_n F 1 dX6_marks_27 rfl rfl ?_
      refine mg_ald F hM 31 rfl hia (show (ix its) < 6 by omega) (v := (σ 31 (ix its))) ((up2_ne _ _ (fun h => absurd h.1 (by decide))).trans rfl) dX6_marks_28 ?_
      exact g_iret F hr ((if_pos hok).symm) hlocks (fun _ h => by rw [show (mw ad cs (if ((recP its)) then (up2 σ 32 0 (bi (¬ (recP its)))) else (up2 σ 32 0 (bi (¬ (recP its))))) w0) = (mw ad cs (up2 σ 32 0 (bi (¬ (recP its)))) w0) from (by rw [if_pos hok])]; exact h) dX6_marks_29
    ·
      refine g_iconst F dX6_marks_19 (v := 0) (by decide) ?_
      refine g_goto F (tgt := 29) dX6_marks_20 (by decide) ?_
      exact g_iret F hr ((if_neg (fun q => c2 (cd_ok1.mpr q))).symm) hlocks (fun _ h => by rw [show (mw ad cs (if ((recP its)) then (up2 σ 32 0 (bi (¬ (recP its)))) else (up2 σ 32 0 (bi (¬ (recP its))))) w0) = (mw ad cs (up2 σ 32 0 (bi (¬ (recP its)))) w0) from (by rw [if_neg (fun q => c2 (cd_ok1.mpr q))])]; exact h) dX6_marks_29
  ·
    refine g_ifb_eq F (tgt := 12) dX6_marks_5 (by decide) (fun c3 => ?_) (fun c3 => ?_)
    ·
      refine g_iconst F dX6_marks_12 (v := 1) (by decide) ?_
      exact g_top (bi_t c3) hJ1
    ·
      refine g_iconst F dX6_marks_8 (v := 0) (by decide) ?_
      refine g_goto F (tgt := 13) dX6_marks_9 (by decide) ?_
      exact g_top (bi_f (fun q => q c3)) hJ1
set_option maxHeartbeats 4000000 in
set_option maxRecDepth 100000 in
theorem mc_receipts (l : Launch) (D : va_G) (A : Nat → Prop) (cs : Nat → ClassId) (ad : Nat → Nat → Nat) (dm : Nat → Nat → Prop) (w0 : CF) (σ : SG) (its : Int32) (hM : MD dm)  : Met l yX6_receipts wsX6_receipts ({ frames := 2, cells := 0, slots := 0, locals := 42 }) (va_Pc [.ref (ad 0 0), .int its] (PW D A (tysG cs) ad dm (mw ad cs σ w0))) (va_Qi (fun r (_ : Unit) => r = (if ((accP its)) then (σ 9 (ix its)) else 0)) (fun _ t => PW D A (tysG cs) ad dm (mw ad cs (if ((accP its)) then (up2 σ 32 0 (bi (¬ (accP its)))) else (up2 σ 32 0 (bi (¬ (accP its))))) w0) t) A) 0 0 A := by
  refine g_start (own := RX6) [.ref (ad 0 0), .int its] (cc := cX6_receipts) (maxL := 2) (ret := (some .int)) (lv0 := [(0, .ref (ad 0 0)), (1, .int its)]) (by decide) rfl rfl (Nat.le_of_ble_eq_true rfl) rfl ?_
  intro p e s m below meth c F hr hlocks hname
  have hin : ∀ w ∈ wsX60, w ∈ wsX6_receipts := by decide +kernel
  refine g_aload_n F 0 dX6_receipts_0 rfl rfl ?_
  refine g_iload_n F 1 dX6_receipts_1 rfl rfl ?_
  refine g_callSi F (rest := [.ref (ad 0 0)]) [.int its] (mc_isAccount l D A cs ad dm (mw ad cs σ w0) its) (va_cwS 1 F.1.2.2.2.2 gX6_receipts_X6_isAccount rfl rfl rfl (by decide +kernel) ⟨Nat.le_of_ble_eq_true rfl, Nat.le_of_ble_eq_true rfl⟩) rfl rfl (Nat.le_of_ble_eq_true rfl) dX6_receipts_2 ⟨Nat.le_of_ble_eq_true rfl, Nat.le_of_ble_eq_true rfl⟩ ?_
  refine g_cut (w2 := (mw ad cs σ w0)) (pc2 := 13) (lv2 := [(0, .ref (ad 0 0)), (1, .int its)]) (st2 := [.int (bi (¬ (accP its))), .ref (ad 0 0)]) ?_ (fun hJ1 => ?_)
  ·
    refine g_callVi F (C := RX6) (k := 0) (i := 0) (ci := 6) (T := TX6) (N := 33) (rest := []) [.int (bi (¬ (accP its)))] (mc_fails l D A cs ad dm w0 σ (bi (¬ (accP its))) hM) (cwV 1 F.1.2.2.2.2 gX6_receipts_X6_fails rfl rfl rfl (by decide +kernel) ⟨Nat.le_of_ble_eq_true rfl, Nat.le_of_ble_eq_true rfl⟩) rfl hM.1 rfl rfl rfl rfl (Nat.le_of_ble_eq_true rfl) dX6_receipts_13 ⟨Nat.le_of_ble_eq_true rfl, Nat.le_of_ble_eq_true rfl⟩ ?_
    refine g_ifb_eq F (tgt := 23) dX6_receipts_16 (by decide) (fun c2 => ?_) (fun c2 => ?_)
    ·
      replace c2 := Classical.not_not.mp c2
      have hok := cd_ok1.mp c2
      obtain ⟨hia, hia4⟩ := ix_acc hok
      refine g_aload_n F 0 dX6_receipts_23 rfl rfl ?_
      refine mg_get F hM hin 9 (by decide) rfl (by decide +kernel) rfl dX6_receipts_24 ?_
      refine g_iload_n F 1 dX6_receipts_27 rfl rfl ?_
      refine mg_ald F hM 9 rfl hia (show (ix its) < 4 by omega) (v := (σ 9 (ix its))) ((up2_ne _ _ (fun h => absurd h.1 (by decide))).trans rfl) dX6_receipts_28 ?_
      exact g_iret F hr ((if_pos hok).symm) hlocks (fun _ h => by rw [show (mw ad cs (if ((accP its)) then (up2 σ 32 0 (bi (¬ (accP its)))) else (up2 σ 32 0 (bi (¬ (accP its))))) w0) = (mw ad cs (up2 σ 32 0 (bi (¬ (accP its)))) w0) from (by rw [if_pos hok])]; exact h) dX6_receipts_29
    ·
      refine g_iconst F dX6_receipts_19 (v := 0) (by decide) ?_
      refine g_goto F (tgt := 29) dX6_receipts_20 (by decide) ?_
      exact g_iret F hr ((if_neg (fun q => c2 (cd_ok1.mpr q))).symm) hlocks (fun _ h => by rw [show (mw ad cs (if ((accP its)) then (up2 σ 32 0 (bi (¬ (accP its)))) else (up2 σ 32 0 (bi (¬ (accP its))))) w0) = (mw ad cs (up2 σ 32 0 (bi (¬ (accP its)))) w0) from (by rw [if_neg (fun q => c2 (cd_ok1.mpr q))])]; exact h) dX6_receipts_29
  ·
    refine g_ifb_eq F (tgt := 12) dX6_receipts_5 (by decide) (fun c3 => ?_) (fun c3 => ?_)
    ·
      refine g_iconst F dX6_receipts_12 (v := 1) (by decide) ?_
      exact g_top (bi_t c3) hJ1
    ·
      refine g_iconst F dX6_receipts_8 (v := 0) (by decide) ?_
      refine g_goto F (tgt := 13) dX6_receipts_9 (by decide) ?_
      exact g_top (bi_f (fun q => q c3)) hJ1
set_option maxHeartbeats 4000000 in
set_option maxRecDepth 100000 in
theorem mc_next (l : Launch) (D : va_G) (A : Nat → Prop) (cs : Nat → ClassId) (ad : Nat → Nat → Nat) (dm : Nat → Nat → Prop) (w0 : CF) (σ : SG) (its : Int32) (n : Nat) (hM : MD dm) (hn : σ 11 0 = nI n) (hn40 : n ≤ 40) : Met l yX6_next wsX6_next ({ frames := 2, cells := 0, slots := 0, locals := 48 }) (va_Pc [.ref (ad 0 0), .int its] (PW D A (tysG cs) ad dm (mw ad cs σ w0))) (va_Qi (fun r (_ : Unit) => r = (if ((recP its)) then (frF (up2 σ 32 0 (bi (¬ (recP its)))) its 2147483647 n) else 0)) (fun _ t => PW D A (tysG cs) ad dm (mw ad cs (if ((recP its)) then (up2 σ 32 0 (bi (¬ (recP its)))) else (up2 σ 32 0 (bi (¬ (recP its))))) w0) t) A) 0 0 A := by
  refine g_start (own := RX6) [.ref (ad 0 0), .int its] (cc := cX6_next) (maxL := 2) (ret := (some .int)) (lv0 := [(0, .ref (ad 0 0)), (1, .int its)]) (by decide) rfl rfl (Nat.le_of_ble_eq_true rfl) rfl ?_
  intro p e s m below meth c F hr hlocks hname
  refine g_aload_n F 0 dX6_next_0 rfl rfl ?_
  refine g_iload_n F 1 dX6_next_1 rfl rfl ?_
  refine g_callSi F (rest := [.ref (ad 0 0)]) [.int its] (mc_isRecipient l D A cs ad dm (mw ad cs σ w0) its) (va_cwS 1 F.1.2.2.2.2 gX6_next_X6_isRecipient rfl rfl rfl (by decide +kernel) ⟨Nat.le_of_ble_eq_true rfl, Nat.le_of_ble_eq_true rfl⟩) rfl rfl (Nat.le_of_ble_eq_true rfl) dX6_next_2 ⟨Nat.le_of_ble_eq_true rfl, Nat.le_of_ble_eq_true rfl⟩ ?_
  refine g_cut (w2 := (mw ad cs σ w0)) (pc2 := 13) (lv2 := [(0, .ref (ad 0 0)), (1, .int its)]) (st2 := [.int (bi (¬ (recP its))), .ref (ad 0 0)]) ?_ (fun hJ1 => ?_)
  ·
    refine g_callVi F (C := RX6) (k := 0) (i := 0) (ci := 6) (T := TX6) (N := 33) (rest := []) [.int (bi (¬ (recP its)))] (mc_fails l D A cs ad dm w0 σ (bi (¬ (recP its))) hM) (cwV 1 F.1.2.2.2.2 gX6_next_X6_fails rfl rfl rfl (by decide +kernel) ⟨Nat.le_of_ble_eq_true rfl, Nat.le_of_ble_eq_true rfl⟩) rfl hM.1 rfl rfl rfl rfl (Nat.le_of_ble_eq_true rfl) dX6_next_13 ⟨Nat.le_of_ble_eq_true rfl, Nat.le_of_ble_eq_true rfl⟩ ?_
    refine g_ifb_eq F (tgt := 23) dX6_next_16 (by decide) (fun c2 => ?_) (fun c2 => ?_)
    ·
      replace c2 := Classical.not_not.mp c2
      have hok := cd_ok1.mp c2
      obtain ⟨hia, hia4⟩ := ix_rec hok
      refine g_aload_n F 0 dX6_next_23 rfl rfl ?_
      refine g_iload_n F 1 dX6_next_24 rfl rfl ?_
      refine g_ldc F (v := 2147483647) dX6_next_25 (by decide +kernel) ?_
      refine g_callVi F (C := RX6) (k := 0) (i := 0) (ci := 6) (T := TX6) (N := 33) (rest := []) [.int its, .int 2147483647] (mc_first l D A cs ad dm w0 (up2 σ 32 0 (bi (¬ (recP its)))) its 2147483647 n hM (by first | exact hn | (simp only [up2]; exact hn) | (simp [up2]; exact hn)) hn40) (cwV 2 F.1.2.2.2.2 gX6_next_X6_first rfl rfl rfl (by decide +kernel) ⟨Nat.le_of_ble_eq_true rfl, Nat.le_of_ble_eq_true rfl⟩) rfl hM.1 rfl rfl rfl rfl (Nat.le_of_ble_eq_true rfl) dX6_next_27 ⟨Nat.le_of_ble_eq_true rfl, Nat.le_of_ble_eq_true rfl⟩ ?_
      exact g_iret F hr ((if_pos hok).symm) hlocks (fun _ h => by rw [show (mw ad cs (if ((recP its)) then (up2 σ 32 0 (bi (¬ (recP its)))) else (up2 σ 32 0 (bi (¬ (recP its))))) w0) = (mw ad cs (up2 σ 32 0 (bi (¬ (recP its)))) w0) from (by rw [if_pos hok])]; exact h) dX6_next_30
    ·
      refine g_iconst F dX6_next_19 (v := 0) (by decide) ?_
      refine g_goto F (tgt := 30) dX6_next_20 (by decide) ?_
      exact g_iret F hr ((if_neg (fun q => c2 (cd_ok1.mpr q))).symm) hlocks (fun _ h => by rw [show (mw ad cs (if ((recP its)) then (up2 σ 32 0 (bi (¬ (recP its)))) else (up2 σ 32 0 (bi (¬ (recP its))))) w0) = (mw ad cs (up2 σ 32 0 (bi (¬ (recP its)))) w0) from (by rw [if_neg (fun q => c2 (cd_ok1.mpr q))])]; exact h) dX6_next_30
  ·
    refine g_ifb_eq F (tgt := 12) dX6_next_5 (by decide) (fun c3 => ?_) (fun c3 => ?_)
    ·
      refine g_iconst F dX6_next_12 (v := 1) (by decide) ?_
      exact g_top (bi_t c3) hJ1
    ·
      refine g_iconst F dX6_next_8 (v := 0) (by decide) ?_
      refine g_goto F (tgt := 13) dX6_next_9 (by decide) ?_
      exact g_top (bi_f (fun q => q c3)) hJ1
def wtF (σ : SG) (v : Int32) : Nat → Int32
  | 0 => 0
  | k + 1 => wtF σ v k + bi (waitsP σ k v)
