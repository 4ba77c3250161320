set_option maxHeartbeats 4000000 in
set_option maxRecDepth 100000 in
theorem mc_waiting (l : Launch) (D : va_G) (A : Nat → Prop) (cs : Nat → ClassId) (ad : Nat → Nat → Nat) (dm : Nat → Nat → Prop) (w0 : CF) (σ : SG) (its : Int32) (n : Nat) (hM : MD dm) (hn : σ 11 0 = nI n) (hn40 : n ≤ 40) : Met l yX6_waiting wsX6_waiting ({ frames := 2, cells := 0, slots := 0, locals := 42 }) (va_Pc [.ref (ad 0 0), .int its] (PW D A (tysG cs) ad dm (mw ad cs σ w0))) (va_Qi (fun r (_ : Unit) => r = (if ((recP its)) then (wtF (up2 σ 32 0 (bi (¬ (recP its)))) its n) else 0)) (fun _ t => PW D A (tysG cs) ad dm (mw ad cs (if ((recP its)) then (up2 σ 32 0 (bi (¬ (recP its)))) else (up2 σ 32 0 (bi (¬ (recP its))))) w0) t) A) 0 0 A := by
  refine g_start (own := RX6) [.ref (ad 0 0), .int its] (cc := cX6_waiting) (maxL := 4) (ret := (some .int)) (lv0 := [(0, .ref (ad 0 0)), (1, .int its)]) (by decide) rfl rfl (Nat.le_of_ble_eq_true rfl) rfl ?_
  intro p e s m below meth c F hr hlocks hname
  have hin : ∀ w ∈ wsX60, w ∈ wsX6_waiting := by decide +kernel
  refine g_aload_n F 0 dX6_waiting_0 rfl rfl ?_
  refine g_iload_n F 1 dX6_waiting_1 rfl rfl ?_
  refine g_callSi F (rest := [.ref (ad 0 0)]) [.int its] (mc_isRecipient l D A cs ad dm (mw ad cs σ w0) its) (va_cwS 1 F.1.2.2.2.2 gX6_waiting_X6_isRecipient rfl rfl rfl (by decide +kernel) ⟨Nat.le_of_ble_eq_true rfl, Nat.le_of_ble_eq_true rfl⟩) rfl rfl (Nat.le_of_ble_eq_true rfl) dX6_waiting_2 ⟨Nat.le_of_ble_eq_true rfl, Nat.le_of_ble_eq_true rfl⟩ ?_
  refine g_cut (w2 := (mw ad cs σ w0)) (pc2 := 13) (lv2 := [(0, .ref (ad 0 0)), (1, .int its)]) (st2 := [.int (bi (¬ (recP its))), .ref (ad 0 0)]) ?_ (fun hJ1 => ?_)
  ·
    refine g_callVi F (C := RX6) (k := 0) (i := 0) (ci := 6) (T := TX6) (N := 33) (rest := []) [.int (bi (¬ (recP its)))] (mc_fails l D A cs ad dm w0 σ (bi (¬ (recP its))) hM) (cwV 1 F.1.2.2.2.2 gX6_waiting_X6_fails rfl rfl rfl (by decide +kernel) ⟨Nat.le_of_ble_eq_true rfl, Nat.le_of_ble_eq_true rfl⟩) rfl hM.1 rfl rfl rfl rfl (Nat.le_of_ble_eq_true rfl) dX6_waiting_13 ⟨Nat.le_of_ble_eq_true rfl, Nat.le_of_ble_eq_true rfl⟩ ?_
    refine g_ifb_eq F (tgt := 21) dX6_waiting_16 (by decide) (fun c2 => ?_) (fun c2 => ?_)
    ·
      replace c2 := Classical.not_not.mp c2
      have hok := cd_ok1.mp c2
      obtain ⟨hia, hia4⟩ := ix_rec hok
      refine g_iconst F dX6_waiting_21 (v := 0) (by decide) ?_
      refine g_istore_n F (lv1 := [(2, .int 0), (0, .ref (ad 0 0)), (1, .int its)]) dX6_waiting_22 rfl (by decide) rfl ?_
      refine g_iconst F dX6_waiting_23 (v := 0) (by decide) ?_
      refine g_istore_n F (lv1 := [(3, .int 0), (2, .int 0), (0, .ref (ad 0 0)), (1, .int its)]) dX6_waiting_24 rfl (by decide) rfl ?_
      refine g_loop n 0 (by omega) (fun k3 => (mw ad cs (up2 σ 32 0 (bi (¬ (recP its)))) w0)) (fun k3 => [(3, .int (nI k3)), (2, .int (wtF (up2 σ 32 0 (bi (¬ (recP its)))) its k3)), (0, .ref (ad 0 0)), (1, .int its)]) rfl rfl ?_ (fun k3 hk5 hk6 ih4 => ?_)
      ·
        show GG p l e _ s m _ below meth c D A ad dm _ _ _ _ (mw ad cs (up2 σ 32 0 (bi (¬ (recP its)))) w0) 25 [(3, .int (nI n)), (2, .int (wtF (up2 σ 32 0 (bi (¬ (recP its)))) its n)), (0, .ref (ad 0 0)), (1, .int its)] []
        refine g_iload_n F 0 dX6_waiting_25 rfl rfl ?_
        refine g_aload_n F 2 dX6_waiting_26 rfl rfl ?_
        refine mg_get F hM hin 11 (by decide) (congrArg (fun z : Int32 => some (Value.int z)) (show (up2 σ 32 0 (bi (¬ (recP its)))) 11 0 = (nI n) from (((up2_ne _ _ (fun h => absurd h.1 (by decide))).trans rfl).trans (by first | exact hn | (simp only [up2]; exact hn) | (simp [up2]; exact hn))))) (by decide +kernel) rfl dX6_waiting_27 ?_
        refine g_icmp_ge F (tgt := 56) dX6_waiting_30 (by decide) (fun c7 => ?_) (fun c7 => ?_)
        ·
          refine g_iload_n F 1 dX6_waiting_56 rfl rfl ?_
          exact g_iret F hr ((if_pos hok).symm) hlocks (fun _ h => by rw [show (mw ad cs (if ((recP its)) then (up2 σ 32 0 (bi (¬ (recP its)))) else (up2 σ 32 0 (bi (¬ (recP its))))) w0) = (mw ad cs (up2 σ 32 0 (bi (¬ (recP its)))) w0) from (by rw [if_pos hok])]; exact h) dX6_waiting_57
        ·
          exact absurd ((nI_leE (show (nI n) = nI n from rfl) (show (nI n) = nI n from rfl) (show n < 2 ^ 31 by omega) (show n < 2 ^ 31 by omega)).mpr (by omega)) c7
      ·
        replace ih4 : GG p l e _ s m _ below meth c D A ad dm _ _ _ _ (mw ad cs (up2 σ 32 0 (bi (¬ (recP its)))) w0) 25 [(3, .int (nI (k3 + 1))), (2, .int (wtF (up2 σ 32 0 (bi (¬ (recP its)))) its (k3 + 1))), (0, .ref (ad 0 0)), (1, .int its)] [] := ih4
        show GG p l e _ s m _ below meth c D A ad dm _ _ _ _ (mw ad cs (up2 σ 32 0 (bi (¬ (recP its)))) w0) 25 [(3, .int (nI k3)), (2, .int (wtF (up2 σ 32 0 (bi (¬ (recP its)))) its k3)), (0, .ref (ad 0 0)), (1, .int its)] []
        refine g_iload_n F 0 dX6_waiting_25 rfl rfl ?_
        refine g_aload_n F 2 dX6_waiting_26 rfl rfl ?_
        refine mg_get F hM hin 11 (by decide) (congrArg (fun z : Int32 => some (Value.int z)) (show (up2 σ 32 0 (bi (¬ (recP its)))) 11 0 = (nI n) from (((up2_ne _ _ (fun h => absurd h.1 (by decide))).trans rfl).trans (by first | exact hn | (simp only [up2]; exact hn) | (simp [up2]; exact hn))))) (by decide +kernel) rfl dX6_waiting_27 ?_
        refine g_icmp_ge F (tgt := 56) dX6_waiting_30 (by decide) (fun c8 => ?_) (fun c8 => ?_)
        ·
          exact absurd ((nI_leE (show (nI n) = nI n from rfl) (show (nI k3) = nI k3 from rfl) (show n < 2 ^ 31 by omega) (show k3 < 2 ^ 31 by omega)).mp c8) (by omega)
        ·
          refine g_iload_n F 1 dX6_waiting_33 rfl rfl ?_
          refine g_aload_n F 2 dX6_waiting_34 rfl rfl ?_
          refine g_iload_n F 0 dX6_waiting_35 rfl rfl ?_
          refine g_iload_n F 3 dX6_waiting_36 rfl rfl ?_
          refine g_callVi F (C := RX6) (k := 0) (i := 0) (ci := 6) (T := TX6) (N := 33) (rest := [.int (wtF (up2 σ 32 0 (bi (¬ (recP its)))) its k3)]) [.int (nI k3), .int its] (mc_waits l D A cs ad dm w0 (up2 σ 32 0 (bi (¬ (recP its)))) (nI k3) its k3 hM rfl (by omega)) (cwV 2 F.1.2.2.2.2 gX6_waiting_X6_waits rfl rfl rfl (by decide +kernel) ⟨Nat.le_of_ble_eq_true rfl, Nat.le_of_ble_eq_true rfl⟩) rfl hM.1 rfl rfl rfl rfl (Nat.le_of_ble_eq_true rfl) dX6_waiting_37 ⟨Nat.le_of_ble_eq_true rfl, Nat.le_of_ble_eq_true rfl⟩ ?_
          refine g_cut (w2 := (mw ad cs (up2 σ 32 0 (bi (¬ (recP its)))) w0)) (pc2 := 48) (lv2 := [(3, .int (nI k3)), (2, .int (wtF (up2 σ 32 0 (bi (¬ (recP its)))) its k3)), (0, .ref (ad 0 0)), (1, .int its)]) (st2 := [.int (bi (waitsP (up2 σ 32 0 (bi (¬ (recP its)))) k3 its)), .int (wtF (up2 σ 32 0 (bi (¬ (recP its)))) its k3)]) ?_ (fun hJ9 => ?_)
          ·
            refine g_iadd F dX6_waiting_48 ?_
            refine g_istore_n F (lv1 := [(2, .int ((wtF (up2 σ 32 0 (bi (¬ (recP its)))) its k3) + (bi (waitsP (up2 σ 32 0 (bi (¬ (recP its)))) k3 its)))), (3, .int (nI k3)), (0, .ref (ad 0 0)), (1, .int its)]) dX6_waiting_49 rfl (by decide) rfl ?_
            refine g_iinc F (v := (nI (k3 + 1))) (lv1 := [(3, .int (nI (k3 + 1))), (2, .int ((wtF (up2 σ 32 0 (bi (¬ (recP its)))) its k3) + (bi (waitsP (up2 σ 32 0 (bi (¬ (recP its)))) k3 its)))), (0, .ref (ad 0 0)), (1, .int its)]) 1 dX6_waiting_50 rfl (nI_1 k3) (by decide) rfl ?_
            refine g_goto F (tgt := 25) dX6_waiting_53 (by decide) ?_
            exact g_lv [0, 1, 2, 3] rfl ih4
          ·
            refine g_ifb_eq F (tgt := 47) dX6_waiting_40 (by decide) (fun c10 => ?_) (fun c10 => ?_)
            ·
              refine g_iconst F dX6_waiting_47 (v := 0) (by decide) ?_
              exact g_top (bi_f c10) hJ9
            ·
              refine g_iconst F dX6_waiting_43 (v := 1) (by decide) ?_
              refine g_goto F (tgt := 48) dX6_waiting_44 (by decide) ?_
              exact g_top (bi_t c10) hJ9
    ·
      refine g_iconst F dX6_waiting_19 (v := 0) (by decide) ?_
      exact g_iret F hr ((if_neg (fun q => c2 (cd_ok1.mpr q))).symm) hlocks (fun _ h => by rw [show (mw ad cs (if ((recP its)) then (up2 σ 32 0 (bi (¬ (recP its)))) else (up2 σ 32 0 (bi (¬ (recP its))))) w0) = (mw ad cs (up2 σ 32 0 (bi (¬ (recP its)))) w0) from (by rw [if_neg (fun q => c2 (cd_ok1.mpr q))])]; exact h) dX6_waiting_20
  ·
    refine g_ifb_eq F (tgt := 12) dX6_waiting_5 (by decide) (fun c11 => ?_) (fun c11 => ?_)
    ·
      refine g_iconst F dX6_waiting_12 (v := 1) (by decide) ?_
      exact g_top (bi_t c11) hJ1
    ·
      refine g_iconst F dX6_waiting_8 (v := 0) (by decide) ?_
      refine g_goto F (tgt := 13) dX6_waiting_9 (by decide) ?_
      exact g_top (bi_f (fun q => q c11)) hJ1
def tkS (σ : SG) (a r : Nat) : SG := tkF (up2 σ 9 a ((σ 9 a) - 1)) a (r - 1)
theorem nI_m1 {r : Nat} (h : 0 < r) : nI r - 1 = nI (r - 1) := by
  obtain ⟨k, hk⟩ : ∃ k, r = k + 1 := ⟨r - 1, by omega⟩
  subst hk
  rw [nI_pred, Nat.add_sub_cancel]
set_option maxHeartbeats 4000000 in
set_option maxRecDepth 100000 in
theorem mc_takeReceipt (l : Launch) (D : va_G) (A : Nat → Prop) (cs : Nat → ClassId) (ad : Nat → Nat → Nat) (dm : Nat → Nat → Prop) (w0 : CF) (σ : SG) (its : Int32) (r : Nat) (hM : MD dm) (hr9 : accP its → (σ 9 (ix its)) = nI r) (hr40 : r ≤ 40) : Met l yX6_takeReceipt wsX6_takeReceipt ({ frames := 2, cells := 0, slots := 0, locals := 42 }) (va_Pc [.ref (ad 0 0), .int its] (PW D A (tysG cs) ad dm (mw ad cs σ w0))) (va_Qi (fun r (_ : Unit) => r = (if ((accP its) ∧ ¬ ((σ 9 (ix its)) = 0)) then (σ 10 (40 * ix its)) else 0)) (fun _ t => PW D A (tysG cs) ad dm (mw ad cs (if ((accP its) ∧ ¬ ((σ 9 (ix its)) = 0)) then (tkS (up2 σ 32 0 (if accP its then (if (σ 9 (ix its)) = 0 then 2 else 0) else 1 : Int32)) (ix its) r) else (up2 σ 32 0 (if accP its then (if (σ 9 (ix its)) = 0 then 2 else 0) else 1 : Int32))) w0) t) A) 0 0 A := by
  refine g_start (own := RX6) [.ref (ad 0 0), .int its] (cc := cX6_takeReceipt) (maxL := 5) (ret := (some .int)) (lv0 := [(0, .ref (ad 0 0)), (1, .int its)]) (by decide) rfl rfl (Nat.le_of_ble_eq_true rfl) rfl ?_
  intro p e s m below meth c F hr hlocks hname
  have hin : ∀ w ∈ wsX60, w ∈ wsX6_takeReceipt := by decide +kernel
  refine g_iload_n F 1 dX6_takeReceipt_0 rfl rfl ?_
  refine g_callSi F (rest := []) [.int its] (mc_isAccount l D A cs ad dm (mw ad cs σ w0) its) (va_cwS 1 F.1.2.2.2.2 gX6_takeReceipt_X6_isAccount rfl rfl rfl (by decide +kernel) ⟨Nat.le_of_ble_eq_true rfl, Nat.le_of_ble_eq_true rfl⟩) rfl rfl (Nat.le_of_ble_eq_true rfl) dX6_takeReceipt_1 ⟨Nat.le_of_ble_eq_true rfl, Nat.le_of_ble_eq_true rfl⟩ ?_
  refine g_istore_n F (lv1 := [(2, .int (bi (accP its))), (0, .ref (ad 0 0)), (1, .int its)]) dX6_takeReceipt_4 rfl (by decide) rfl ?_
  refine g_aload_n F 1 dX6_takeReceipt_5 rfl rfl ?_
  refine g_iload_n F 0 dX6_takeReceipt_6 rfl rfl ?_
  refine g_cut (w2 := (mw ad cs σ w0)) (pc2 := 28) (lv2 := [(2, .int (bi (accP its))), (0, .ref (ad 0 0)), (1, .int its)]) (st2 := [.int (if accP its then (if (σ 9 (ix its)) = 0 then 2 else 0) else 1 : Int32), .ref (ad 0 0)]) ?_ (fun hJ1 => ?_)
  ·
    refine g_callVi F (C := RX6) (k := 0) (i := 0) (ci := 6) (T := TX6) (N := 33) (rest := []) [.int (if accP its then (if (σ 9 (ix its)) = 0 then 2 else 0) else 1 : Int32)] (mc_fails l D A cs ad dm w0 σ (if accP its then (if (σ 9 (ix its)) = 0 then 2 else 0) else 1 : Int32) hM) (cwV 1 F.1.2.2.2.2 gX6_takeReceipt_X6_fails rfl rfl rfl (by decide +kernel) ⟨Nat.le_of_ble_eq_true rfl, Nat.le_of_ble_eq_true rfl⟩) rfl hM.1 rfl rfl rfl rfl (Nat.le_of_ble_eq_true rfl) dX6_takeReceipt_28 ⟨Nat.le_of_ble_eq_true rfl, Nat.le_of_ble_eq_true rfl⟩ ?_
    refine g_ifb_eq F (tgt := 36) dX6_takeReceipt_31 (by decide) (fun c2 => ?_) (fun c2 => ?_)
    ·
      replace c2 := Classical.not_not.mp c2
      have hok := cd_okn.mp c2
      obtain ⟨hia, hia4⟩ := ix_acc hok.1
      have hrr := hr9 hok.1
      have hr0 : 0 < r := by
        rcases Nat.eq_zero_or_pos r with q | q
        · subst q; exact absurd hrr hok.2
        · exact q
      refine g_aload_n F 1 dX6_takeReceipt_36 rfl rfl ?_
      refine mg_get F hM hin 10 (by decide) rfl (by decide +kernel) rfl dX6_takeReceipt_37 ?_
      refine g_bipush F dX6_takeReceipt_40 (v := 40) (by decide) ?_
      refine g_iload_n F 2 dX6_takeReceipt_42 rfl rfl ?_
      refine g_imul F dX6_takeReceipt_43 ?_
      refine mg_ald F hM 10 rfl (nI_mulE (show 40 = nI 40 from rfl) (show its = nI (ix its) from hia)) (show (40 * (ix its)) < 160 by omega) (v := (σ 10 (40 * (ix its)))) ((up2_ne _ _ (fun h => absurd h.1 (by decide))).trans rfl) dX6_takeReceipt_44 ?_
      refine g_istore_n F (lv1 := [(3, .int (σ 10 (40 * (ix its)))), (2, .int (bi (accP its))), (0, .ref (ad 0 0)), (1, .int its)]) dX6_takeReceipt_45 rfl (by decide) rfl ?_
      refine g_aload_n F 2 dX6_takeReceipt_46 rfl rfl ?_
      refine mg_get F hM hin 9 (by decide) rfl (by decide +kernel) rfl dX6_takeReceipt_47 ?_
      refine g_iload_n F 3 dX6_takeReceipt_50 rfl rfl ?_
      refine g_dup2 F dX6_takeReceipt_51 rfl rfl ?_
      refine mg_ald F hM 9 rfl hia (show (ix its) < 4 by omega) (v := (σ 9 (ix its))) ((up2_ne _ _ (fun h => absurd h.1 (by decide))).trans rfl) dX6_takeReceipt_52 ?_
      refine g_iconst F dX6_takeReceipt_53 (v := 1) (by decide) ?_
      refine g_isub F dX6_takeReceipt_54 ?_
      refine mg_ast F hM 9 rfl hia (show (ix its) < 4 by omega) dX6_takeReceipt_55 ?_
      refine g_bipush F dX6_takeReceipt_56 (v := 40) (by decide) ?_
      refine g_iload_n F 3 dX6_takeReceipt_58 rfl rfl ?_
      refine g_imul F dX6_takeReceipt_59 ?_
      refine g_istore F (lv1 := [(4, .int (40 * its)), (3, .int (σ 10 (40 * (ix its)))), (2, .int (bi (accP its))), (0, .ref (ad 0 0)), (1, .int its)]) dX6_takeReceipt_60 (by decide) rfl ?_
      refine g_loop (r - 1) 0 (by omega) (fun i9 => (mw ad cs (tkF (up2 (up2 σ 32 0 (if accP its then (if (σ 9 (ix its)) = 0 then 2 else 0) else 1 : Int32)) 9 (ix its) ((σ 9 (ix its)) - 1)) (ix its) i9) w0)) (fun i9 => [(4, .int (nI ((40 * ix its) + i9))), (3, .int (σ 10 (40 * (ix its)))), (2, .int (bi (accP its))), (0, .ref (ad 0 0)), (1, .int its)]) rfl (by rw [show nI ((40 * ix its) + 0) = (40 * its) from (by rw [Nat.add_zero, ← pk_mul, ← hia]; rfl)]) ?_ (fun i9 _ hk9 ih9 => ?_)
      ·
        show GG p l e _ s m _ below meth c D A ad dm _ _ _ _ (mw ad cs (tkF (up2 (up2 σ 32 0 (if accP its then (if (σ 9 (ix its)) = 0 then 2 else 0) else 1 : Int32)) 9 (ix its) ((σ 9 (ix its)) - 1)) (ix its) (r - 1)) w0) 62 [(4, .int (nI ((40 * ix its) + (r - 1)))), (3, .int (σ 10 (40 * (ix its)))), (2, .int (bi (accP its))), (0, .ref (ad 0 0)), (1, .int its)] []
        refine g_iload F 0 dX6_takeReceipt_62 rfl ?_
        refine g_bipush F dX6_takeReceipt_64 (v := 40) (by decide) ?_
        refine g_iload_n F 4 dX6_takeReceipt_66 rfl rfl ?_
        refine g_imul F dX6_takeReceipt_67 ?_
        refine g_aload_n F 3 dX6_takeReceipt_68 rfl rfl ?_
        refine mg_get F hM hin 9 (by decide) rfl (by decide +kernel) rfl dX6_takeReceipt_69 ?_
        refine g_iload_n F 4 dX6_takeReceipt_72 rfl rfl ?_
        refine mg_ald F hM 9 rfl hia (show (ix its) < 4 by omega) (v := ((tkF (up2 (up2 σ 32 0 (if accP its then (if (σ 9 (ix its)) = 0 then 2 else 0) else 1 : Int32)) 9 (ix its) ((σ 9 (ix its)) - 1)) (ix its) (r - 1)) 9 (ix its))) rfl dX6_takeReceipt_73 ?_
        refine g_iadd F dX6_takeReceipt_74 ?_
        refine g_icmp_ge F (tgt := 100) dX6_takeReceipt_75 (by decide) (fun c3 => ?_) (fun c3 => ?_)
        ·
          refine g_iload_n F 1 dX6_takeReceipt_100 rfl rfl ?_
          exact g_iret F hr ((if_pos hok).symm) hlocks (fun _ h => by rw [show (mw ad cs (if ((accP its) ∧ ¬ ((σ 9 (ix its)) = 0)) then (tkS (up2 σ 32 0 (if accP its then (if (σ 9 (ix its)) = 0 then 2 else 0) else 1 : Int32)) (ix its) r) else (up2 σ 32 0 (if accP its then (if (σ 9 (ix its)) = 0 then 2 else 0) else 1 : Int32))) w0) = (mw ad cs (tkF (up2 (up2 σ 32 0 (if accP its then (if (σ 9 (ix its)) = 0 then 2 else 0) else 1 : Int32)) 9 (ix its) ((σ 9 (ix its)) - 1)) (ix its) (r - 1)) w0) from (by rw [if_pos hok]; unfold tkS; rw [up2_ne _ _ (fun h => absurd h.1 (by decide))])]; exact h) dX6_takeReceipt_101
        ·
          exact absurd ((nI_leE (show ((40 * its) + ((tkF (up2 (up2 σ 32 0 (if accP its then (if (σ 9 (ix its)) = 0 then 2 else 0) else 1 : Int32)) 9 (ix its) ((σ 9 (ix its)) - 1)) (ix its) (r - 1)) 9 (ix its))) = nI ((40 * (ix its)) + (r - 1)) from (nI_addE (show (40 * its) = nI (40 * (ix its)) from (nI_mulE (show 40 = nI 40 from rfl) (show its = nI (ix its) from hia))) (show ((tkF (up2 (up2 σ 32 0 (if accP its then (if (σ 9 (ix its)) = 0 then 2 else 0) else 1 : Int32)) 9 (ix its) ((σ 9 (ix its)) - 1)) (ix its) (r - 1)) 9 (ix its)) = nI (r - 1) from (by first | exact hrr | (rw [tkF_ne _ _ (by decide), up2_self, hrr]; exact nI_m1 hr0))))) (show (nI ((40 * ix its) + (r - 1))) = nI ((40 * ix its) + (r - 1)) from rfl) (show ((40 * (ix its)) + (r - 1)) < 2 ^ 31 by omega) (show ((40 * ix its) + (r - 1)) < 2 ^ 31 by omega)).mpr (by omega)) c3
      ·
        replace ih9 : GG p l e _ s m _ below meth c D A ad dm _ _ _ _ (mw ad cs (tkF (up2 (up2 σ 32 0 (if accP its then (if (σ 9 (ix its)) = 0 then 2 else 0) else 1 : Int32)) 9 (ix its) ((σ 9 (ix its)) - 1)) (ix its) (i9 + 1)) w0) 62 [(4, .int (nI ((40 * ix its) + (i9 + 1)))), (3, .int (σ 10 (40 * (ix its)))), (2, .int (bi (accP its))), (0, .ref (ad 0 0)), (1, .int its)] [] := ih9
        show GG p l e _ s m _ below meth c D A ad dm _ _ _ _ (mw ad cs (tkF (up2 (up2 σ 32 0 (if accP its then (if (σ 9 (ix its)) = 0 then 2 else 0) else 1 : Int32)) 9 (ix its) ((σ 9 (ix its)) - 1)) (ix its) i9) w0) 62 [(4, .int (nI ((40 * ix its) + i9))), (3, .int (σ 10 (40 * (ix its)))), (2, .int (bi (accP its))), (0, .ref (ad 0 0)), (1, .int its)] []
        refine g_iload F 0 dX6_takeReceipt_62 rfl ?_
        refine g_bipush F dX6_takeReceipt_64 (v := 40) (by decide) ?_
        refine g_iload_n F 4 dX6_takeReceipt_66 rfl rfl ?_
        refine g_imul F dX6_takeReceipt_67 ?_
        refine g_aload_n F 3 dX6_takeReceipt_68 rfl rfl ?_
        refine mg_get F hM hin 9 (by decide) rfl (by decide +kernel) rfl dX6_takeReceipt_69 ?_
        refine g_iload_n F 4 dX6_takeReceipt_72 rfl rfl ?_
        refine mg_ald F hM 9 rfl hia (show (ix its) < 4 by omega) (v := ((tkF (up2 (up2 σ 32 0 (if accP its then (if (σ 9 (ix its)) = 0 then 2 else 0) else 1 : Int32)) 9 (ix its) ((σ 9 (ix its)) - 1)) (ix its) i9) 9 (ix its))) rfl dX6_takeReceipt_73 ?_
        refine g_iadd F dX6_takeReceipt_74 ?_
        refine g_icmp_ge F (tgt := 100) dX6_takeReceipt_75 (by decide) (fun c4 => ?_) (fun c4 => ?_)
        ·
          exact absurd ((nI_leE (show ((40 * its) + ((tkF (up2 (up2 σ 32 0 (if accP its then (if (σ 9 (ix its)) = 0 then 2 else 0) else 1 : Int32)) 9 (ix its) ((σ 9 (ix its)) - 1)) (ix its) i9) 9 (ix its))) = nI ((40 * (ix its)) + (r - 1)) from (nI_addE (show (40 * its) = nI (40 * (ix its)) from (nI_mulE (show 40 = nI 40 from rfl) (show its = nI (ix its) from hia))) (show ((tkF (up2 (up2 σ 32 0 (if accP its then (if (σ 9 (ix its)) = 0 then 2 else 0) else 1 : Int32)) 9 (ix its) ((σ 9 (ix its)) - 1)) (ix its) i9) 9 (ix its)) = nI (r - 1) from (by first | exact hrr | (rw [tkF_ne _ _ (by decide), up2_self, hrr]; exact nI_m1 hr0))))) (show (nI ((40 * ix its) + i9)) = nI ((40 * ix its) + i9) from rfl) (show ((40 * (ix its)) + (r - 1)) < 2 ^ 31 by omega) (show ((40 * ix its) + i9) < 2 ^ 31 by omega)).mp c4) (by omega)
        ·
          refine g_aload_n F 3 dX6_takeReceipt_78 rfl rfl ?_
          refine mg_get F hM hin 10 (by decide) rfl (by decide +kernel) rfl dX6_takeReceipt_79 ?_
          refine g_iload F 0 dX6_takeReceipt_82 rfl ?_
          refine g_aload_n F 3 dX6_takeReceipt_84 rfl rfl ?_
          refine mg_get F hM hin 10 (by decide) rfl (by decide +kernel) rfl dX6_takeReceipt_85 ?_
          refine g_iload F 0 dX6_takeReceipt_88 rfl ?_
          refine g_iconst F dX6_takeReceipt_90 (v := 1) (by decide) ?_
          refine g_iadd F dX6_takeReceipt_91 ?_
          refine mg_ald F hM 10 rfl (nI_addE (show (nI ((40 * ix its) + i9)) = nI ((40 * ix its) + i9) from rfl) (show 1 = nI 1 from rfl)) (show (((40 * ix its) + i9) + 1) < 160 by omega) (v := ((tkF (up2 (up2 σ 32 0 (if accP its then (if (σ 9 (ix its)) = 0 then 2 else 0) else 1 : Int32)) 9 (ix its) ((σ 9 (ix its)) - 1)) (ix its) i9) 10 (((40 * ix its) + i9) + 1))) rfl dX6_takeReceipt_92 ?_
          refine mg_ast F hM 10 rfl rfl (show ((40 * ix its) + i9) < 160 by omega) dX6_takeReceipt_93 ?_
          refine g_iinc F (v := (nI (((40 * ix its) + i9) + 1))) (lv1 := [(4, .int (nI (((40 * ix its) + i9) + 1))), (3, .int (σ 10 (40 * (ix its)))), (2, .int (bi (accP its))), (0, .ref (ad 0 0)), (1, .int its)]) 0 dX6_takeReceipt_94 rfl (nI_1 ((40 * ix its) + i9)) (by decide) rfl ?_
          refine g_goto F (tgt := 62) dX6_takeReceipt_97 (by decide) ?_
          exact g_lv [0, 1, 2, 3, 4] rfl (g_w (w1 := (mw ad cs (tkF (up2 (up2 σ 32 0 (if accP its then (if (σ 9 (ix its)) = 0 then 2 else 0) else 1 : Int32)) 9 (ix its) ((σ 9 (ix its)) - 1)) (ix its) (i9 + 1)) w0)) rfl ih9)
    ·
      refine g_iconst F dX6_takeReceipt_34 (v := 0) (by decide) ?_
      exact g_iret F hr ((if_neg (fun q => c2 (cd_okn.mpr q))).symm) hlocks (fun _ h => by rw [show (mw ad cs (if ((accP its) ∧ ¬ ((σ 9 (ix its)) = 0)) then (tkS (up2 σ 32 0 (if accP its then (if (σ 9 (ix its)) = 0 then 2 else 0) else 1 : Int32)) (ix its) r) else (up2 σ 32 0 (if accP its then (if (σ 9 (ix its)) = 0 then 2 else 0) else 1 : Int32))) w0) = (mw ad cs (up2 σ 32 0 (if accP its then (if (σ 9 (ix its)) = 0 then 2 else 0) else 1 : Int32)) w0) from (by rw [if_neg (fun q => c2 (cd_okn.mpr q))])]; exact h) dX6_takeReceipt_35
  ·
    refine g_ifb_ne F (tgt := 14) dX6_takeReceipt_7 (by decide) (fun c5 => ?_) (fun c5 => ?_)
    ·
      refine g_aload_n F 1 dX6_takeReceipt_14 rfl rfl ?_
      refine mg_get F hM hin 9 (by decide) rfl (by decide +kernel) rfl dX6_takeReceipt_15 ?_
      refine g_iload_n F 2 dX6_takeReceipt_18 rfl rfl ?_
      refine mg_ald F hM 9 rfl (ix_acc ‹accP its›).1 (ix_acc ‹accP its›).2 (v := (σ 9 (ix its))) rfl dX6_takeReceipt_19 ?_
      refine g_if_ne F (tgt := 27) dX6_takeReceipt_20 (by decide) (fun c6 => ?_) (fun c6 => ?_)
      ·
        refine g_iconst F dX6_takeReceipt_27 (v := 0) (by decide) ?_
        exact g_top (by rw [if_pos c5, if_neg c6]) hJ1
      ·
        refine g_iconst F dX6_takeReceipt_23 (v := 2) (by decide) ?_
        refine g_goto F (tgt := 28) dX6_takeReceipt_24 (by decide) ?_
        exact g_top (by rw [if_pos c5, if_pos c6]) hJ1
    ·
      refine g_iconst F dX6_takeReceipt_10 (v := 1) (by decide) ?_
      refine g_goto F (tgt := 28) dX6_takeReceipt_11 (by decide) ?_
      exact g_top (by rw [if_neg c5]) hJ1
