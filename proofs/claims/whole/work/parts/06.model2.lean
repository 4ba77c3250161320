abbrev knP (σ : SG) (a : Nat) (v to : Int32) (k : Nat) : Prop := (σ 12 k) = v ∧ (σ 13 k) = to ∧ (σ 21 k) = (σ 5 a) ∧ ¬ 30 ≤ ((σ 0 0) - (σ 16 k))
def knF (σ : SG) (a : Nat) (v to : Int32) : Nat → Int32
  | 0 => -1
  | k + 1 => if knP σ a v to k then nI k else knF σ a v to k
def knG (σ : SG) (a : Nat) (v to : Int32) (k : Nat) : Int32 := if (σ 5 a) = (-1) then -1 else knF σ a v to k
theorem knG_0 (σ : SG) (a : Nat) (v to : Int32) : knG σ a v to 0 = -1 := by unfold knG; split <;> rfl
theorem knG_none {σ : SG} {a : Nat} (v to : Int32) (k : Nat) (h : (σ 5 a) = (-1)) : knG σ a v to k = -1 := if_pos h
theorem knG_s {σ : SG} {a : Nat} (v to : Int32) (k : Nat) (h : ¬ (σ 5 a) = (-1)) : knG σ a v to (k + 1) = if knP σ a v to k then nI k else knG σ a v to k := by
  unfold knG; rw [if_neg h, if_neg h]; rfl
set_option maxHeartbeats 4000000 in
set_option maxRecDepth 100000 in
theorem mc_known (l : Launch) (D : va_G) (A : Nat → Prop) (cs : Nat → ClassId) (ad : Nat → Nat → Nat) (dm : Nat → Nat → Prop) (w0 : CF) (σ : SG) (v to : Int32) (a n : Nat) (hM : MD dm) (hn : σ 11 0 = nI n) (hn40 : n ≤ 40) (hva : v = nI a) (ha : a < 4) : Met l yX6_known wsX6_known ({ frames := 0, cells := 0, slots := 0, locals := 0 }) (va_Pc [.ref (ad 0 0), .int v, .int to] (PW D A (tysG cs) ad dm (mw ad cs σ w0))) (va_Qi (fun r (_ : Unit) => r = (knG σ a v to n)) (fun _ t => PW D A (tysG cs) ad dm (mw ad cs σ w0) t) A) 0 0 A := by
  refine g_start (own := RX6) [.ref (ad 0 0), .int v, .int to] (cc := cX6_known) (maxL := 6) (ret := (some .int)) (lv0 := [(0, .ref (ad 0 0)), (1, .int v), (2, .int to)]) (by decide) rfl rfl (Nat.le_of_ble_eq_true rfl) rfl ?_
  intro p e s m below meth c F hr hlocks hname
  have hin : ∀ w ∈ wsX60, w ∈ wsX6_known := by decide +kernel
  refine g_iconst F dX6_known_0 (v := -1) (by decide) ?_
  refine g_istore_n F (lv1 := [(3, .int (-1)), (0, .ref (ad 0 0)), (1, .int v), (2, .int to)]) dX6_known_1 rfl (by decide) rfl ?_
  refine g_iconst F dX6_known_2 (v := 0) (by decide) ?_
  refine g_istore F (lv1 := [(4, .int 0), (3, .int (-1)), (0, .ref (ad 0 0)), (1, .int v), (2, .int to)]) dX6_known_3 (by decide) rfl ?_
  refine g_loop n 0 (by omega) (fun k1 => (mw ad cs σ w0)) (fun k1 => [(4, .int (nI k1)), (3, .int (knG σ a v to k1)), (0, .ref (ad 0 0)), (1, .int v), (2, .int to)]) rfl (by rw [knG_0]; rfl) ?_ (fun k1 hk3 hk4 ih2 => ?_)
  ·
    show GG p l e _ s m _ below meth c D A ad dm _ _ _ _ (mw ad cs σ w0) 5 [(4, .int (nI n)), (3, .int (knG σ a v to n)), (0, .ref (ad 0 0)), (1, .int v), (2, .int to)] []
    refine g_iload F 0 dX6_known_5 rfl ?_
    refine g_aload_n F 2 dX6_known_7 rfl rfl ?_
    refine mg_get F hM hin 11 (by decide) (congrArg (fun z : Int32 => some (Value.int z)) (show σ 11 0 = (nI n) from hn)) (by decide +kernel) rfl dX6_known_8 ?_
    refine g_icmp_ge F (tgt := 104) dX6_known_11 (by decide) (fun c5 => ?_) (fun c5 => ?_)
    ·
      refine g_iload_n F 1 dX6_known_104 rfl rfl ?_
      exact g_iret F hr rfl hlocks (fun _ h => h) dX6_known_105
    ·
      exact absurd ((nI_leE (show (nI n) = nI n from rfl) (show (nI n) = nI n from rfl) (show n < 2 ^ 31 by omega) (show n < 2 ^ 31 by omega)).mpr (by omega)) c5
  ·
    replace ih2 : GG p l e _ s m _ below meth c D A ad dm _ _ _ _ (mw ad cs σ w0) 5 [(4, .int (nI (k1 + 1))), (3, .int (knG σ a v to (k1 + 1))), (0, .ref (ad 0 0)), (1, .int v), (2, .int to)] [] := ih2
    show GG p l e _ s m _ below meth c D A ad dm _ _ _ _ (mw ad cs σ w0) 5 [(4, .int (nI k1)), (3, .int (knG σ a v to k1)), (0, .ref (ad 0 0)), (1, .int v), (2, .int to)] []
    refine g_iload F 0 dX6_known_5 rfl ?_
    refine g_aload_n F 2 dX6_known_7 rfl rfl ?_
    refine mg_get F hM hin 11 (by decide) (congrArg (fun z : Int32 => some (Value.int z)) (show σ 11 0 = (nI n) from hn)) (by decide +kernel) rfl dX6_known_8 ?_
    refine g_icmp_ge F (tgt := 104) dX6_known_11 (by decide) (fun c6 => ?_) (fun c6 => ?_)
    ·
      exact absurd ((nI_leE (show (nI n) = nI n from rfl) (show (nI k1) = nI k1 from rfl) (show n < 2 ^ 31 by omega) (show k1 < 2 ^ 31 by omega)).mp c6) (by omega)
    ·
      refine g_aload_n F 2 dX6_known_14 rfl rfl ?_
      refine mg_get F hM hin 5 (by decide) rfl (by decide +kernel) rfl dX6_known_15 ?_
      refine g_iload_n F 3 dX6_known_18 rfl rfl ?_
      refine mg_ald F hM 5 rfl hva (show a < 4 by omega) (v := (σ 5 a)) rfl dX6_known_19 ?_
      refine g_iconst F dX6_known_20 (v := -1) (by decide) ?_
      refine g_icmp_eq F (tgt := 104) dX6_known_21 (by decide) (fun c7 => ?_) (fun c7 => ?_)
      ·
        refine g_iload_n F 1 dX6_known_104 rfl rfl ?_
        exact g_iret F hr ((knG_none v to _ c7).trans (knG_none v to _ c7).symm) hlocks (fun _ h => h) dX6_known_105
      ·
        refine g_aload_n F 2 dX6_known_24 rfl rfl ?_
        refine mg_get F hM hin 12 (by decide) rfl (by decide +kernel) rfl dX6_known_25 ?_
        refine g_iload F 0 dX6_known_28 rfl ?_
        refine mg_ald F hM 12 rfl rfl (show k1 < 40 by omega) (v := (σ 12 k1)) rfl dX6_known_30 ?_
        refine g_iload_n F 3 dX6_known_31 rfl rfl ?_
        refine g_cut (w2 := (mw ad cs σ w0)) (pc2 := 84) (lv2 := [(4, .int (nI k1)), (3, .int (knG σ a v to k1)), (0, .ref (ad 0 0)), (1, .int v), (2, .int to)]) (st2 := [.int (bi ((((σ 12 k1) = v) ∧ (((σ 13 k1) = to) ∧ (((σ 21 k1) = (σ 5 a)) ∧ (¬ 30 ≤ ((σ 0 0) - (σ 16 k1))))))))]) ?_ (fun hJ8 => ?_)
        ·
          refine g_istore F (lv1 := [(5, .int (bi ((((σ 12 k1) = v) ∧ (((σ 13 k1) = to) ∧ (((σ 21 k1) = (σ 5 a)) ∧ (¬ 30 ≤ ((σ 0 0) - (σ 16 k1))))))))), (4, .int (nI k1)), (3, .int (knG σ a v to k1)), (0, .ref (ad 0 0)), (1, .int v), (2, .int to)]) dX6_known_84 (by decide) rfl ?_
          refine g_iload F 0 dX6_known_86 rfl ?_
          refine g_cut (w2 := (mw ad cs σ w0)) (pc2 := 97) (lv2 := [(5, .int (bi ((((σ 12 k1) = v) ∧ (((σ 13 k1) = to) ∧ (((σ 21 k1) = (σ 5 a)) ∧ (¬ 30 ≤ ((σ 0 0) - (σ 16 k1))))))))), (4, .int (nI k1)), (3, .int (knG σ a v to k1)), (0, .ref (ad 0 0)), (1, .int v), (2, .int to)]) (st2 := [.int (if (((σ 12 k1) = v) ∧ (((σ 13 k1) = to) ∧ (((σ 21 k1) = (σ 5 a)) ∧ (¬ 30 ≤ ((σ 0 0) - (σ 16 k1)))))) then (nI k1) else (knG σ a v to k1) : Int32)]) ?_ (fun hJ9 => ?_)
          ·
            refine g_istore_n F (lv1 := [(3, .int (if (((σ 12 k1) = v) ∧ (((σ 13 k1) = to) ∧ (((σ 21 k1) = (σ 5 a)) ∧ (¬ 30 ≤ ((σ 0 0) - (σ 16 k1)))))) then (nI k1) else (knG σ a v to k1) : Int32)), (5, .int (bi ((((σ 12 k1) = v) ∧ (((σ 13 k1) = to) ∧ (((σ 21 k1) = (σ 5 a)) ∧ (¬ 30 ≤ ((σ 0 0) - (σ 16 k1))))))))), (4, .int (nI k1)), (0, .ref (ad 0 0)), (1, .int v), (2, .int to)]) dX6_known_97 rfl (by decide) rfl ?_
            refine g_iinc F (v := (nI (k1 + 1))) (lv1 := [(4, .int (nI (k1 + 1))), (3, .int (if (((σ 12 k1) = v) ∧ (((σ 13 k1) = to) ∧ (((σ 21 k1) = (σ 5 a)) ∧ (¬ 30 ≤ ((σ 0 0) - (σ 16 k1)))))) then (nI k1) else (knG σ a v to k1) : Int32)), (5, .int (bi ((((σ 12 k1) = v) ∧ (((σ 13 k1) = to) ∧ (((σ 21 k1) = (σ 5 a)) ∧ (¬ 30 ≤ ((σ 0 0) - (σ 16 k1))))))))), (0, .ref (ad 0 0)), (1, .int v), (2, .int to)]) 2 dX6_known_98 rfl (nI_1 k1) (by decide) rfl ?_
            refine g_goto F (tgt := 5) dX6_known_101 (by decide) ?_
            exact g_lv [0, 1, 3, 4, 5] (by rw [knG_s v to k1 c7]; try rfl) ih2
          ·
            refine g_ifb_eq F (tgt := 96) dX6_known_88 (by decide) (fun c10 => ?_) (fun c10 => ?_)
            ·
              refine g_iload_n F 2 dX6_known_96 rfl rfl ?_
              exact g_top (by rw [if_neg c10]) hJ9
            ·
              refine g_iload F 1 dX6_known_91 rfl ?_
              refine g_goto F (tgt := 97) dX6_known_93 (by decide) ?_
              exact g_top (by rw [if_pos c10]) hJ9
        ·
          refine g_icmp_ne F (tgt := 83) dX6_known_32 (by decide) (fun c11 => ?_) (fun c11 => ?_)
          ·
            refine g_iconst F dX6_known_83 (v := 0) (by decide) ?_
            exact g_top (bi_f (fun q => c11 q.1)) hJ8
          ·
            refine g_aload_n F 2 dX6_known_35 rfl rfl ?_
            refine mg_get F hM hin 13 (by decide) rfl (by decide +kernel) rfl dX6_known_36 ?_
            refine g_iload F 0 dX6_known_39 rfl ?_
            refine mg_ald F hM 13 rfl rfl (show k1 < 40 by omega) (v := (σ 13 k1)) rfl dX6_known_41 ?_
            refine g_iload_n F 4 dX6_known_42 rfl rfl ?_
            refine g_icmp_ne F (tgt := 83) dX6_known_43 (by decide) (fun c12 => ?_) (fun c12 => ?_)
            ·
              refine g_iconst F dX6_known_83 (v := 0) (by decide) ?_
              exact g_top (bi_f (fun q => (fun q => c12 q.1) q.2)) hJ8
            ·
              refine g_aload_n F 2 dX6_known_46 rfl rfl ?_
              refine mg_get F hM hin 21 (by decide) rfl (by decide +kernel) rfl dX6_known_47 ?_
              refine g_iload F 0 dX6_known_50 rfl ?_
              refine mg_ald F hM 21 rfl rfl (show k1 < 40 by omega) (v := (σ 21 k1)) rfl dX6_known_52 ?_
              refine g_aload_n F 2 dX6_known_53 rfl rfl ?_
              refine mg_get F hM hin 5 (by decide) rfl (by decide +kernel) rfl dX6_known_54 ?_
              refine g_iload_n F 3 dX6_known_57 rfl rfl ?_
              refine mg_ald F hM 5 rfl hva (show a < 4 by omega) (v := (σ 5 a)) rfl dX6_known_58 ?_
              refine g_icmp_ne F (tgt := 83) dX6_known_59 (by decide) (fun c13 => ?_) (fun c13 => ?_)
              ·
                refine g_iconst F dX6_known_83 (v := 0) (by decide) ?_
                exact g_top (bi_f (fun q => (fun q => (fun q => c13 q.1) q.2) q.2)) hJ8
              ·
                refine g_aload_n F 2 dX6_known_62 rfl rfl ?_
                refine mg_get F hM hin 0 (by decide) rfl (by decide +kernel) rfl dX6_known_63 ?_
                refine g_aload_n F 2 dX6_known_66 rfl rfl ?_
                refine mg_get F hM hin 16 (by decide) rfl (by decide +kernel) rfl dX6_known_67 ?_
                refine g_iload F 0 dX6_known_70 rfl ?_
                refine mg_ald F hM 16 rfl rfl (show k1 < 40 by omega) (v := (σ 16 k1)) rfl dX6_known_72 ?_
                refine g_isub F dX6_known_73 ?_
                refine g_bipush F dX6_known_74 (v := 30) (by decide) ?_
                refine g_icmp_ge F (tgt := 83) dX6_known_76 (by decide) (fun c14 => ?_) (fun c14 => ?_)
                ·
                  refine g_iconst F dX6_known_83 (v := 0) (by decide) ?_
                  exact g_top (bi_f (fun q => (fun q => (fun q => (fun q => q c14) q.2) q.2) q.2)) hJ8
                ·
                  refine g_iconst F dX6_known_79 (v := 1) (by decide) ?_
                  refine g_goto F (tgt := 84) dX6_known_80 (by decide) ?_
                  exact g_top (bi_t ⟨c11, ⟨c12, ⟨c13, c14⟩⟩⟩) hJ8
abbrev thP (σ : SG) (a : Nat) (v : Int32) (k : Nat) : Prop := (σ 12 k) = v ∧ ¬ (σ 8 a) ≤ ((σ 0 0) - (σ 16 k))
def thF (σ : SG) (a : Nat) (v : Int32) : Nat → Int32
  | 0 => 0
  | k + 1 => thF σ a v k + bi (thP σ a v k)
set_option maxHeartbeats 4000000 in
set_option maxRecDepth 100000 in
theorem mc_isThrottled (l : Launch) (D : va_G) (A : Nat → Prop) (cs : Nat → ClassId) (ad : Nat → Nat → Nat) (dm : Nat → Nat → Prop) (w0 : CF) (σ : SG) (v : Int32) (a n : Nat) (hM : MD dm) (hn : σ 11 0 = nI n) (hn40 : n ≤ 40) (hva : v = nI a) (ha : a < 4) : Met l yX6_isThrottled wsX6_isThrottled ({ frames := 0, cells := 0, slots := 0, locals := 0 }) (va_Pc [.ref (ad 0 0), .int v] (PW D A (tysG cs) ad dm (mw ad cs σ w0))) (va_Qi (fun r (_ : Unit) => r = (bi (¬ (thF σ a v n) < (σ 7 a)))) (fun _ t => PW D A (tysG cs) ad dm (mw ad cs σ w0) t) A) 0 0 A := by
  refine g_start (own := RX6) [.ref (ad 0 0), .int v] (cc := cX6_isThrottled) (maxL := 4) (ret := (some .boolean)) (lv0 := [(0, .ref (ad 0 0)), (1, .int v)]) (by decide) rfl rfl (Nat.le_of_ble_eq_true rfl) rfl ?_
  intro p e s m below meth c F hr hlocks hname
  have hin : ∀ w ∈ wsX60, w ∈ wsX6_isThrottled := by decide +kernel
  refine g_iconst F dX6_isThrottled_0 (v := 0) (by decide) ?_
  refine g_istore_n F (lv1 := [(2, .int 0), (0, .ref (ad 0 0)), (1, .int v)]) dX6_isThrottled_1 rfl (by decide) rfl ?_
  refine g_iconst F dX6_isThrottled_2 (v := 0) (by decide) ?_
  refine g_istore_n F (lv1 := [(3, .int 0), (2, .int 0), (0, .ref (ad 0 0)), (1, .int v)]) dX6_isThrottled_3 rfl (by decide) rfl ?_
  refine g_loop n 0 (by omega) (fun k1 => (mw ad cs σ w0)) (fun k1 => [(3, .int (nI k1)), (2, .int (thF σ a v k1)), (0, .ref (ad 0 0)), (1, .int v)]) rfl rfl ?_ (fun k1 hk3 hk4 ih2 => ?_)
  ·
    show GG p l e _ s m _ below meth c D A ad dm _ _ _ _ (mw ad cs σ w0) 4 [(3, .int (nI n)), (2, .int (thF σ a v n)), (0, .ref (ad 0 0)), (1, .int v)] []
    refine g_iload_n F 0 dX6_isThrottled_4 rfl rfl ?_
    refine g_aload_n F 2 dX6_isThrottled_5 rfl rfl ?_
    refine mg_get F hM hin 11 (by decide) (congrArg (fun z : Int32 => some (Value.int z)) (show σ 11 0 = (nI n) from hn)) (by decide +kernel) rfl dX6_isThrottled_6 ?_
    refine g_icmp_ge F (tgt := 56) dX6_isThrottled_9 (by decide) (fun c5 => ?_) (fun c5 => ?_)
    ·
      refine g_iload_n F 1 dX6_isThrottled_56 rfl rfl ?_
      refine g_aload_n F 2 dX6_isThrottled_57 rfl rfl ?_
      refine mg_get F hM hin 7 (by decide) rfl (by decide +kernel) rfl dX6_isThrottled_58 ?_
      refine g_iload_n F 3 dX6_isThrottled_61 rfl rfl ?_
      refine mg_ald F hM 7 rfl hva (show a < 4 by omega) (v := (σ 7 a)) rfl dX6_isThrottled_62 ?_
      refine g_cut (w2 := (mw ad cs σ w0)) (pc2 := 71) (lv2 := [(3, .int (nI n)), (2, .int (thF σ a v n)), (0, .ref (ad 0 0)), (1, .int v)]) (st2 := [.int (bi (¬ (thF σ a v n) < (σ 7 a)))]) ?_ (fun hJ6 => ?_)
      ·
        exact g_zret F hr (bi_nar _) rfl hlocks (fun _ h => h) dX6_isThrottled_71
      ·
        refine g_icmp_lt F (tgt := 70) dX6_isThrottled_63 (by decide) (fun c7 => ?_) (fun c7 => ?_)
        ·
          refine g_iconst F dX6_isThrottled_70 (v := 0) (by decide) ?_
          exact g_top (bi_f (fun q => q c7)) hJ6
        ·
          refine g_iconst F dX6_isThrottled_66 (v := 1) (by decide) ?_
          refine g_goto F (tgt := 71) dX6_isThrottled_67 (by decide) ?_
          exact g_top (bi_t c7) hJ6
    ·
      exact absurd ((nI_leE (show (nI n) = nI n from rfl) (show (nI n) = nI n from rfl) (show n < 2 ^ 31 by omega) (show n < 2 ^ 31 by omega)).mpr (by omega)) c5
  ·
    replace ih2 : GG p l e _ s m _ below meth c D A ad dm _ _ _ _ (mw ad cs σ w0) 4 [(3, .int (nI (k1 + 1))), (2, .int (thF σ a v (k1 + 1))), (0, .ref (ad 0 0)), (1, .int v)] [] := ih2
    show GG p l e _ s m _ below meth c D A ad dm _ _ _ _ (mw ad cs σ w0) 4 [(3, .int (nI k1)), (2, .int (thF σ a v k1)), (0, .ref (ad 0 0)), (1, .int v)] []
    refine g_iload_n F 0 dX6_isThrottled_4 rfl rfl ?_
    refine g_aload_n F 2 dX6_isThrottled_5 rfl rfl ?_
    refine mg_get F hM hin 11 (by decide) (congrArg (fun z : Int32 => some (Value.int z)) (show σ 11 0 = (nI n) from hn)) (by decide +kernel) rfl dX6_isThrottled_6 ?_
    refine g_icmp_ge F (tgt := 56) dX6_isThrottled_9 (by decide) (fun c8 => ?_) (fun c8 => ?_)
    ·
      exact absurd ((nI_leE (show (nI n) = nI n from rfl) (show (nI k1) = nI k1 from rfl) (show n < 2 ^ 31 by omega) (show k1 < 2 ^ 31 by omega)).mp c8) (by omega)
    ·
      refine g_iload_n F 1 dX6_isThrottled_12 rfl rfl ?_
      refine g_aload_n F 2 dX6_isThrottled_13 rfl rfl ?_
      refine mg_get F hM hin 12 (by decide) rfl (by decide +kernel) rfl dX6_isThrottled_14 ?_
      refine g_iload_n F 0 dX6_isThrottled_17 rfl rfl ?_
      refine mg_ald F hM 12 rfl rfl (show k1 < 40 by omega) (v := (σ 12 k1)) rfl dX6_isThrottled_18 ?_
      refine g_iload_n F 3 dX6_isThrottled_19 rfl rfl ?_
      refine g_cut (w2 := (mw ad cs σ w0)) (pc2 := 48) (lv2 := [(3, .int (nI k1)), (2, .int (thF σ a v k1)), (0, .ref (ad 0 0)), (1, .int v)]) (st2 := [.int (bi ((((σ 12 k1) = v) ∧ (¬ (σ 8 a) ≤ ((σ 0 0) - (σ 16 k1)))))), .int (thF σ a v k1)]) ?_ (fun hJ9 => ?_)
      ·
        refine g_iadd F dX6_isThrottled_48 ?_
        refine g_istore_n F (lv1 := [(2, .int ((thF σ a v k1) + (bi ((((σ 12 k1) = v) ∧ (¬ (σ 8 a) ≤ ((σ 0 0) - (σ 16 k1)))))))), (3, .int (nI k1)), (0, .ref (ad 0 0)), (1, .int v)]) dX6_isThrottled_49 rfl (by decide) rfl ?_
        refine g_iinc F (v := (nI (k1 + 1))) (lv1 := [(3, .int (nI (k1 + 1))), (2, .int ((thF σ a v k1) + (bi ((((σ 12 k1) = v) ∧ (¬ (σ 8 a) ≤ ((σ 0 0) - (σ 16 k1)))))))), (0, .ref (ad 0 0)), (1, .int v)]) 1 dX6_isThrottled_50 rfl (nI_1 k1) (by decide) rfl ?_
        refine g_goto F (tgt := 4) dX6_isThrottled_53 (by decide) ?_
        exact g_lv [0, 1, 2, 3] rfl ih2
      ·
        refine g_icmp_ne F (tgt := 47) dX6_isThrottled_20 (by decide) (fun c10 => ?_) (fun c10 => ?_)
        ·
          refine g_iconst F dX6_isThrottled_47 (v := 0) (by decide) ?_
          exact g_top (bi_f (fun q => c10 q.1)) hJ9
        ·
          refine g_aload_n F 2 dX6_isThrottled_23 rfl rfl ?_
          refine mg_get F hM hin 0 (by decide) rfl (by decide +kernel) rfl dX6_isThrottled_24 ?_
          refine g_aload_n F 2 dX6_isThrottled_27 rfl rfl ?_
          refine mg_get F hM hin 16 (by decide) rfl (by decide +kernel) rfl dX6_isThrottled_28 ?_
          refine g_iload_n F 0 dX6_isThrottled_31 rfl rfl ?_
          refine mg_ald F hM 16 rfl rfl (show k1 < 40 by omega) (v := (σ 16 k1)) rfl dX6_isThrottled_32 ?_
          refine g_isub F dX6_isThrottled_33 ?_
          refine g_aload_n F 2 dX6_isThrottled_34 rfl rfl ?_
          refine mg_get F hM hin 8 (by decide) rfl (by decide +kernel) rfl dX6_isThrottled_35 ?_
          refine g_iload_n F 3 dX6_isThrottled_38 rfl rfl ?_
          refine mg_ald F hM 8 rfl hva (show a < 4 by omega) (v := (σ 8 a)) rfl dX6_isThrottled_39 ?_
          refine g_icmp_ge F (tgt := 47) dX6_isThrottled_40 (by decide) (fun c11 => ?_) (fun c11 => ?_)
          ·
            refine g_iconst F dX6_isThrottled_47 (v := 0) (by decide) ?_
            exact g_top (bi_f (fun q => (fun q => q c11) q.2)) hJ9
          ·
            refine g_iconst F dX6_isThrottled_43 (v := 1) (by decide) ?_
            refine g_goto F (tgt := 48) dX6_isThrottled_44 (by decide) ?_
            exact g_top (bi_t ⟨c10, c11⟩) hJ9
abbrev frC (σ : SG) (v t : Int32) (k : Nat) : Prop := waitsP σ k v ∧ ¬ t < (σ 26 k)
abbrev frA (σ : SG) (v t : Int32) (k : Nat) (b : Int32) : Prop := frC σ v t k ∧ ¬ b = (-1) ∧ ((σ 14 (ix b)) < (σ 14 k) ∨ ((σ 14 k) = (σ 14 (ix b)) ∧ ¬ (σ 26 (ix b)) ≤ (σ 26 k)))
def frF (σ : SG) (v t : Int32) : Nat → Int32
  | 0 => -1
  | k + 1 => if frC σ v t k then (if frF σ v t k = (-1) then nI k else (if frA σ v t k (frF σ v t k) then nI k else frF σ v t k)) else frF σ v t k
theorem frF_ix {σ : SG} {v t : Int32} : ∀ {k : Nat}, k ≤ 40 → ¬ frF σ v t k = (-1) → frF σ v t k = nI (ix (frF σ v t k)) ∧ ix (frF σ v t k) < k
  | 0, _, h => absurd rfl h
  | k + 1, hk, h => by
    have hnew : ∀ x : Int32, x = nI k → x = nI (ix x) ∧ ix x < k + 1 := by
      intro x hx
      rw [hx, ix_nI (by omega)]
      exact ⟨rfl, by omega⟩
    have hold : ¬ frF σ v t k = (-1) → frF σ v t k = nI (ix (frF σ v t k)) ∧ ix (frF σ v t k) < k + 1 := fun q => ⟨(frF_ix (by omega) q).1, by have := (frF_ix (by omega) q).2; omega⟩
    unfold frF at h ⊢
    split
    · next h1 =>
      rw [if_pos h1] at h
      split
      · exact hnew _ rfl
      · next h2 =>
        rw [if_neg h2] at h
        split
        · exact hnew _ rfl
        · exact hold h2
    · next h1 =>
      rw [if_neg h1] at h
      exact hold h
set_option maxHeartbeats 4000000 in
set_option maxRecDepth 100000 in
theorem mc_first (l : Launch) (D : va_G) (A : Nat → Prop) (cs : Nat → ClassId) (ad : Nat → Nat → Nat) (dm : Nat → Nat → Prop) (w0 : CF) (σ : SG) (v t : Int32) (n : Nat) (hM : MD dm) (hn : σ 11 0 = nI n) (hn40 : n ≤ 40) : Met l yX6_first wsX6_first ({ frames := 1, cells := 0, slots := 0, locals := 22 }) (va_Pc [.ref (ad 0 0), .int v, .int t] (PW D A (tysG cs) ad dm (mw ad cs σ w0))) (va_Qi (fun r (_ : Unit) => r = (frF σ v t n)) (fun _ t => PW D A (tysG cs) ad dm (mw ad cs σ w0) t) A) 0 0 A := by
  refine g_start (own := RX6) [.ref (ad 0 0), .int v, .int t] (cc := cX6_first) (maxL := 7) (ret := (some .int)) (lv0 := [(0, .ref (ad 0 0)), (1, .int v), (2, .int t)]) (by decide) rfl rfl (Nat.le_of_ble_eq_true rfl) rfl ?_
  intro p e s m below meth c F hr hlocks hname
  have hin : ∀ w ∈ wsX60, w ∈ wsX6_first := by decide +kernel
  refine g_iconst F dX6_first_0 (v := -1) (by decide) ?_
  refine g_istore_n F (lv1 := [(3, .int (-1)), (0, .ref (ad 0 0)), (1, .int v), (2, .int t)]) dX6_first_1 rfl (by decide) rfl ?_
  refine g_iconst F dX6_first_2 (v := 0) (by decide) ?_
  refine g_istore F (lv1 := [(4, .int 0), (3, .int (-1)), (0, .ref (ad 0 0)), (1, .int v), (2, .int t)]) dX6_first_3 (by decide) rfl ?_
  refine g_loop n 0 (by omega) (fun k1 => (mw ad cs σ w0)) (fun k1 => [(4, .int (nI k1)), (3, .int (frF σ v t k1)), (0, .ref (ad 0 0)), (1, .int v), (2, .int t)]) rfl rfl ?_ (fun k1 hk3 hk4 ih2 => ?_)
  ·
    show GG p l e _ s m _ below meth c D A ad dm _ _ _ _ (mw ad cs σ w0) 5 [(4, .int (nI n)), (3, .int (frF σ v t n)), (0, .ref (ad 0 0)), (1, .int v), (2, .int t)] []
    refine g_iload F 0 dX6_first_5 rfl ?_
    refine g_aload_n F 2 dX6_first_7 rfl rfl ?_
    refine mg_get F hM hin 11 (by decide) (congrArg (fun z : Int32 => some (Value.int z)) (show σ 11 0 = (nI n) from hn)) (by decide +kernel) rfl dX6_first_8 ?_
    refine g_icmp_ge F (tgt := 135) dX6_first_11 (by decide) (fun c5 => ?_) (fun c5 => ?_)
    ·
      refine g_iload_n F 1 dX6_first_135 rfl rfl ?_
      exact g_iret F hr rfl hlocks (fun _ h => h) dX6_first_136
    ·
      exact absurd ((nI_leE (show (nI n) = nI n from rfl) (show (nI n) = nI n from rfl) (show n < 2 ^ 31 by omega) (show n < 2 ^ 31 by omega)).mpr (by omega)) c5
  ·
    replace ih2 : GG p l e _ s m _ below meth c D A ad dm _ _ _ _ (mw ad cs σ w0) 5 [(4, .int (nI (k1 + 1))), (3, .int (frF σ v t (k1 + 1))), (0, .ref (ad 0 0)), (1, .int v), (2, .int t)] [] := ih2
    show GG p l e _ s m _ below meth c D A ad dm _ _ _ _ (mw ad cs σ w0) 5 [(4, .int (nI k1)), (3, .int (frF σ v t k1)), (0, .ref (ad 0 0)), (1, .int v), (2, .int t)] []
    refine g_iload F 0 dX6_first_5 rfl ?_
    refine g_aload_n F 2 dX6_first_7 rfl rfl ?_
    refine mg_get F hM hin 11 (by decide) (congrArg (fun z : Int32 => some (Value.int z)) (show σ 11 0 = (nI n) from hn)) (by decide +kernel) rfl dX6_first_8 ?_
    refine g_icmp_ge F (tgt := 135) dX6_first_11 (by decide) (fun c6 => ?_) (fun c6 => ?_)
    ·
      exact absurd ((nI_leE (show (nI n) = nI n from rfl) (show (nI k1) = nI k1 from rfl) (show n < 2 ^ 31 by omega) (show k1 < 2 ^ 31 by omega)).mp c6) (by omega)
    ·
      refine g_aload_n F 2 dX6_first_14 rfl rfl ?_
      refine g_iload F 0 dX6_first_15 rfl ?_
      refine g_iload_n F 3 dX6_first_17 rfl rfl ?_
      refine g_callVi F (C := RX6) (k := 0) (i := 0) (ci := 6) (T := TX6) (N := 33) (rest := []) [.int (nI k1), .int v] (mc_waits l D A cs ad dm w0 σ (nI k1) v k1 hM rfl (by omega)) (cwV 2 F.1.2.2.2.2 gX6_first_X6_waits rfl rfl rfl (by decide +kernel) ⟨Nat.le_of_ble_eq_true rfl, Nat.le_of_ble_eq_true rfl⟩) rfl hM.1 rfl rfl rfl rfl (Nat.le_of_ble_eq_true rfl) dX6_first_18 ⟨Nat.le_of_ble_eq_true rfl, Nat.le_of_ble_eq_true rfl⟩ ?_
      refine g_cut (w2 := (mw ad cs σ w0)) (pc2 := 40) (lv2 := [(4, .int (nI k1)), (3, .int (frF σ v t k1)), (0, .ref (ad 0 0)), (1, .int v), (2, .int t)]) (st2 := [.int (bi (((waitsP σ k1 v) ∧ (¬ t < (σ 26 k1)))))]) ?_ (fun hJ7 => ?_)
      ·
        refine g_istore F (lv1 := [(5, .int (bi (((waitsP σ k1 v) ∧ (¬ t < (σ 26 k1)))))), (4, .int (nI k1)), (3, .int (frF σ v t k1)), (0, .ref (ad 0 0)), (1, .int v), (2, .int t)]) dX6_first_40 (by decide) rfl ?_
        refine g_iload F 0 dX6_first_42 rfl ?_
        refine g_cut (w2 := (mw ad cs σ w0)) (pc2 := 105) (lv2 := [(5, .int (bi (((waitsP σ k1 v) ∧ (¬ t < (σ 26 k1)))))), (4, .int (nI k1)), (3, .int (frF σ v t k1)), (0, .ref (ad 0 0)), (1, .int v), (2, .int t)]) (st2 := [.int (bi ((((waitsP σ k1 v) ∧ (¬ t < (σ 26 k1))) ∧ ((¬ (frF σ v t k1) = (-1)) ∧ (((σ 14 (ix (frF σ v t k1))) < (σ 14 k1)) ∨ (((σ 14 k1) = (σ 14 (ix (frF σ v t k1)))) ∧ (¬ (σ 26 (ix (frF σ v t k1))) ≤ (σ 26 k1))))))))]) ?_ (fun hJ8 => ?_)
        ·
          refine g_istore F (lv1 := [(6, .int (bi ((((waitsP σ k1 v) ∧ (¬ t < (σ 26 k1))) ∧ ((¬ (frF σ v t k1) = (-1)) ∧ (((σ 14 (ix (frF σ v t k1))) < (σ 14 k1)) ∨ (((σ 14 k1) = (σ 14 (ix (frF σ v t k1)))) ∧ (¬ (σ 26 (ix (frF σ v t k1))) ≤ (σ 26 k1))))))))), (5, .int (bi (((waitsP σ k1 v) ∧ (¬ t < (σ 26 k1)))))), (4, .int (nI k1)), (3, .int (frF σ v t k1)), (0, .ref (ad 0 0)), (1, .int v), (2, .int t)]) dX6_first_105 (by decide) rfl ?_
          refine g_iload F 1 dX6_first_107 rfl ?_
          refine g_cut (w2 := (mw ad cs σ w0)) (pc2 := 128) (lv2 := [(6, .int (bi ((((waitsP σ k1 v) ∧ (¬ t < (σ 26 k1))) ∧ ((¬ (frF σ v t k1) = (-1)) ∧ (((σ 14 (ix (frF σ v t k1))) < (σ 14 k1)) ∨ (((σ 14 k1) = (σ 14 (ix (frF σ v t k1)))) ∧ (¬ (σ 26 (ix (frF σ v t k1))) ≤ (σ 26 k1))))))))), (5, .int (bi (((waitsP σ k1 v) ∧ (¬ t < (σ 26 k1)))))), (4, .int (nI k1)), (3, .int (frF σ v t k1)), (0, .ref (ad 0 0)), (1, .int v), (2, .int t)]) (st2 := [.int (if ((waitsP σ k1 v) ∧ (¬ t < (σ 26 k1))) then (if (frF σ v t k1) = (-1) then (nI k1) else (if (((waitsP σ k1 v) ∧ (¬ t < (σ 26 k1))) ∧ ((¬ (frF σ v t k1) = (-1)) ∧ (((σ 14 (ix (frF σ v t k1))) < (σ 14 k1)) ∨ (((σ 14 k1) = (σ 14 (ix (frF σ v t k1)))) ∧ (¬ (σ 26 (ix (frF σ v t k1))) ≤ (σ 26 k1)))))) then (nI k1) else (frF σ v t k1))) else (frF σ v t k1) : Int32)]) ?_ (fun hJ9 => ?_)
          ·
            refine g_istore_n F (lv1 := [(3, .int (if ((waitsP σ k1 v) ∧ (¬ t < (σ 26 k1))) then (if (frF σ v t k1) = (-1) then (nI k1) else (if (((waitsP σ k1 v) ∧ (¬ t < (σ 26 k1))) ∧ ((¬ (frF σ v t k1) = (-1)) ∧ (((σ 14 (ix (frF σ v t k1))) < (σ 14 k1)) ∨ (((σ 14 k1) = (σ 14 (ix (frF σ v t k1)))) ∧ (¬ (σ 26 (ix (frF σ v t k1))) ≤ (σ 26 k1)))))) then (nI k1) else (frF σ v t k1))) else (frF σ v t k1) : Int32)), (6, .int (bi ((((waitsP σ k1 v) ∧ (¬ t < (σ 26 k1))) ∧ ((¬ (frF σ v t k1) = (-1)) ∧ (((σ 14 (ix (frF σ v t k1))) < (σ 14 k1)) ∨ (((σ 14 k1) = (σ 14 (ix (frF σ v t k1)))) ∧ (¬ (σ 26 (ix (frF σ v t k1))) ≤ (σ 26 k1))))))))), (5, .int (bi (((waitsP σ k1 v) ∧ (¬ t < (σ 26 k1)))))), (4, .int (nI k1)), (0, .ref (ad 0 0)), (1, .int v), (2, .int t)]) dX6_first_128 rfl (by decide) rfl ?_
            refine g_iinc F (v := (nI (k1 + 1))) (lv1 := [(4, .int (nI (k1 + 1))), (3, .int (if ((waitsP σ k1 v) ∧ (¬ t < (σ 26 k1))) then (if (frF σ v t k1) = (-1) then (nI k1) else (if (((waitsP σ k1 v) ∧ (¬ t < (σ 26 k1))) ∧ ((¬ (frF σ v t k1) = (-1)) ∧ (((σ 14 (ix (frF σ v t k1))) < (σ 14 k1)) ∨ (((σ 14 k1) = (σ 14 (ix (frF σ v t k1)))) ∧ (¬ (σ 26 (ix (frF σ v t k1))) ≤ (σ 26 k1)))))) then (nI k1) else (frF σ v t k1))) else (frF σ v t k1) : Int32)), (6, .int (bi ((((waitsP σ k1 v) ∧ (¬ t < (σ 26 k1))) ∧ ((¬ (frF σ v t k1) = (-1)) ∧ (((σ 14 (ix (frF σ v t k1))) < (σ 14 k1)) ∨ (((σ 14 k1) = (σ 14 (ix (frF σ v t k1)))) ∧ (¬ (σ 26 (ix (frF σ v t k1))) ≤ (σ 26 k1))))))))), (5, .int (bi (((waitsP σ k1 v) ∧ (¬ t < (σ 26 k1)))))), (0, .ref (ad 0 0)), (1, .int v), (2, .int t)]) 3 dX6_first_129 rfl (nI_1 k1) (by decide) rfl ?_
            refine g_goto F (tgt := 5) dX6_first_132 (by decide) ?_
            exact g_lv [0, 1, 4, 5, 6] rfl ih2
          ·
            refine g_ifb_eq F (tgt := 127) dX6_first_109 (by decide) (fun c10 => ?_) (fun c10 => ?_)
            ·
              refine g_iload_n F 3 dX6_first_127 rfl rfl ?_
              exact g_top (by rw [if_neg c10]) hJ9
            ·
              refine g_iload_n F 3 dX6_first_112 rfl rfl ?_
              refine g_iconst F dX6_first_113 (v := -1) (by decide) ?_
              refine g_icmp_eq F (tgt := 122) dX6_first_114 (by decide) (fun c11 => ?_) (fun c11 => ?_)
              ·
                refine g_iload F 2 dX6_first_122 rfl ?_
                refine g_goto F (tgt := 128) dX6_first_124 (by decide) ?_
                exact g_top (by rw [if_pos c10, if_pos c11]) hJ9
              ·
                refine g_iload F 0 dX6_first_117 rfl ?_
                refine g_ifb_eq F (tgt := 127) dX6_first_119 (by decide) (fun c12 => ?_) (fun c12 => ?_)
                ·
                  refine g_iload_n F 3 dX6_first_127 rfl rfl ?_
                  exact g_top (by rw [if_pos c10, if_neg c11, if_neg c12]) hJ9
                ·
                  refine g_iload F 2 dX6_first_122 rfl ?_
                  refine g_goto F (tgt := 128) dX6_first_124 (by decide) ?_
                  exact g_top (by rw [if_pos c10, if_neg c11, if_pos c12]) hJ9
        ·
          refine g_ifb_eq F (tgt := 104) dX6_first_44 (by decide) (fun c13 => ?_) (fun c13 => ?_)
          ·
            refine g_iconst F dX6_first_104 (v := 0) (by decide) ?_
            exact g_top (bi_f (fun q => c13 q.1)) hJ8
          ·
            refine g_iload_n F 2 dX6_first_47 rfl rfl ?_
            refine g_iconst F dX6_first_48 (v := -1) (by decide) ?_
            refine g_icmp_eq F (tgt := 104) dX6_first_49 (by decide) (fun c14 => ?_) (fun c14 => ?_)
            ·
              refine g_iconst F dX6_first_104 (v := 0) (by decide) ?_
              exact g_top (bi_f (fun q => (fun q => (fun q => q c14) q.1) q.2)) hJ8
            ·
              refine g_aload_n F 3 dX6_first_52 rfl rfl ?_
              refine mg_get F hM hin 14 (by decide) rfl (by decide +kernel) rfl dX6_first_53 ?_
              refine g_iload F 1 dX6_first_56 rfl ?_
              refine mg_ald F hM 14 rfl rfl (show k1 < 40 by omega) (v := (σ 14 k1)) rfl dX6_first_58 ?_
              refine g_aload_n F 3 dX6_first_59 rfl rfl ?_
              refine mg_get F hM hin 14 (by decide) rfl (by decide +kernel) rfl dX6_first_60 ?_
              refine g_iload_n F 2 dX6_first_63 rfl rfl ?_
              refine mg_ald F hM 14 rfl (frF_ix (by omega) ‹¬ (frF σ v t k1) = (-1)›).1 (Nat.lt_trans (frF_ix (by omega) ‹¬ (frF σ v t k1) = (-1)›).2 (show k1 < 40 by omega)) (v := (σ 14 (ix (frF σ v t k1)))) rfl dX6_first_64 ?_
              refine g_icmp_gt F (tgt := 100) dX6_first_65 (by decide) (fun c15 => ?_) (fun c15 => ?_)
              ·
                refine g_iconst F dX6_first_100 (v := 1) (by decide) ?_
                refine g_goto F (tgt := 105) dX6_first_101 (by decide) ?_
                exact g_top (bi_t ⟨c13, ⟨c14, (Or.inl c15)⟩⟩) hJ8
              ·
                refine g_aload_n F 3 dX6_first_68 rfl rfl ?_
                refine mg_get F hM hin 14 (by decide) rfl (by decide +kernel) rfl dX6_first_69 ?_
                refine g_iload F 1 dX6_first_72 rfl ?_
                refine mg_ald F hM 14 rfl rfl (show k1 < 40 by omega) (v := (σ 14 k1)) rfl dX6_first_74 ?_
                refine g_aload_n F 3 dX6_first_75 rfl rfl ?_
                refine mg_get F hM hin 14 (by decide) rfl (by decide +kernel) rfl dX6_first_76 ?_
                refine g_iload_n F 2 dX6_first_79 rfl rfl ?_
                refine mg_ald F hM 14 rfl (frF_ix (by omega) ‹¬ (frF σ v t k1) = (-1)›).1 (Nat.lt_trans (frF_ix (by omega) ‹¬ (frF σ v t k1) = (-1)›).2 (show k1 < 40 by omega)) (v := (σ 14 (ix (frF σ v t k1)))) rfl dX6_first_80 ?_
                refine g_icmp_ne F (tgt := 104) dX6_first_81 (by decide) (fun c16 => ?_) (fun c16 => ?_)
                ·
                  refine g_iconst F dX6_first_104 (v := 0) (by decide) ?_
                  exact g_top (bi_f (fun q => (fun q => (fun q => q.elim c15 (fun q => c16 q.1)) q.2) q.2)) hJ8
                ·
                  refine g_aload_n F 3 dX6_first_84 rfl rfl ?_
                  refine mg_get F hM hin 26 (by decide) rfl (by decide +kernel) rfl dX6_first_85 ?_
                  refine g_iload F 1 dX6_first_88 rfl ?_
                  refine mg_ald F hM 26 rfl rfl (show k1 < 40 by omega) (v := (σ 26 k1)) rfl dX6_first_90 ?_
                  refine g_aload_n F 3 dX6_first_91 rfl rfl ?_
                  refine mg_get F hM hin 26 (by decide) rfl (by decide +kernel) rfl dX6_first_92 ?_
                  refine g_iload_n F 2 dX6_first_95 rfl rfl ?_
                  refine mg_ald F hM 26 rfl (frF_ix (by omega) ‹¬ (frF σ v t k1) = (-1)›).1 (Nat.lt_trans (frF_ix (by omega) ‹¬ (frF σ v t k1) = (-1)›).2 (show k1 < 40 by omega)) (v := (σ 26 (ix (frF σ v t k1)))) rfl dX6_first_96 ?_
                  refine g_icmp_ge F (tgt := 104) dX6_first_97 (by decide) (fun c17 => ?_) (fun c17 => ?_)
                  ·
                    refine g_iconst F dX6_first_104 (v := 0) (by decide) ?_
                    exact g_top (bi_f (fun q => (fun q => (fun q => q.elim c15 (fun q => (fun q => q c17) q.2)) q.2) q.2)) hJ8
                  ·
                    refine g_iconst F dX6_first_100 (v := 1) (by decide) ?_
                    refine g_goto F (tgt := 105) dX6_first_101 (by decide) ?_
                    exact g_top (bi_t ⟨c13, ⟨c14, (Or.inr ⟨c16, c17⟩)⟩⟩) hJ8
      ·
        refine g_ifb_eq F (tgt := 39) dX6_first_21 (by decide) (fun c18 => ?_) (fun c18 => ?_)
        ·
          refine g_iconst F dX6_first_39 (v := 0) (by decide) ?_
          exact g_top (bi_f (fun q => c18 q.1)) hJ7
        ·
          refine g_aload_n F 2 dX6_first_24 rfl rfl ?_
          refine mg_get F hM hin 26 (by decide) rfl (by decide +kernel) rfl dX6_first_25 ?_
          refine g_iload F 0 dX6_first_28 rfl ?_
          refine mg_ald F hM 26 rfl rfl (show k1 < 40 by omega) (v := (σ 26 k1)) rfl dX6_first_30 ?_
          refine g_iload_n F 4 dX6_first_31 rfl rfl ?_
          refine g_icmp_gt F (tgt := 39) dX6_first_32 (by decide) (fun c19 => ?_) (fun c19 => ?_)
          ·
            refine g_iconst F dX6_first_39 (v := 0) (by decide) ?_
            exact g_top (bi_f (fun q => (fun q => q c19) q.2)) hJ7
          ·
            refine g_iconst F dX6_first_35 (v := 1) (by decide) ?_
            refine g_goto F (tgt := 40) dX6_first_36 (by decide) ?_
            exact g_top (bi_t ⟨c18, c19⟩) hJ7
def duF (σ : SG) (v : Int32) : Nat → SG
  | 0 => σ
  | k + 1 => up2 (duF σ v k) 26 k (if waitsP (duF σ v k) k v then (if (duF σ v k) 26 k ≤ (duF σ v k) 0 0 then (duF σ v k) 26 k else (duF σ v k) 0 0) else (duF σ v k) 26 k)
theorem duF_ne (σ : SG) (v : Int32) {f : Nat} (hf : f ≠ 26) (i : Nat) : ∀ k, duF σ v k f i = σ f i
  | 0 => rfl
  | k + 1 => by
    unfold duF
    rw [up2_ne _ _ (fun h => hf h.1)]
    exact duF_ne σ v hf i k
def wkS (σ : SG) (a : Nat) (v mk : Int32) (n : Nat) : SG := if ((σ 31 a) &&& mk) = mk then duF (up2 σ 31 a ((σ 31 a) - mk)) v n else σ
theorem wkS_ne (σ : SG) (a : Nat) (v mk : Int32) (n : Nat) {f : Nat} (h1 : f ≠ 26) (h2 : f ≠ 31) (i : Nat) : wkS σ a v mk n f i = σ f i := by
  unfold wkS
  split
  · rw [duF_ne _ _ h1, up2_ne _ _ (fun h => h2 h.1)]
  · rfl
def lkS (σ : SG) (a : Nat) (v : Int32) (n : Nat) : SG := if ¬ (σ 29 a) ≤ (σ 30 a) then wkS σ a v 2 n else σ
theorem lkS_ne (σ : SG) (a : Nat) (v : Int32) (n : Nat) {f : Nat} (h1 : f ≠ 26) (h2 : f ≠ 31) (i : Nat) : lkS σ a v n f i = σ f i := by
  unfold lkS
  split
  · exact wkS_ne σ a v 2 n h1 h2 i
  · rfl
set_option maxHeartbeats 4000000 in
set_option maxRecDepth 100000 in
theorem mc_wakes (l : Launch) (D : va_G) (A : Nat → Prop) (cs : Nat → ClassId) (ad : Nat → Nat → Nat) (dm : Nat → Nat → Prop) (w0 : CF) (σ : SG) (v mk : Int32) (a n : Nat) (hM : MD dm) (hn : σ 11 0 = nI n) (hn40 : n ≤ 40) (hva : v = nI a) (ha : a < 6) : Met l yX6_wakes wsX6_wakes ({ frames := 1, cells := 0, slots := 0, locals := 22 }) (va_Pc [.ref (ad 0 0), .int v, .int mk] (PW D A (tysG cs) ad dm (mw ad cs σ w0))) (va_Qv (fun (_ : Unit) => True) (fun _ t => PW D A (tysG cs) ad dm (mw ad cs (wkS σ a v mk n) w0) t) A) 0 0 A := by
  refine g_start (own := RX6) [.ref (ad 0 0), .int v, .int mk] (cc := cX6_wakes) (maxL := 4) (ret := none) (lv0 := [(0, .ref (ad 0 0)), (1, .int v), (2, .int mk)]) (by decide) rfl rfl (Nat.le_of_ble_eq_true rfl) rfl ?_
  intro p e s m below meth c F hr hlocks hname
  have hin : ∀ w ∈ wsX60, w ∈ wsX6_wakes := by decide +kernel
  refine g_aload_n F 0 dX6_wakes_0 rfl rfl ?_
  refine mg_get F hM hin 31 (by decide) rfl (by decide +kernel) rfl dX6_wakes_1 ?_
  refine g_iload_n F 1 dX6_wakes_4 rfl rfl ?_
  refine mg_ald F hM 31 rfl hva (show a < 6 by omega) (v := (σ 31 a)) rfl dX6_wakes_5 ?_
  refine g_iload_n F 2 dX6_wakes_6 rfl rfl ?_
  refine g_iand F dX6_wakes_7 ?_
  refine g_iload_n F 2 dX6_wakes_8 rfl rfl ?_
  refine g_icmp_ne F (tgt := 79) dX6_wakes_9 (by decide) (fun c1 => ?_) (fun c1 => ?_)
  ·
    exact g_vret F hr hlocks (fun _ h => by rw [show (mw ad cs (wkS σ a v mk n) w0) = (mw ad cs σ w0) from (by unfold wkS; rw [if_neg c1])]; exact h) dX6_wakes_79
  ·
    refine g_aload_n F 0 dX6_wakes_12 rfl rfl ?_
    refine mg_get F hM hin 31 (by decide) rfl (by decide +kernel) rfl dX6_wakes_13 ?_
    refine g_iload_n F 1 dX6_wakes_16 rfl rfl ?_
    refine g_dup2 F dX6_wakes_17 rfl rfl ?_
    refine mg_ald F hM 31 rfl hva (show a < 6 by omega) (v := (σ 31 a)) rfl dX6_wakes_18 ?_
    refine g_iload_n F 2 dX6_wakes_19 rfl rfl ?_
    refine g_isub F dX6_wakes_20 ?_
    refine mg_ast F hM 31 rfl hva (show a < 6 by omega) dX6_wakes_21 ?_
    refine g_iconst F dX6_wakes_22 (v := 0) (by decide) ?_
    refine g_istore_n F (lv1 := [(3, .int 0), (0, .ref (ad 0 0)), (1, .int v), (2, .int mk)]) dX6_wakes_23 rfl (by decide) rfl ?_
    refine g_loop n 0 (by omega) (fun k2 => (mw ad cs (duF (up2 σ 31 a ((σ 31 a) - mk)) v k2) w0)) (fun k2 => [(3, .int (nI k2)), (0, .ref (ad 0 0)), (1, .int v), (2, .int mk)]) rfl rfl ?_ (fun k2 hk4 hk5 ih3 => ?_)
    ·
      show GG p l e _ s m _ below meth c D A ad dm _ _ _ _ (mw ad cs (duF (up2 σ 31 a ((σ 31 a) - mk)) v n) w0) 24 [(3, .int (nI n)), (0, .ref (ad 0 0)), (1, .int v), (2, .int mk)] []
      refine g_iload_n F 0 dX6_wakes_24 rfl rfl ?_
      refine g_aload_n F 1 dX6_wakes_25 rfl rfl ?_
      refine mg_get F hM hin 11 (by decide) (congrArg (fun z : Int32 => some (Value.int z)) (show (duF (up2 σ 31 a ((σ 31 a) - mk)) v n) 11 0 = (nI n) from (by first | exact hn | (rw [duF_ne _ _ (by decide), up2_ne _ _ (fun h => absurd h.1 (by decide))]; exact hn)))) (by decide +kernel) rfl dX6_wakes_26 ?_
      refine g_icmp_ge F (tgt := 79) dX6_wakes_29 (by decide) (fun c6 => ?_) (fun c6 => ?_)
      ·
        exact g_vret F hr hlocks (fun _ h => by rw [show (mw ad cs (wkS σ a v mk n) w0) = (mw ad cs (duF (up2 σ 31 a ((σ 31 a) - mk)) v n) w0) from (by unfold wkS; rw [if_pos c1])]; exact h) dX6_wakes_79
      ·
        exact absurd ((nI_leE (show (nI n) = nI n from rfl) (show (nI n) = nI n from rfl) (show n < 2 ^ 31 by omega) (show n < 2 ^ 31 by omega)).mpr (by omega)) c6
    ·
      replace ih3 : GG p l e _ s m _ below meth c D A ad dm _ _ _ _ (mw ad cs (duF (up2 σ 31 a ((σ 31 a) - mk)) v (k2 + 1)) w0) 24 [(3, .int (nI (k2 + 1))), (0, .ref (ad 0 0)), (1, .int v), (2, .int mk)] [] := ih3
      show GG p l e _ s m _ below meth c D A ad dm _ _ _ _ (mw ad cs (duF (up2 σ 31 a ((σ 31 a) - mk)) v k2) w0) 24 [(3, .int (nI k2)), (0, .ref (ad 0 0)), (1, .int v), (2, .int mk)] []
      refine g_iload_n F 0 dX6_wakes_24 rfl rfl ?_
      refine g_aload_n F 1 dX6_wakes_25 rfl rfl ?_
      refine mg_get F hM hin 11 (by decide) (congrArg (fun z : Int32 => some (Value.int z)) (show (duF (up2 σ 31 a ((σ 31 a) - mk)) v k2) 11 0 = (nI n) from (by first | exact hn | (rw [duF_ne _ _ (by decide), up2_ne _ _ (fun h => absurd h.1 (by decide))]; exact hn)))) (by decide +kernel) rfl dX6_wakes_26 ?_
      refine g_icmp_ge F (tgt := 79) dX6_wakes_29 (by decide) (fun c7 => ?_) (fun c7 => ?_)
      ·
        exact absurd ((nI_leE (show (nI n) = nI n from rfl) (show (nI k2) = nI k2 from rfl) (show n < 2 ^ 31 by omega) (show k2 < 2 ^ 31 by omega)).mp c7) (by omega)
      ·
        refine g_aload_n F 1 dX6_wakes_32 rfl rfl ?_
        refine mg_get F hM hin 26 (by decide) rfl (by decide +kernel) rfl dX6_wakes_33 ?_
        refine g_iload_n F 0 dX6_wakes_36 rfl rfl ?_
        refine g_aload_n F 1 dX6_wakes_37 rfl rfl ?_
        refine g_iload_n F 0 dX6_wakes_38 rfl rfl ?_
        refine g_iload_n F 2 dX6_wakes_39 rfl rfl ?_
        refine g_callVi F (C := RX6) (k := 0) (i := 0) (ci := 6) (T := TX6) (N := 33) (rest := [.int (nI k2), .ref (ad 1 26)]) [.int (nI k2), .int v] (mc_waits l D A cs ad dm w0 (duF (up2 σ 31 a ((σ 31 a) - mk)) v k2) (nI k2) v k2 hM rfl (by omega)) (cwV 2 F.1.2.2.2.2 gX6_wakes_X6_waits rfl rfl rfl (by decide +kernel) ⟨Nat.le_of_ble_eq_true rfl, Nat.le_of_ble_eq_true rfl⟩) rfl hM.1 rfl rfl rfl rfl (Nat.le_of_ble_eq_true rfl) dX6_wakes_40 ⟨Nat.le_of_ble_eq_true rfl, Nat.le_of_ble_eq_true rfl⟩ ?_
        refine g_cut (w2 := (mw ad cs (duF (up2 σ 31 a ((σ 31 a) - mk)) v k2) w0)) (pc2 := 72) (lv2 := [(3, .int (nI k2)), (0, .ref (ad 0 0)), (1, .int v), (2, .int mk)]) (st2 := [.int (if waitsP (duF (up2 σ 31 a ((σ 31 a) - mk)) v k2) k2 v then (if ((duF (up2 σ 31 a ((σ 31 a) - mk)) v k2) 26 k2) ≤ ((duF (up2 σ 31 a ((σ 31 a) - mk)) v k2) 0 0) then ((duF (up2 σ 31 a ((σ 31 a) - mk)) v k2) 26 k2) else ((duF (up2 σ 31 a ((σ 31 a) - mk)) v k2) 0 0)) else ((duF (up2 σ 31 a ((σ 31 a) - mk)) v k2) 26 k2) : Int32), .int (nI k2), .ref (ad 1 26)]) ?_ (fun hJ8 => ?_)
        ·
          refine mg_ast F hM 26 rfl rfl (show k2 < 40 by omega) dX6_wakes_72 ?_
          refine g_iinc F (v := (nI (k2 + 1))) (lv1 := [(3, .int (nI (k2 + 1))), (0, .ref (ad 0 0)), (1, .int v), (2, .int mk)]) 0 dX6_wakes_73 rfl (nI_1 k2) (by decide) rfl ?_
          refine g_goto F (tgt := 24) dX6_wakes_76 (by decide) ?_
          exact g_lv [0, 1, 2, 3] rfl (g_w (w1 := (mw ad cs (duF (up2 σ 31 a ((σ 31 a) - mk)) v (k2 + 1)) w0)) rfl ih3)
        ·
          refine g_ifb_eq F (tgt := 66) dX6_wakes_43 (by decide) (fun c9 => ?_) (fun c9 => ?_)
          ·
            refine g_aload_n F 1 dX6_wakes_66 rfl rfl ?_
            refine mg_get F hM hin 26 (by decide) rfl (by decide +kernel) rfl dX6_wakes_67 ?_
            refine g_iload_n F 0 dX6_wakes_70 rfl rfl ?_
            refine mg_ald F hM 26 rfl rfl (show k2 < 40 by omega) (v := ((duF (up2 σ 31 a ((σ 31 a) - mk)) v k2) 26 k2)) rfl dX6_wakes_71 ?_
            exact g_top (by rw [if_neg c9]) hJ8
          ·
            refine g_aload_n F 1 dX6_wakes_46 rfl rfl ?_
            refine mg_get F hM hin 26 (by decide) rfl (by decide +kernel) rfl dX6_wakes_47 ?_
            refine g_iload_n F 0 dX6_wakes_50 rfl rfl ?_
            refine mg_ald F hM 26 rfl rfl (show k2 < 40 by omega) (v := ((duF (up2 σ 31 a ((σ 31 a) - mk)) v k2) 26 k2)) rfl dX6_wakes_51 ?_
            refine g_aload_n F 1 dX6_wakes_52 rfl rfl ?_
            refine mg_get F hM hin 0 (by decide) rfl (by decide +kernel) rfl dX6_wakes_53 ?_
            refine g_icmp_le F (tgt := 66) dX6_wakes_56 (by decide) (fun c10 => ?_) (fun c10 => ?_)
            ·
              refine g_aload_n F 1 dX6_wakes_66 rfl rfl ?_
              refine mg_get F hM hin 26 (by decide) rfl (by decide +kernel) rfl dX6_wakes_67 ?_
              refine g_iload_n F 0 dX6_wakes_70 rfl rfl ?_
              refine mg_ald F hM 26 rfl rfl (show k2 < 40 by omega) (v := ((duF (up2 σ 31 a ((σ 31 a) - mk)) v k2) 26 k2)) rfl dX6_wakes_71 ?_
              exact g_top (by rw [if_pos c9, if_pos c10]) hJ8
            ·
              refine g_aload_n F 1 dX6_wakes_59 rfl rfl ?_
              refine mg_get F hM hin 0 (by decide) rfl (by decide +kernel) rfl dX6_wakes_60 ?_
              refine g_goto F (tgt := 72) dX6_wakes_63 (by decide) ?_
              exact g_top (by rw [if_pos c9, if_neg c10]) hJ8
set_option maxHeartbeats 4000000 in
set_option maxRecDepth 100000 in
theorem mc_looks (l : Launch) (D : va_G) (A : Nat → Prop) (cs : Nat → ClassId) (ad : Nat → Nat → Nat) (dm : Nat → Nat → Prop) (w0 : CF) (σ : SG) (v : Int32) (a n : Nat) (hM : MD dm) (hn : σ 11 0 = nI n) (hn40 : n ≤ 40) (hva : v = nI a) (ha : a < 6) : Met l yX6_looks wsX6_looks ({ frames := 2, cells := 0, slots := 0, locals := 45 }) (va_Pc [.ref (ad 0 0), .int v] (PW D A (tysG cs) ad dm (mw ad cs σ w0))) (va_Qv (fun (_ : Unit) => True) (fun _ t => PW D A (tysG cs) ad dm (mw ad cs (lkS σ a v n) w0) t) A) 0 0 A := by
  refine g_start (own := RX6) [.ref (ad 0 0), .int v] (cc := cX6_looks) (maxL := 2) (ret := none) (lv0 := [(0, .ref (ad 0 0)), (1, .int v)]) (by decide) rfl rfl (Nat.le_of_ble_eq_true rfl) rfl ?_
  intro p e s m below meth c F hr hlocks hname
  have hin : ∀ w ∈ wsX60, w ∈ wsX6_looks := by decide +kernel
  refine g_aload_n F 0 dX6_looks_0 rfl rfl ?_
  refine mg_get F hM hin 30 (by decide) rfl (by decide +kernel) rfl dX6_looks_1 ?_
  refine g_iload_n F 1 dX6_looks_4 rfl rfl ?_
  refine mg_ald F hM 30 rfl hva (show a < 6 by omega) (v := (σ 30 a)) rfl dX6_looks_5 ?_
  refine g_aload_n F 0 dX6_looks_6 rfl rfl ?_
  refine mg_get F hM hin 29 (by decide) rfl (by decide +kernel) rfl dX6_looks_7 ?_
  refine g_iload_n F 1 dX6_looks_10 rfl rfl ?_
  refine mg_ald F hM 29 rfl hva (show a < 6 by omega) (v := (σ 29 a)) rfl dX6_looks_11 ?_
  refine g_icmp_ge F (tgt := 21) dX6_looks_12 (by decide) (fun c1 => ?_) (fun c1 => ?_)
  ·
    exact g_vret F hr hlocks (fun _ h => by rw [show (mw ad cs (lkS σ a v n) w0) = (mw ad cs σ w0) from (by unfold lkS; rw [if_neg (fun q => q c1)])]; exact h) dX6_looks_21
  ·
    refine g_aload_n F 0 dX6_looks_15 rfl rfl ?_
    refine g_iload_n F 1 dX6_looks_16 rfl rfl ?_
    refine g_iconst F dX6_looks_17 (v := 2) (by decide) ?_
    refine g_callVv F (C := RX6) (k := 0) (i := 0) (ci := 6) (T := TX6) (N := 33) (rest := []) [.int v, .int 2] (mc_wakes l D A cs ad dm w0 σ v 2 a n hM (by first | exact hn | (simp only [up2]; exact hn) | (simp [up2]; exact hn)) hn40 hva (by omega)) (cwV 2 F.1.2.2.2.2 gX6_looks_X6_wakes rfl rfl rfl (by decide +kernel) ⟨Nat.le_of_ble_eq_true rfl, Nat.le_of_ble_eq_true rfl⟩) rfl hM.1 rfl rfl rfl rfl (Nat.le_of_ble_eq_true rfl) dX6_looks_18 ⟨Nat.le_of_ble_eq_true rfl, Nat.le_of_ble_eq_true rfl⟩ ?_
    exact g_vret F hr hlocks (fun _ h => by rw [show (mw ad cs (lkS σ a v n) w0) = (mw ad cs (wkS σ a v 2 n) w0) from (by unfold lkS; rw [if_pos c1])]; exact h) dX6_looks_21
def rcA (σ : SG) (j : Nat) : Nat := ix (σ 12 j)
def rcN (σ : SG) (j : Nat) : Nat := ix (σ 9 (rcA σ j))
def enS (σ : SG) (j : Nat) (v how : Int32) : SG := if (σ 22 j) = 0 then up2 σ 23 j how else up2 (up2 (up2 σ 23 j how) 10 ((40 * rcA σ j) + rcN σ j) ((10 * v) + how)) 9 (rcA σ j) ((σ 9 (rcA σ j)) + 1)
def enOK (σ : SG) (j : Nat) : Prop := (σ 12 j) = nI (rcA σ j) ∧ rcA σ j < 4 ∧ (σ 9 (rcA σ j)) = nI (rcN σ j) ∧ rcN σ j < 40
set_option maxHeartbeats 4000000 in
set_option maxRecDepth 100000 in
theorem mc_ends (l : Launch) (D : va_G) (A : Nat → Prop) (cs : Nat → ClassId) (ad : Nat → Nat → Nat) (dm : Nat → Nat → Prop) (w0 : CF) (σ : SG) (v how : Int32) (j : Nat) (hM : MD dm) (hvj : v = nI j) (hj : j < 40) (hok : enOK σ j) : Met l yX6_ends wsX6_ends ({ frames := 0, cells := 0, slots := 0, locals := 0 }) (va_Pc [.ref (ad 0 0), .int v, .int how] (PW D A (tysG cs) ad dm (mw ad cs σ w0))) (va_Qv (fun (_ : Unit) => True) (fun _ t => PW D A (tysG cs) ad dm (mw ad cs (enS σ j v how) w0) t) A) 0 0 A := by
  refine g_start (own := RX6) [.ref (ad 0 0), .int v, .int how] (cc := cX6_ends) (maxL := 4) (ret := none) (lv0 := [(0, .ref (ad 0 0)), (1, .int v), (2, .int how)]) (by decide) rfl rfl (Nat.le_of_ble_eq_true rfl) rfl ?_
  intro p e s m below meth c F hr hlocks hname
  have hin : ∀ w ∈ wsX60, w ∈ wsX6_ends := by decide +kernel
  have hok1 := hok.2.1
  have hok2 := hok.2.2.2
  refine g_aload_n F 0 dX6_ends_0 rfl rfl ?_
  refine mg_get F hM hin 23 (by decide) rfl (by decide +kernel) rfl dX6_ends_1 ?_
  refine g_iload_n F 1 dX6_ends_4 rfl rfl ?_
  refine g_iload_n F 2 dX6_ends_5 rfl rfl ?_
  refine mg_ast F hM 23 rfl hvj (show j < 40 by omega) dX6_ends_6 ?_
  refine g_aload_n F 0 dX6_ends_7 rfl rfl ?_
  refine mg_get F hM hin 22 (by decide) rfl (by decide +kernel) rfl dX6_ends_8 ?_
  refine g_iload_n F 1 dX6_ends_11 rfl rfl ?_
  refine mg_zld F hM 22 rfl hvj (show j < 40 by omega) (v := (σ 22 j)) ((up2_ne _ _ (fun h => absurd h.1 (by decide))).trans rfl) dX6_ends_12 ?_
  refine g_if_eq F (tgt := 55) dX6_ends_13 (by decide) (fun c1 => ?_) (fun c1 => ?_)
  ·
    exact g_vret F hr hlocks (fun _ h => by rw [show (mw ad cs (enS σ j v how) w0) = (mw ad cs (up2 σ 23 j how) w0) from (by unfold enS; rw [if_pos c1])]; exact h) dX6_ends_55
  ·
    refine g_aload_n F 0 dX6_ends_16 rfl rfl ?_
    refine mg_get F hM hin 12 (by decide) rfl (by decide +kernel) rfl dX6_ends_17 ?_
    refine g_iload_n F 1 dX6_ends_20 rfl rfl ?_
    refine mg_ald F hM 12 rfl hvj (show j < 40 by omega) (v := (σ 12 j)) ((up2_ne _ _ (fun h => absurd h.1 (by decide))).trans rfl) dX6_ends_21 ?_
    refine g_istore_n F (lv1 := [(3, .int (σ 12 j)), (0, .ref (ad 0 0)), (1, .int v), (2, .int how)]) dX6_ends_22 rfl (by decide) rfl ?_
    refine g_aload_n F 1 dX6_ends_23 rfl rfl ?_
    refine mg_get F hM hin 10 (by decide) rfl (by decide +kernel) rfl dX6_ends_24 ?_
    refine g_bipush F dX6_ends_27 (v := 40) (by decide) ?_
    refine g_iload_n F 0 dX6_ends_29 rfl rfl ?_
    refine g_imul F dX6_ends_30 ?_
    refine g_aload_n F 1 dX6_ends_31 rfl rfl ?_
    refine mg_get F hM hin 9 (by decide) rfl (by decide +kernel) rfl dX6_ends_32 ?_
    refine g_iload_n F 0 dX6_ends_35 rfl rfl ?_
    refine mg_ald F hM 9 rfl hok.1 (show (rcA σ j) < 4 by omega) (v := (σ 9 (rcA σ j))) ((up2_ne _ _ (fun h => absurd h.1 (by decide))).trans rfl) dX6_ends_36 ?_
    refine g_iadd F dX6_ends_37 ?_
    refine g_bipush F dX6_ends_38 (v := 10) (by decide) ?_
    refine g_iload_n F 2 dX6_ends_40 rfl rfl ?_
    refine g_imul F dX6_ends_41 ?_
    refine g_iload_n F 3 dX6_ends_42 rfl rfl ?_
    refine g_iadd F dX6_ends_43 ?_
    refine mg_ast F hM 10 rfl (nI_addE (show (40 * (σ 12 j)) = nI (40 * (rcA σ j)) from (nI_mulE (show 40 = nI 40 from rfl) (show (σ 12 j) = nI (rcA σ j) from hok.1))) (show (σ 9 (rcA σ j)) = nI (rcN σ j) from hok.2.2.1)) (show ((40 * (rcA σ j)) + (rcN σ j)) < 160 by omega) dX6_ends_44 ?_
    refine g_aload_n F 1 dX6_ends_45 rfl rfl ?_
    refine mg_get F hM hin 9 (by decide) rfl (by decide +kernel) rfl dX6_ends_46 ?_
    refine g_iload_n F 0 dX6_ends_49 rfl rfl ?_
    refine g_dup2 F dX6_ends_50 rfl rfl ?_
    refine mg_ald F hM 9 rfl hok.1 (show (rcA σ j) < 4 by omega) (v := (σ 9 (rcA σ j))) ((up2_ne _ _ (fun h => absurd h.1 (by decide))).trans ((up2_ne _ _ (fun h => absurd h.1 (by decide))).trans rfl)) dX6_ends_51 ?_
    refine g_iconst F dX6_ends_52 (v := 1) (by decide) ?_
    refine g_iadd F dX6_ends_53 ?_
    refine mg_ast F hM 9 rfl hok.1 (show (rcA σ j) < 4 by omega) dX6_ends_54 ?_
    exact g_vret F hr hlocks (fun _ h => by rw [show (mw ad cs (enS σ j v how) w0) = (mw ad cs (up2 (up2 (up2 σ 23 j how) 10 ((40 * (rcA σ j)) + (rcN σ j)) ((10 * v) + how)) 9 (rcA σ j) ((σ 9 (rcA σ j)) + 1)) w0) from (by unfold enS; rw [if_neg c1])]; exact h) dX6_ends_55
