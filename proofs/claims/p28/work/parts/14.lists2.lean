set_option maxHeartbeats 4000000 in
set_option maxRecDepth 100000 in
theorem cl_cp3 (l : Launch) (D : va_G) (A : Nat → Prop) (cs : Nat → ClassId) (ad : Nat → Nat → Nat) (dm : Nat → Nat → Prop) (w : CF) (i0 n0 m1 ms1 : Nat) (f : Nat → Option Nat) (hn22 : ¬ dm 22 0) (hd0 : dm 16 i0) (he0 : w 16 i0 = .inl (cs 5, n0, .inr (.inr (.inr (.inr f))))) (hnm : n0 ≤ m1) (hm1 : m1 ≤ ms1) (hms : ms1 ≤ 60) (hel : ∀ q, q < n0 → ∀ y, f q = some y → ∃ j, y = ad 17 j ∧ dm 17 j ∧ ∃ fs, w 17 j = .inr (3, fs)) : Met l yJ7_copyOf_6403c wsJ7_copyOf_6403c ({ frames := 1, cells := 1, slots := ms1, locals := 40 }) (va_Pc [.ref (ad 16 i0), .int (nI m1), .ref (D.2 100 30)] (PW D A (tysG cs) ad dm w)) (QW D A (tysG cs) (fun r ad1 dm1 w1 => ∃ q, r = some (.ref q) ∧ ad1 = up2 ad 22 0 q ∧ dm1 = (fun a b => dm a b ∨ (a = 22 ∧ b = 0)) ∧ w1 = up2 w 22 0 (.inl (cs 5, m1, .inr (.inr (.inr (.inr (va_cpy f (fun _ => none) 0 0 n0)))))))) 1 ms1 A := by
  refine g_start (own := RJ7) [.ref (ad 16 i0), .int (nI m1), .ref (D.2 100 30)] (cc := cJ7_copyOf_6403c) (maxL := 4) (ret := (some (.array (.object "java/lang/Object")))) (lv0 := [(0, .ref (ad 16 i0)), (1, .int (nI m1)), (2, .ref (D.2 100 30))]) (by decide) rfl rfl (Nat.le_of_ble_eq_true rfl) rfl ?_
  intro p e s m below meth c F hr hlocks hname
  refine g_aload_n F 2 dJ7_copyOf_6403c_0 rfl rfl ?_
  refine g_ldcM F (by decide +kernel) dJ7_copyOf_6403c_1 ?_
  refine g_acmp_ne F (tgt := 13) dJ7_copyOf_6403c_3 (by decide) (fun c1 => ?_) (fun c1 => ?_)
  ·
    exact absurd rfl c1
  ·
    refine g_iload_n F 1 dJ7_copyOf_6403c_6 rfl rfl ?_
    refine g_newq (N' := m1) F 22 0 5 hn22 rfl (by decide +kernel) F.2.2.2.2.1.2.2.1 rfl (by omega) (by show 0 + 1 ≤ 1; omega) (by show 0 + m1 ≤ ms1; omega) dJ7_copyOf_6403c_7 (fun q => ?_)
    refine g_goto F (tgt := 24) dJ7_copyOf_6403c_10 (by decide) ?_
    refine g_astore_n F (lv1 := [(3, .ref q), (0, .ref (ad 16 i0)), (1, .int (nI m1)), (2, .ref (D.2 100 30))]) dJ7_copyOf_6403c_24 rfl (by decide) rfl ?_
    refine g_aload_n F 1 dJ7_copyOf_6403c_25 rfl rfl ?_
    refine g_iconst F dJ7_copyOf_6403c_26 (v := 0) (by decide) ?_
    refine g_aload_n F 0 dJ7_copyOf_6403c_27 rfl rfl ?_
    refine g_iconst F dJ7_copyOf_6403c_28 (v := 0) (by decide) ?_
    refine g_aload_n F 1 dJ7_copyOf_6403c_29 rfl rfl ?_
    refine g_alen (k := 16) (i := i0) (t0 := 5) (v := nI n0) F (Or.inl hd0) ((up2_ne _ _ (fun h => absurd h.1 (by decide))).trans he0) rfl rfl dJ7_copyOf_6403c_30 ?_
    refine g_iload_n F 2 dJ7_copyOf_6403c_31 rfl rfl ?_
    refine g_mmin F (by decide +kernel) (by decide +kernel) (by decide +kernel) (by decide +kernel) (Nat.le_of_ble_eq_true rfl) (Nat.le_of_ble_eq_true rfl) (by show 0 + 1 ≤ 1; omega) (by show 0 + m1 ≤ ms1; omega) dJ7_copyOf_6403c_32 ?_
    refine g_top (y := nI n0) (by rw [if_neg (by rw [nI_ltI (by omega) (by omega)]; omega)]) ?_
    refine g_copyq (k0 := 16) (i0 := i0) (k1 := 22) (i1 := 0) (n0 := n0) (n1 := m1) (a := 0) (b := 0) (z := n0) (f := f) (g := fun _ => none) (c0 := cs 5) (c1 := cs 5) (t0 := 5) (t1 := 5) F (by decide +kernel) (by decide +kernel) (by decide +kernel) (by decide +kernel) (Or.inl hd0) ((up2_ne _ _ (fun h => absurd h.1 (by decide))).trans he0) (Or.inr ⟨rfl, rfl⟩) (up2_self _ _ _ _) rfl rfl rfl rfl rfl (by omega) (by omega) (by omega) (by omega) ?_ F.2.2.2.2.1.2.2.2.2.2.1 (Nat.le_of_ble_eq_true rfl) (Nat.le_of_ble_eq_true rfl) dJ7_copyOf_6403c_35 ?_
    · intro q2 hq2 y hy
      rw [Nat.zero_add] at hy
      obtain ⟨j, hj1, hj2, fs, hj3⟩ := hel q2 hq2 y hy
      exact ⟨j, hj1, Or.inl hj2, fs, (up2_ne _ _ (fun h => absurd h.1 (by decide))).trans hj3⟩
    refine g_aload_n F 0 dJ7_copyOf_6403c_38 rfl rfl ?_
    refine g_qa F hr (.inr ⟨_, rfl⟩) hlocks (fun _ h => h) ⟨q, rfl, rfl, rfl, ?_⟩ (by omega) (by omega) dJ7_copyOf_6403c_39
    funext x y
    by_cases hxy : x = 22 ∧ y = 0
    · rw [hxy.1, hxy.2, up2_self, up2_self]
    · rw [up2_ne _ _ hxy, up2_ne _ _ hxy, up2_ne _ _ hxy]
set_option maxHeartbeats 4000000 in
set_option maxRecDepth 100000 in
theorem cl_cp2 (l : Launch) (D : va_G) (A : Nat → Prop) (cs : Nat → ClassId) (ad : Nat → Nat → Nat) (dm : Nat → Nat → Prop) (w : CF) (i0 n0 m1 ms1 : Nat) (f : Nat → Option Nat) (hn22 : ¬ dm 22 0) (hd0 : dm 16 i0) (he0 : w 16 i0 = .inl (cs 5, n0, .inr (.inr (.inr (.inr f))))) (hnm : n0 ≤ m1) (hm1 : m1 ≤ ms1) (hms : ms1 ≤ 60) (hel : ∀ q, q < n0 → ∀ y, f q = some y → ∃ j, y = ad 17 j ∧ dm 17 j ∧ ∃ fs, w 17 j = .inr (3, fs)) : Met l yJ7_copyOf_1904c wsJ7_copyOf_1904c ({ frames := 2, cells := 1, slots := ms1, locals := 80 }) (va_Pc [.ref (ad 16 i0), .int (nI m1)] (PW D A (tysG cs) ad dm w)) (QW D A (tysG cs) (fun r ad1 dm1 w1 => ∃ q, r = some (.ref q) ∧ ad1 = up2 ad 22 0 q ∧ dm1 = (fun a b => dm a b ∨ (a = 22 ∧ b = 0)) ∧ w1 = up2 w 22 0 (.inl (cs 5, m1, .inr (.inr (.inr (.inr (va_cpy f (fun _ => none) 0 0 n0)))))))) 1 ms1 A := by
  refine g_start (own := RJ7) [.ref (ad 16 i0), .int (nI m1)] (cc := cJ7_copyOf_1904c) (maxL := 2) (ret := (some (.array (.object "java/lang/Object")))) (lv0 := [(0, .ref (ad 16 i0)), (1, .int (nI m1))]) (by decide) rfl rfl (Nat.le_of_ble_eq_true rfl) rfl ?_
  intro p e s m below meth c F hr hlocks hname
  refine g_aload_n F 0 dJ7_copyOf_1904c_0 rfl rfl ?_
  refine g_iload_n F 1 dJ7_copyOf_1904c_1 rfl rfl ?_
  refine g_aload_n F 0 dJ7_copyOf_1904c_2 rfl rfl ?_
  refine g_getClass (k := 16) (i := i0) (t0 := 5) F (by decide +kernel) (by decide +kernel) (by decide +kernel) (by decide +kernel) hd0 he0 rfl (Nat.le_of_ble_eq_true rfl) (Nat.le_of_ble_eq_true rfl) dJ7_copyOf_1904c_3 ?_
  refine q_callS F (rest := []) [.ref (ad 16 i0), .int (nI m1), .ref (D.2 100 30)] (cl_cp3 l D A cs ad dm w i0 n0 m1 ms1 f hn22 hd0 he0 hnm hm1 hms hel) (va_cwS 3 F.1.2.2.2.2 gJ7_copyOf_1904c_J7_copyOf_6403c rfl rfl rfl (by decide +kernel) ⟨Nat.le_of_ble_eq_true rfl, Nat.le_of_ble_eq_true rfl⟩) rfl rfl (Nat.le_of_ble_eq_true rfl) dJ7_copyOf_1904c_6 ⟨by show 0 + 1 ≤ 1; omega, by show 0 + ms1 ≤ ms1; omega⟩ (fun _ _ _ _ hv => ?_)
  obtain ⟨q, rfl, rfl, rfl, rfl⟩ := hv
  exact g_qa F hr (.inr ⟨_, rfl⟩) hlocks (fun _ h => h) ⟨q, rfl, rfl, rfl, rfl⟩ (by omega) (by omega) dJ7_copyOf_1904c_9
theorem nI_max1 (b : Nat) (hb : b < 2 ^ 30) : nI (max 1 b) = (if (1 : Int32) < nI b then nI b else 1) := by
  rw [show (1 : Int32) = nI 1 from rfl]
  by_cases h : 1 < b
  · rw [if_pos ((nI_ltI (by omega) (by omega)).mpr h), Nat.max_eq_right (by omega)]
  · rw [if_neg (by rw [nI_ltI (by omega) (by omega)]; omega), Nat.max_eq_left (by omega)]
set_option maxHeartbeats 4000000 in
set_option maxRecDepth 100000 in
theorem cl_nl (l : Launch) (D : va_G) (A : Nat → Prop) (cs : Nat → ClassId) (ad : Nat → Nat → Nat) (dm : Nat → Nat → Prop) (w : CF) (a b : Nat) (ha0 : 0 < a) (ha : a < 2 ^ 20) (hb : b < 2 ^ 30) (hb2 : b < 2 ^ 20) : Met l yJ8_newLength_cabcc wsJ8_newLength_cabcc ({ frames := 1, cells := 0, slots := 0, locals := 40 }) (va_Pc [.int (nI a), .int 1, .int (nI b)] (PW D A (tysG cs) ad dm w)) (QW D A (tysG cs) (fun r ad1 dm1 w1 => r = some (.int (nI (a + max 1 b))) ∧ ad = ad1 ∧ dm = dm1 ∧ w = w1)) 0 0 A := by
  refine g_start (own := RJ8) [.int (nI a), .int 1, .int (nI b)] (cc := cJ8_newLength_cabcc) (maxL := 4) (ret := (some .int)) (lv0 := [(0, .int (nI a)), (1, .int 1), (2, .int (nI b))]) (by decide) rfl rfl (Nat.le_of_ble_eq_true rfl) rfl ?_
  intro p e s m below meth c F hr hlocks hname
  refine g_iload_n F 0 dJ8_newLength_cabcc_0 rfl rfl ?_
  refine g_iload_n F 1 dJ8_newLength_cabcc_1 rfl rfl ?_
  refine g_iload_n F 2 dJ8_newLength_cabcc_2 rfl rfl ?_
  refine g_mmax F (by decide +kernel) (by decide +kernel) (by decide +kernel) (by decide +kernel) (Nat.le_of_ble_eq_true rfl) (Nat.le_of_ble_eq_true rfl) (Nat.zero_le _) (Nat.zero_le _) dJ8_newLength_cabcc_3 ?_
  refine g_top (y := nI (max 1 b)) (nI_max1 b hb) ?_
  refine g_iadd F dJ8_newLength_cabcc_6 ?_
  refine g_istore_n F (lv1 := [(3, .int ((nI a) + (nI (max 1 b)))), (0, .int (nI a)), (1, .int 1), (2, .int (nI b))]) dJ8_newLength_cabcc_7 rfl (by decide) rfl ?_
  refine g_iconst F dJ8_newLength_cabcc_8 (v := 0) (by decide) ?_
  refine g_iload_n F 0 dJ8_newLength_cabcc_9 rfl rfl ?_
  refine g_icmp_ge F (tgt := 21) dJ8_newLength_cabcc_10 (by decide) (fun c1 => ?_) (fun c1 => ?_)
  ·
    exact absurd ((nI_leE (show ((nI a) + (nI (max 1 b))) = nI (a + (max 1 b)) from (nI_addE (show (nI a) = nI a from rfl) (show (nI (max 1 b)) = nI (max 1 b) from rfl))) (show 0 = nI 0 from rfl) (show (a + (max 1 b)) < 2 ^ 31 by omega) (show 0 < 2 ^ 31 by omega)).mp c1) (by omega)
  ·
    refine g_iload_n F 0 dJ8_newLength_cabcc_13 rfl rfl ?_
    refine g_ldc F (v := 2147483639) dJ8_newLength_cabcc_14 (by decide +kernel) ?_
    refine g_top (y := nI 2147483639) rfl ?_
    refine g_icmp_gt F (tgt := 21) dJ8_newLength_cabcc_16 (by decide) (fun c2 => ?_) (fun c2 => ?_)
    ·
      exact absurd ((nI_ltE (show (nI 2147483639) = nI 2147483639 from rfl) (show ((nI a) + (nI (max 1 b))) = nI (a + (max 1 b)) from (nI_addE (show (nI a) = nI a from rfl) (show (nI (max 1 b)) = nI (max 1 b) from rfl))) (show 2147483639 < 2 ^ 31 by omega) (show (a + (max 1 b)) < 2 ^ 31 by omega)).mp c2) (by omega)
    ·
      refine g_iload_n F 0 dJ8_newLength_cabcc_19 rfl rfl ?_
      exact g_qi F hr hlocks (fun _ h => h) ⟨congrArg (fun z => some (Value.int z)) (nI_add a (max 1 b)), rfl, rfl, rfl⟩ (by decide) (by decide) dJ8_newLength_cabcc_20

