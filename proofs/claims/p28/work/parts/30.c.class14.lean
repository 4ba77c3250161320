set_option maxHeartbeats 4000000 in
set_option maxRecDepth 100000 in
theorem ci_class (l : Launch) (D : va_G) (A : Nat → Prop) (cs : Nat → ClassId) (ad : Nat → Nat → Nat) (dm : Nat → Nat → Prop) (w : CF) (hfr : ∀ a b, dm a b → a < 10 ∨ (a = 10 ∧ b = 0)) (h10 : dm 10 0) (hw10 : w 10 0 = .inr (5, [.null, .null, .null, .int 0])) : Met l yX5_init wsX5_init ({ frames := 6, cells := 27, slots := 105, locals := 180 }) (va_Pc [.ref (ad 10 0)] (PW D A (tysG cs) ad dm w)) (QW D A (tysG cs) (fun rz ad1 dm1 w1 => rz = none ∧ (∀ a b, dm a b → ad1 a b = ad a b) ∧ dm1 = dI dm 4 6 True True ∧ w1 = cwZ D ad1 cs w)) 27 105 A := by
  refine g_start (own := RX5) [.ref (ad 10 0)] (cc := cX5_init) (maxL := 2) (ret := none) (lv0 := [(0, .ref (ad 10 0))]) (by decide) rfl rfl (Nat.le_of_ble_eq_true rfl) rfl ?_
  intro p e s m below meth c F hr hlocks hname
  have hin : ∀ w ∈ wsX50, w ∈ wsX5_init := by decide +kernel
  have hinX0 : ∀ w ∈ wsX00, w ∈ wsX5_init := by decide +kernel
  have hinX4 : ∀ w ∈ wsX40, w ∈ wsX5_init := by decide +kernel
  have hinJx4a65c : ∀ w ∈ wsJx4a65c0, w ∈ wsX5_init := by decide +kernel
  refine g_aload_n F 0 dX5_init_0 rfl rfl ?_
  refine g_obj F (by decide +kernel) (by decide +kernel) (List.mem_cons_of_mem _ (List.mem_append_left _ (List.mem_append_left _ (List.mem_append_left _ (List.mem_append_left _ (List.mem_append_left _ (List.mem_of_getElem? (i := 2) rfl))))))) (Nat.le_of_ble_eq_true rfl) (Nat.le_of_ble_eq_true rfl) dX5_init_1 ?_
  refine g_aload_n F 0 dX5_init_4 rfl rfl ?_
  refine g_iconst F dX5_init_5 (v := 4) (by decide) ?_
  refine g_newq (N' := 4) F 11 0 3 (fun z => by rcases hfr _ _ z with y | y <;> omega) rfl (by decide +kernel) F.2.2.2.2.1.2.2.2.1 rfl (by decide) (by exact Nat.le_of_ble_eq_true rfl) (by exact Nat.le_of_ble_eq_true rfl) dX5_init_6 (fun q11 => ?_)
  refine g_st (st1 := [.ref q11, .ref (up2 ad 11 0 q11 10 0)]) (by rw [up2_k (by decide)]) ?_
  refine g_putF (k := 10) (i := 0) (ci := 5) (C := RX5) (T := TX5) (N := 4) (fs := [.null, .null, .null, .int 0]) (fk := 0) (v := .ref q11) (ty := .array (.object "MessageCentre$Account")) (tf := tyX5) F hin tyX5_ok nmX5 (.inl h10) ((up2_k (by decide) _).trans hw10) rfl (by decide) (by decide +kernel) rfl rfl hname rfl (by decide +kernel) rfl rfl (show 0 < 4 by decide) dX5_init_9 ?_
  refine g_iconst F dX5_init_12 (v := 0) (by decide) ?_
  refine g_istore_n F (lv1 := [(1, .int 0), (0, .ref (ad 10 0))]) dX5_init_13 rfl (by decide) rfl ?_
  refine g_forget (dm1 := dI dm 0 0 False False) (ad1 := up2 ad 11 0 q11) (w1 := WI D (up2 ad 11 0 q11) cs w 0 0 [.ref q11, .null, .null, .int 0]) (fun a b z => dI_one z) (fun _ _ _ => rfl) (WI_one hfr) ?_
  refine g_loopP 4 0 (Nat.zero_le _) (fun k ad9 dm9 w9 lv9 => (ad9 10 0 = ad 10 0 ∧ ad9 11 0 = q11 ∧ ∀ a b, dm a b → ad9 a b = ad a b) ∧ dm9 = dI dm k 0 False False ∧ w9 = WI D ad9 cs w k 0 [.ref q11, .null, .null, .int 0] ∧ lv9 = [(1, .int (nI k)), (0, .ref (ad 10 0))]) (fun k => 1 + 3 * k) (fun k => 4 + 11 * k) rfl rfl ⟨⟨up2_k (by decide) _, up2_self _ _ _ _, fun a b z => by rcases hfr a b z with y | y <;> exact up2_k (by omega) _⟩, rfl, rfl, rfl⟩ ?_ (fun k hk0 hk1 ih => ?_)
  · intro ad9 dm9 w9 lv9 h9
    obtain ⟨⟨e10, e11, hag⟩, rfl, rfl, rfl⟩ := h9
    show GG p l e _ s m _ below meth c D A ad9 _ _ 13 48 _ _ 14 _ []
    refine g_iload_n F 0 dX5_init_14 rfl rfl ?_
    refine g_aload_n F 1 dX5_init_15 rfl rfl ?_
    refine g_st (st1 := [.ref (ad9 10 0), .int (nI 4)]) (by rw [e10]) ?_
    refine g_getf (k := 10) (i := 0) (ci := 5) (C := RX5) (T := TX5) (N := 4) (fs := [.ref q11, .null, .null, .int 0]) (fk := 0) (v := .ref q11) F hin (.inl h10) WI_10 rfl (by decide) (by decide +kernel) rfl rfl dX5_init_16 ?_
    refine g_st (st1 := [.ref (ad9 11 0), .int (nI 4)]) (by rw [e11]) ?_
    refine g_alen (t0 := 3) (k := 11) (i := 0) (v := nI 4) F (.inr (.inl ⟨rfl, rfl⟩)) WI_11 rfl rfl dX5_init_19 ?_
    refine g_icmp_ge F (tgt := 42) dX5_init_20 (by decide) (fun _ => ?_) (fun h => absurd (Int32.le_refl _) h)
    refine g_aload_n F 1 dX5_init_42 rfl rfl ?_
    refine g_bipush F dX5_init_43 (v := 6) (by decide) ?_
    refine g_newq (N' := 6) F 12 0 4 (dI_nd hfr (.inr (.inr (.inr (.inl ⟨rfl, id⟩))))) rfl (by decide +kernel) F.2.2.2.2.1.2.2.2.2.1 rfl (by decide) (by exact Nat.le_of_ble_eq_true rfl) (by exact Nat.le_of_ble_eq_true rfl) dX5_init_45 (fun q12 => ?_)
    refine g_st (st1 := [.ref q12, .ref (up2 ad9 12 0 q12 10 0)]) (by rw [up2_k (by decide), e10]) ?_
    refine g_putF (k := 10) (i := 0) (ci := 5) (C := RX5) (T := TX5) (N := 4) (fs := [.ref q11, .null, .null, .int 0]) (fk := 1) (v := .ref q12) (ty := .array (.object "MessageCentre$Recipient")) (tf := tyX5) F hin tyX5_ok nmX5 (.inl (.inl h10)) ((up2_k (by decide) _).trans WI_10) rfl (by decide) (by decide +kernel) rfl rfl hname rfl (by decide +kernel) rfl rfl (show 1 < 4 by decide) dX5_init_48 ?_
    refine g_iconst F dX5_init_51 (v := 0) (by decide) ?_
    refine g_istore_n F (lv1 := [(1, .int 0), (0, .ref (ad 10 0))]) dX5_init_52 rfl (by decide) rfl ?_
    refine g_forget (dm1 := dI dm 4 0 True False) (ad1 := up2 ad9 12 0 q12) (w1 := WI D (up2 ad9 12 0 q12) cs w 4 0 [.ref q11, .ref q12, .null, .int 0]) (fun a b z => dI_two z) (fun _ _ _ => rfl) (WI_two hfr) ?_
    refine g_loopP 6 0 (Nat.zero_le _) (fun r ad8 dm8 w8 lv8 => (ad8 10 0 = ad 10 0 ∧ ad8 11 0 = q11 ∧ ad8 12 0 = q12 ∧ ∀ a b, dm a b → ad8 a b = ad a b) ∧ dm8 = dI dm 4 r True False ∧ w8 = WI D ad8 cs w 4 r [.ref q11, .ref q12, .null, .int 0] ∧ lv8 = [(1, .int (nI r)), (0, .ref (ad 10 0))]) (fun r => 14 + 2 * r) (fun r => 54 + 8 * r) rfl rfl ⟨⟨(up2_k (by decide) _).trans e10, (up2_k (by decide) _).trans e11, up2_self _ _ _ _, fun a b z => by rcases hfr a b z with y | y <;> (rw [up2_k (by omega)]; exact hag a b z)⟩, rfl, rfl, rfl⟩ ?_ (fun r hk0 hk1 ih => ?_)
    · intro ad8 dm8 w8 lv8 h8
      obtain ⟨⟨e10, e11, e12, hag⟩, rfl, rfl, rfl⟩ := h8
      show GG p l e _ s m _ below meth c D A ad8 _ _ 26 102 _ _ 53 _ []
      refine g_iload_n F 0 dX5_init_53 rfl rfl ?_
      refine g_aload_n F 1 dX5_init_54 rfl rfl ?_
      refine g_st (st1 := [.ref (ad8 10 0), .int (nI 6)]) (by rw [e10]) ?_
      refine g_getf (k := 10) (i := 0) (ci := 5) (C := RX5) (T := TX5) (N := 4) (fs := [.ref q11, .ref q12, .null, .int 0]) (fk := 1) (v := .ref q12) F hin (.inl h10) WI_10 rfl (by decide) (by decide +kernel) rfl rfl dX5_init_55 ?_
      refine g_st (st1 := [.ref (ad8 12 0), .int (nI 6)]) (by rw [e12]) ?_
      refine g_alen (t0 := 4) (k := 12) (i := 0) (v := nI 6) F (.inr (.inr (.inl ⟨rfl, rfl, trivial⟩))) WI_12 rfl rfl dX5_init_58 ?_
      refine g_icmp_ge F (tgt := 81) dX5_init_59 (by decide) (fun _ => ?_) (fun h => absurd (Int32.le_refl _) h)
      refine g_aload_n F 1 dX5_init_81 rfl rfl ?_
      refine g_new (ci := 0) (C := RJx4a65c) (T := TJx4a65c) (N := 3) (tf := tyJx4a65c) (fs := [.int 0, .null, .int 0]) F 15 0 (dI_nd hfr (.inr (.inr (.inr (.inr ⟨rfl, by omega, by omega, fun _ => id⟩))))) hinJx4a65c tyJx4a65c_ok (by decide +kernel) (by decide +kernel) (by decide +kernel) rfl (fun j hj => by rcases (show j = 0 ∨ j = 1 ∨ j = 2 by omega) with rfl | rfl | rfl <;> rfl) (by exact Nat.le_of_ble_eq_true rfl) (by exact Nat.le_of_ble_eq_true rfl) dX5_init_82 (fun q => ?_)
      refine g_dup F dX5_init_85 rfl ?_
      refine g_st (st1 := [.ref (up2 ad8 15 0 q 15 0), .ref q, .ref (ad 10 0)]) (by rw [up2_self]) ?_
      refine q_callI F (ret := none) (rest := [.ref q, .ref (ad 10 0)]) (b := up2 ad8 15 0 q 15 0) [] (ci_list l D A cs (up2 ad8 15 0 q) _ _ 0 (.inr ⟨rfl, rfl⟩) (up2_self _ _ _ _)) (n_cwI 0 F.1.2.2.2.2 gX5_init_Jx4a65c_init_da8c8 rfl rfl rfl (by decide +kernel) (by decide +kernel) (by decide +kernel) rfl (by decide +kernel) ⟨Nat.le_of_ble_eq_true rfl, Nat.le_of_ble_eq_true rfl⟩) rfl rfl (Nat.le_of_ble_eq_true rfl) dX5_init_86 ⟨Nat.le_of_ble_eq_true rfl, Nat.le_of_ble_eq_true rfl⟩ (fun _ _ _ _ hv => ?_)
      obtain ⟨rfl, rfl, rfl, rfl⟩ := hv
      refine g_st (st1 := [.ref q, .ref (up2 ad8 15 0 q 10 0)]) (by rw [up2_k (by decide), e10]; first | done | rfl) ?_
      refine g_putF (k := 10) (i := 0) (ci := 5) (C := RX5) (T := TX5) (N := 4) (fs := [.ref q11, .ref q12, .null, .int 0]) (fk := 2) (v := .ref q) (ty := .object "java/util/ArrayList") (tf := tyX5) F hin tyX5_ok nmX5 (.inl (.inl h10)) (by rw [up2_k (by decide), up2_k (by decide), WI_10]) rfl (by decide) (by decide +kernel) rfl rfl hname rfl (by decide +kernel) rfl rfl (show 2 < 4 by decide) dX5_init_89 ?_
      exact g_qv F hr hlocks (fun H hH => HW.congr hH (ad' := up2 ad8 15 0 q) (dm' := dI dm 4 6 True True) (w' := cwZ D (up2 ad8 15 0 q) cs w) (fun a b z => dI_end z) (fun _ _ _ => rfl) (WI_end hfr e11 e12)) ⟨rfl, fun a b z => by rcases hfr a b z with y | y <;> (rw [up2_k (by omega)]; exact hag a b z), rfl, rfl⟩ (by decide) (by decide) dX5_init_92
    · intro ad8 dm8 w8 lv8 h8
      obtain ⟨⟨e10, e11, e12, hag⟩, rfl, rfl, rfl⟩ := h8
      show GG p l e _ s m _ below meth c D A ad8 _ _ (14 + 2 * r) (54 + 8 * r) _ _ 53 _ []
      refine g_iload_n F 0 dX5_init_53 rfl rfl ?_
      refine g_aload_n F 1 dX5_init_54 rfl rfl ?_
      refine g_st (st1 := [.ref (ad8 10 0), .int (nI r)]) (by rw [e10]) ?_
      refine g_getf (k := 10) (i := 0) (ci := 5) (C := RX5) (T := TX5) (N := 4) (fs := [.ref q11, .ref q12, .null, .int 0]) (fk := 1) (v := .ref q12) F hin (.inl h10) WI_10 rfl (by decide) (by decide +kernel) rfl rfl dX5_init_55 ?_
      refine g_st (st1 := [.ref (ad8 12 0), .int (nI r)]) (by rw [e12]) ?_
      refine g_alen (t0 := 4) (k := 12) (i := 0) (v := nI 6) F (.inr (.inr (.inl ⟨rfl, rfl, trivial⟩))) WI_12 rfl rfl dX5_init_58 ?_
      refine g_icmp_ge F (tgt := 81) dX5_init_59 (by decide) (fun h => absurd ((nI_leI (by omega) (by omega)).mp h) (by omega)) (fun _ => ?_)
      refine g_aload_n F 1 dX5_init_62 rfl rfl ?_
      refine g_st (st1 := [.ref (ad8 10 0)]) (by rw [e10]) ?_
      refine g_getf (k := 10) (i := 0) (ci := 5) (C := RX5) (T := TX5) (N := 4) (fs := [.ref q11, .ref q12, .null, .int 0]) (fk := 1) (v := .ref q12) F hin (.inl h10) WI_10 rfl (by decide) (by decide +kernel) rfl rfl dX5_init_63 ?_
      refine g_iload_n F 0 dX5_init_66 rfl rfl ?_
      refine g_new (ci := 4) (C := RX4) (T := TX4) (N := 5) (tf := tyX4) (fs := [.int 0, .int 0, .int 0, .int 0, .null]) F 14 r (dI_nd hfr (.inr (.inl ⟨rfl, Nat.le_refl _⟩))) hinX4 tyX4_ok (by decide +kernel) (by decide +kernel) (by decide +kernel) rfl (fun j hj => by rcases (show j = 0 ∨ j = 1 ∨ j = 2 ∨ j = 3 ∨ j = 4 by omega) with rfl | rfl | rfl | rfl | rfl <;> rfl) (by show _ ≤ 27; omega) (by show _ ≤ 105; omega) dX5_init_67 (fun q => ?_)
      refine g_dup F dX5_init_70 rfl ?_
      refine g_st (st1 := [.ref ((up2 ad8 14 r q) 14 r), .ref q, .int (nI r), .ref q12]) (by rw [up2_self]) ?_
      refine q_callIN F (rest := [.ref q, .int (nI r), .ref q12]) (b := (up2 ad8 14 r q) 14 r) [] (ci_rec l D A cs (up2 ad8 14 r q) (fun a b => dI dm 4 r True False a b ∨ (a = 14 ∧ b = r)) (up2 (WI D ad8 cs w 4 r [.ref q11, .ref q12, .null, .int 0]) 14 r (.inr (4, [.int 0, .int 0, .int 0, .int 0, .null]))) r (5 + r) (.inr ⟨rfl, rfl⟩) (up2_self _ _ _ _) (fun z => z.elim (dI_nd hfr (.inr (.inr (.inr (.inr ⟨rfl, by omega, by omega, fun y => absurd y (by omega)⟩))))) (fun y => absurd y.1 (by decide)))) ⟨va_cnB 0 F.1.2.2.2.2 gX5_init_X4_init_n22 rfl rfl rfl (F.2.2.2.2.1.2.2.2.2.2.2.1 _ (List.mem_of_getElem? (i := 8) rfl) : va_Nw (.methodLinkNest RX5 22 yX4_init "MessageCentre") _) (F.1.2.2.2.2 _ (by decide +kernel)) (by decide +kernel) ⟨Nat.le_of_ble_eq_true rfl, Nat.le_of_ble_eq_true rfl⟩, rfl, F.1.2.2.2.2 _ (by decide +kernel)⟩ rfl rfl (Nat.le_of_ble_eq_true rfl) dX5_init_71 ⟨by show 14 + 2 * r + 1 + 1 ≤ 27; omega, by show 54 + 8 * r + 5 + 3 ≤ 105; omega⟩ (fun _ _ _ _ hv => ?_)
      obtain ⟨q15, rfl, rfl, rfl, rfl⟩ := hv
      have ek : (up2 (up2 ad8 14 r q) 15 (5 + r) q15) 14 r = q := by rw [up2_k (by decide), up2_self]
      have er : (up2 (up2 ad8 14 r q) 15 (5 + r) q15) 12 0 = q12 := by rw [up2_k (by decide), up2_k (by decide), e12]
      refine g_st (st1 := [.ref ((up2 (up2 ad8 14 r q) 15 (5 + r) q15) 14 r), .int (nI r), .ref ((up2 (up2 ad8 14 r q) 15 (5 + r) q15) 12 0)]) (by rw [ek, er]; first | done | rfl) ?_
      refine g_astq (k := 12) (i := 0) (n := 6) (k2 := 14) (i2 := r) (ci := 4) (r := (RX4, TX4, 5)) (vs := [.int 0, .int 10, .int 0, .int 0, .ref q15]) (f := fun x => if x < r then some (ad8 14 x) else none) F 4 (.inl (.inl (.inr (.inr (.inl ⟨rfl, rfl, trivial⟩))))) (by rw [up2_k (by decide), up2_k (by decide), up2_k (by decide), WI_12]) rfl (.inl (.inr ⟨rfl, rfl⟩)) (by rw [up2_k (by decide), up2_self]) rfl (vp_in_nI (by omega) (by decide)) dX5_init_74 ?_
      refine g_w (w1 := (up2 (up2 (up2 (up2 (WI D ad8 cs w 4 r [.ref q11, .ref q12, .null, .int 0]) 14 r (.inr (4, [.int 0, .int 0, .int 0, .int 0, .null]))) 14 r (.inr (4, [.int 0, .int 10, .int 0, .int 0, .ref q15]))) 15 (5 + r) (.inr (0, [.int 0, .ref (D.2 100 0), .int 0]))) 12 0 (.inl (cs 4, 6, .inr (.inr (.inr (.inr (va_up (fun q => if q < r then some (ad8 14 q) else none) r (some q))))))))) (by rw [nI_clamp (by omega), ek]) ?_
      refine g_iinc F (v := nI (r + 1)) (lv1 := [(1, .int (nI (r + 1))), (0, .ref (ad 10 0))]) 0 dX5_init_75 rfl (nI_1 r) (by decide) rfl ?_
      refine g_goto F (tgt := 53) dX5_init_78 (by decide) ?_
      exact g_widen (by show _ ≤ _; omega) (by show _ ≤ _; omega) (g_forget (dm1 := dI dm 4 (r + 1) True False) (ad1 := (up2 (up2 ad8 14 r q) 15 (5 + r) q15)) (w1 := WI D (up2 (up2 ad8 14 r q) 15 (5 + r) q15) cs w 4 (r + 1) [.ref q11, .ref q12, .null, .int 0]) (fun a b z => dI_rec z) (fun _ _ _ => rfl) (WI_rec hfr hk1) (ih _ _ _ _ ⟨⟨by rw [up2_k (by decide), up2_k (by decide)]; exact e10, by rw [up2_k (by decide), up2_k (by decide)]; exact e11, by rw [up2_k (by decide), up2_k (by decide)]; exact e12, fun a b z => by rcases hfr a b z with y | y <;> (rw [up2_k (by omega), up2_k (by omega)]; exact hag a b z)⟩, rfl, rfl, rfl⟩))
  · intro ad9 dm9 w9 lv9 h9
    obtain ⟨⟨e10, e11, hag⟩, rfl, rfl, rfl⟩ := h9
    show GG p l e _ s m _ below meth c D A ad9 _ _ (1 + 3 * k) (4 + 11 * k) _ _ 14 _ []
    refine g_iload_n F 0 dX5_init_14 rfl rfl ?_
    refine g_aload_n F 1 dX5_init_15 rfl rfl ?_
    refine g_st (st1 := [.ref (ad9 10 0), .int (nI k)]) (by rw [e10]) ?_
    refine g_getf (k := 10) (i := 0) (ci := 5) (C := RX5) (T := TX5) (N := 4) (fs := [.ref q11, .null, .null, .int 0]) (fk := 0) (v := .ref q11) F hin (.inl h10) WI_10 rfl (by decide) (by decide +kernel) rfl rfl dX5_init_16 ?_
    refine g_st (st1 := [.ref (ad9 11 0), .int (nI k)]) (by rw [e11]) ?_
    refine g_alen (t0 := 3) (k := 11) (i := 0) (v := nI 4) F (.inr (.inl ⟨rfl, rfl⟩)) WI_11 rfl rfl dX5_init_19 ?_
    refine g_icmp_ge F (tgt := 42) dX5_init_20 (by decide) (fun h => absurd ((nI_leI (by omega) (by omega)).mp h) (by omega)) (fun _ => ?_)
    refine g_aload_n F 1 dX5_init_23 rfl rfl ?_
    refine g_st (st1 := [.ref (ad9 10 0)]) (by rw [e10]) ?_
    refine g_getf (k := 10) (i := 0) (ci := 5) (C := RX5) (T := TX5) (N := 4) (fs := [.ref q11, .null, .null, .int 0]) (fk := 0) (v := .ref q11) F hin (.inl h10) WI_10 rfl (by decide) (by decide +kernel) rfl rfl dX5_init_24 ?_
    refine g_iload_n F 0 dX5_init_27 rfl rfl ?_
    refine g_new (ci := 1) (C := RX0) (T := TX0) (N := 7) (tf := tyX0) (fs := [.null, .int 0, .int 0, .int 0, .int 0, .int 0, .null]) F 13 k (dI_nd hfr (.inl ⟨rfl, Nat.le_refl _⟩)) hinX0 tyX0_ok (by decide +kernel) (by decide +kernel) (by decide +kernel) rfl (fun j hj => by rcases (show j = 0 ∨ j = 1 ∨ j = 2 ∨ j = 3 ∨ j = 4 ∨ j = 5 ∨ j = 6 by omega) with rfl | rfl | rfl | rfl | rfl | rfl | rfl <;> rfl) (by show _ ≤ 27; omega) (by show _ ≤ 105; omega) dX5_init_28 (fun q => ?_)
    refine g_dup F dX5_init_31 rfl ?_
    refine g_st (st1 := [.ref ((up2 ad9 13 k q) 13 k), .ref q, .int (nI k), .ref q11]) (by rw [up2_self]) ?_
    refine q_callIN F (rest := [.ref q, .int (nI k), .ref q11]) (b := (up2 ad9 13 k q) 13 k) [] (ci_acc l D A cs (up2 ad9 13 k q) (fun a b => dI dm k 0 False False a b ∨ (a = 13 ∧ b = k)) (up2 (WI D ad9 cs w k 0 [.ref q11, .null, .null, .int 0]) 13 k (.inr (1, [.null, .int 0, .int 0, .int 0, .int 0, .int 0, .null]))) k k (1 + k) (.inr ⟨rfl, rfl⟩) (up2_self _ _ _ _) (fun z => z.elim (dI_nd hfr (.inr (.inr (.inl ⟨rfl, Nat.le_refl _⟩)))) (fun y => absurd y.1 (by decide))) (fun z => z.elim (dI_nd hfr (.inr (.inr (.inr (.inr ⟨rfl, by omega, by omega, fun y => absurd y (by omega)⟩))))) (fun y => absurd y.1 (by decide)))) ⟨va_cnB 0 F.1.2.2.2.2 gX5_init_X0_init_n15 rfl rfl rfl (F.2.2.2.2.1.2.2.2.2.2.2.1 _ (List.mem_of_getElem? (i := 7) rfl) : va_Nw (.methodLinkNest RX5 15 yX0_init "MessageCentre") _) (F.1.2.2.2.2 _ (by decide +kernel)) (by decide +kernel) ⟨Nat.le_of_ble_eq_true rfl, Nat.le_of_ble_eq_true rfl⟩, rfl, F.1.2.2.2.2 _ (by decide +kernel)⟩ rfl rfl (Nat.le_of_ble_eq_true rfl) dX5_init_32 ⟨by show 1 + 3 * k + 1 + 2 ≤ 27; omega, by show 4 + 11 * k + 7 + 4 ≤ 105; omega⟩ (fun _ _ _ _ hv => ?_)
    obtain ⟨q21, q15, rfl, rfl, rfl, rfl⟩ := hv
    have ek : (up2 (up2 (up2 ad9 13 k q) 21 k q21) 15 (1 + k) q15) 13 k = q := by rw [up2_k (by decide), up2_k (by decide), up2_self]
    have er : (up2 (up2 (up2 ad9 13 k q) 21 k q21) 15 (1 + k) q15) 11 0 = q11 := by rw [up2_k (by decide), up2_k (by decide), up2_k (by decide), e11]
    refine g_st (st1 := [.ref ((up2 (up2 (up2 ad9 13 k q) 21 k q21) 15 (1 + k) q15) 13 k), .int (nI k), .ref ((up2 (up2 (up2 ad9 13 k q) 21 k q21) 15 (1 + k) q15) 11 0)]) (by rw [ek, er]; first | done | rfl) ?_
    refine g_astq (k := 11) (i := 0) (n := 4) (k2 := 13) (i2 := k) (ci := 1) (r := (RX0, TX0, 7)) (vs := [.ref q21, .int 0, .int (-1), .int 0, .int 20, .int 10, .ref q15]) (f := fun x => if x < k then some (ad9 13 x) else none) F 3 (.inl (.inl (.inl (.inr (.inl ⟨rfl, rfl⟩))))) (by rw [up2_k (by decide), up2_k (by decide), up2_k (by decide), up2_k (by decide), WI_11]) rfl (.inl (.inl (.inr ⟨rfl, rfl⟩))) (by rw [up2_k (by decide), up2_self]) rfl (vp_in_nI (by omega) (by decide)) dX5_init_35 ?_
    refine g_w (w1 := (up2 (up2 (up2 (up2 (up2 (WI D ad9 cs w k 0 [.ref q11, .null, .null, .int 0]) 13 k (.inr (1, [.null, .int 0, .int 0, .int 0, .int 0, .int 0, .null]))) 21 k (.inl (cs 0, 1, .inl (upd (fun _ => 0) 0 1)))) 13 k (.inr (1, [.ref q21, .int 0, .int (-1), .int 0, .int 20, .int 10, .ref q15]))) 15 (1 + k) (.inr (0, [.int 0, .ref (D.2 100 0), .int 0]))) 11 0 (.inl (cs 3, 4, .inr (.inr (.inr (.inr (va_up (fun q => if q < k then some (ad9 13 q) else none) k (some q))))))))) (by rw [nI_clamp (by omega), ek]) ?_
    refine g_iinc F (v := nI (k + 1)) (lv1 := [(1, .int (nI (k + 1))), (0, .ref (ad 10 0))]) 0 dX5_init_36 rfl (nI_1 k) (by decide) rfl ?_
    refine g_goto F (tgt := 14) dX5_init_39 (by decide) ?_
    exact g_widen (by show _ ≤ _; omega) (by show _ ≤ _; omega) (g_forget (dm1 := dI dm (k + 1) 0 False False) (ad1 := (up2 (up2 (up2 ad9 13 k q) 21 k q21) 15 (1 + k) q15)) (w1 := WI D (up2 (up2 (up2 ad9 13 k q) 21 k q21) 15 (1 + k) q15) cs w (k + 1) 0 [.ref q11, .null, .null, .int 0]) (fun a b z => dI_acc z) (fun _ _ _ => rfl) (WI_acc hfr hk1) (ih _ _ _ _ ⟨⟨by rw [up2_k (by decide), up2_k (by decide), up2_k (by decide)]; exact e10, by rw [up2_k (by decide), up2_k (by decide), up2_k (by decide)]; exact e11, fun a b z => by rcases hfr a b z with y | y <;> (rw [up2_k (by omega), up2_k (by omega), up2_k (by omega)]; exact hag a b z)⟩, rfl, rfl, rfl⟩))

