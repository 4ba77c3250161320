set_option maxHeartbeats 4000000 in
set_option maxRecDepth 100000 in
theorem lh_draft (l : Launch) (D : va_G) (A : Nat → Prop) (cs : Nat → ClassId) (ad : Nat → Nat → Nat) (dm : Nat → Nat → Prop) (w : CF) (p0 p1 p2 p3 : Int32) {fs : List Value} {f9 : Nat → Int64} {mc ms : Nat} {post : Option Value → (Nat → Nat → Nat) → (Nat → Nat → Prop) → CF → Prop} {px : String → Prop} (hM : vx_Met l yX5_draft wsX5_draft { frames := 7, cells := mc, slots := ms, locals := 119 } (va_Pc [.ref (ad 10 0), .int p0, .int p1, .int p2, .int p3] (PW D A (tysG cs) ad dm w)) (QW D A (tysG cs) post) (XW D A (tysG cs) ad dm w px) mc ms A) (h10 : dm 10 0) (he10 : w 10 0 = .inr (5, fs)) (hkeep : ∀ v ad1 dm1 w1, post v ad1 dm1 w1 → (∃ x : Int32, v = some (.int x)) ∧ dm1 2 0 ∧ ad1 2 0 = ad 2 0 ∧ w1 2 0 = (.inl (cs 2, 1, .inr (.inl f9)))) (hpx : ∀ E, px E → E = xIO ∨ E = xIA) : Met l yL_draft wsL_draft { frames := 8, cells := mc, slots := ms, locals := 144 } (va_Pc [.ref (ad 10 0), .int p0, .int p1, .int p2, .int p3, .ref (ad 2 0)] (PW D A (tysG cs) ad dm w)) (QW D A (tysG cs) (fun rz ad1 dm1 w1 => (∃ v w2, post (some (.int v)) ad1 dm1 w2 ∧ rz = some (.int 0) ∧ w1 = up2 w2 2 0 (.inl (cs 2, 1, .inr (.inl (vp_updL f9 0 v.toInt64))))) ∨ (px xIO ∧ rz = some (.int 1) ∧ ad1 = ad ∧ dm1 = dm ∧ w1 = w) ∨ (px xIA ∧ rz = some (.int 2) ∧ ad1 = ad ∧ dm1 = dm ∧ w1 = w))) mc ms A := by
  refine h_start (own := RL) (hh := [(0, 14, 17, 13), (0, 14, 21, 15)]) [.ref (ad 10 0), .int p0, .int p1, .int p2, .int p3, .ref (ad 2 0)] (cc := cL_draft) (maxL := 7) (ret := some .int) (lv0 := [(0, .ref (ad 10 0)), (1, .int p0), (2, .int p1), (3, .int p2), (4, .int p3), (5, .ref (ad 2 0))]) (by decide) rfl rfl (Nat.le_of_ble_eq_true rfl) rfl ?_
  intro p e s m below meth c F hr hlocks htab
  refine g_aload F 5 dL_draft_0 rfl ?_
  refine g_iconst F dL_draft_2 (v := 0) (by decide) ?_
  refine g_aload_n F 0 dL_draft_3 rfl rfl ?_
  refine g_iload_n F 1 dL_draft_4 rfl rfl ?_
  refine g_iload_n F 2 dL_draft_5 rfl rfl ?_
  refine g_iload_n F 3 dL_draft_6 rfl rfl ?_
  refine g_iload F 4 dL_draft_7 rfl ?_
  refine x_callVc F (C := RX5) (k := 10) (i := 0) (ci := 5) (T := TX5) (N := 4) (rest := [.int 0, .ref (ad 2 0)]) [.int p0, .int p1, .int p2, .int p3] hM (cwV 4 F.1.2.2.2.2 gL_draft_X5_draft rfl rfl rfl (by decide +kernel) ⟨Nat.le_of_ble_eq_true rfl, Nat.le_of_ble_eq_true rfl⟩) rfl h10 he10 rfl rfl rfl (Nat.le_of_ble_eq_true rfl) dL_draft_9 ⟨Nat.le_of_eq (Nat.zero_add _), Nat.le_of_eq (Nat.zero_add _)⟩ (fun E ce q9 hp hcl hv H1 locs1 ls1 hw1 hS1 hl1 hc1 => ?_) (fun v ad1 dm1 w2 hv => ?_)
  · rcases hpx E hp with rfl | rfl
    · refine c_catch F (hh := [(0, 14, 17, 13), (0, 14, 21, 15)]) htab [] ⟨0, 14, 17, 13⟩ [⟨0, 14, 21, 15⟩] rfl (fun z hz => absurd hz List.not_mem_nil) rfl (by decide) (by decide +kernel) (List.mem_of_getElem? (i := 3) rfl) hcl hv hw1 hS1 hl1 hc1 ?_
      refine g_astore F (lv1 := [(6, .ref q9), (0, .ref (ad 10 0)), (1, .int p0), (2, .int p1), (3, .int p2), (4, .int p3), (5, .ref (ad 2 0))]) dL_draft_17 (by decide) rfl ?_
      refine g_iconst F dL_draft_19 (v := 1) (by decide) ?_
      exact g_qi F hr hlocks (fun _ h => h) (.inr (.inl ⟨hp, rfl, rfl, rfl, rfl⟩)) (Nat.le_of_eq (Nat.zero_add _)) (Nat.le_of_eq (Nat.zero_add _)) dL_draft_20
    · refine c_catch F (hh := [(0, 14, 17, 13), (0, 14, 21, 15)]) htab [⟨0, 14, 17, 13⟩] ⟨0, 14, 21, 15⟩ [] rfl (by intro z hz; simp only [List.mem_cons, List.not_mem_nil, or_false] at hz; subst hz; exact ⟨by decide, xIO, by decide +kernel, F.2.2.2.2.1.2.2.2.2.2.2.2.1⟩) rfl (by decide) (by decide +kernel) (List.mem_of_getElem? (i := 4) rfl) hcl hv hw1 hS1 hl1 hc1 ?_
      refine g_astore F (lv1 := [(6, .ref q9), (0, .ref (ad 10 0)), (1, .int p0), (2, .int p1), (3, .int p2), (4, .int p3), (5, .ref (ad 2 0))]) dL_draft_21 (by decide) rfl ?_
      refine g_iconst F dL_draft_23 (v := 2) (by decide) ?_
      exact g_qi F hr hlocks (fun _ h => h) (.inr (.inr ⟨hp, rfl, rfl, rfl, rfl⟩)) (Nat.le_of_eq (Nat.zero_add _)) (Nat.le_of_eq (Nat.zero_add _)) dL_draft_24
  · obtain ⟨⟨x, rfl⟩, h2, ha, he⟩ := hkeep _ _ _ _ hv
    refine g_i2l F dL_draft_12 ?_
    refine g_st (st1 := [.long x.toInt64, .int 0, .ref (ad1 2 0)]) (by rw [ha]; rfl) ?_
    refine g_last (k := 2) (i := 0) (n := 1) (f := f9) F 2 h2 he rfl (show ¬ ((0 : Int32) < 0 ∨ 1 ≤ (0 : Int32).toNatClampNeg) by decide) dL_draft_13 ?_
    refine g_goto F (tgt := 25) dL_draft_14 (by decide) ?_
    refine g_iconst F dL_draft_25 (v := 0) (by decide) ?_
    exact g_qi F hr hlocks (fun _ h => h) (.inl ⟨x, w2, hv, rfl, rfl⟩) (Nat.le_of_eq (Nat.zero_add _)) (Nat.le_of_eq (Nat.zero_add _)) dL_draft_26
set_option maxHeartbeats 4000000 in
set_option maxRecDepth 100000 in
theorem lh_setOptions (l : Launch) (D : va_G) (A : Nat → Prop) (cs : Nat → ClassId) (ad : Nat → Nat → Nat) (dm : Nat → Nat → Prop) (w : CF) (p0 p1 p2 p3 : Int32) {fs : List Value} {f9 : Nat → Int64} {mc ms : Nat} {post : Option Value → (Nat → Nat → Nat) → (Nat → Nat → Prop) → CF → Prop} {px : String → Prop} (hM : vx_Met l yX5_setOptions wsX5_setOptions { frames := 7, cells := mc, slots := ms, locals := 112 } (va_Pc [.ref (ad 10 0), .int p0, .int p1, .int p2, .int p3] (PW D A (tysG cs) ad dm w)) (QW D A (tysG cs) post) (XW D A (tysG cs) ad dm w px) mc ms A) (h10 : dm 10 0) (he10 : w 10 0 = .inr (5, fs)) (hkeep : ∀ v ad1 dm1 w1, post v ad1 dm1 w1 → v = none) (hpx : ∀ E, px E → E = xIO ∨ E = xIA) : Met l yL_setOptions wsL_setOptions { frames := 8, cells := mc, slots := ms, locals := 137 } (va_Pc [.ref (ad 10 0), .int p0, .int p1, .int p2, .int p3] (PW D A (tysG cs) ad dm w)) (QW D A (tysG cs) (fun rz ad1 dm1 w1 => (post none ad1 dm1 w1 ∧ rz = some (.int 0)) ∨ (px xIO ∧ rz = some (.int 1) ∧ ad1 = ad ∧ dm1 = dm ∧ w1 = w) ∨ (px xIA ∧ rz = some (.int 2) ∧ ad1 = ad ∧ dm1 = dm ∧ w1 = w))) mc ms A := by
  refine h_start (own := RL) (hh := [(0, 9, 12, 13), (0, 9, 16, 15)]) [.ref (ad 10 0), .int p0, .int p1, .int p2, .int p3] (cc := cL_setOptions) (maxL := 6) (ret := some .int) (lv0 := [(0, .ref (ad 10 0)), (1, .int p0), (2, .int p1), (3, .int p2), (4, .int p3)]) (by decide) rfl rfl (Nat.le_of_ble_eq_true rfl) rfl ?_
  intro p e s m below meth c F hr hlocks htab
  refine g_aload_n F 0 dL_setOptions_0 rfl rfl ?_
  refine g_iload_n F 1 dL_setOptions_1 rfl rfl ?_
  refine g_iload_n F 2 dL_setOptions_2 rfl rfl ?_
  refine g_iload_n F 3 dL_setOptions_3 rfl rfl ?_
  refine g_iload F 4 dL_setOptions_4 rfl ?_
  refine x_callVc F (C := RX5) (k := 10) (i := 0) (ci := 5) (T := TX5) (N := 4) (rest := []) [.int p0, .int p1, .int p2, .int p3] hM (cwV 4 F.1.2.2.2.2 gL_setOptions_X5_setOptions rfl rfl rfl (by decide +kernel) ⟨Nat.le_of_ble_eq_true rfl, Nat.le_of_ble_eq_true rfl⟩) rfl h10 he10 rfl rfl rfl (Nat.le_of_ble_eq_true rfl) dL_setOptions_6 ⟨Nat.le_of_eq (Nat.zero_add _), Nat.le_of_eq (Nat.zero_add _)⟩ (fun E ce q9 hp hcl hv H1 locs1 ls1 hw1 hS1 hl1 hc1 => ?_) (fun v ad1 dm1 w2 hv => ?_)
  · rcases hpx E hp with rfl | rfl
    · refine c_catch F (hh := [(0, 9, 12, 13), (0, 9, 16, 15)]) htab [] ⟨0, 9, 12, 13⟩ [⟨0, 9, 16, 15⟩] rfl (fun z hz => absurd hz List.not_mem_nil) rfl (by decide) (by decide +kernel) (List.mem_of_getElem? (i := 3) rfl) hcl hv hw1 hS1 hl1 hc1 ?_
      refine g_astore F (lv1 := [(5, .ref q9), (0, .ref (ad 10 0)), (1, .int p0), (2, .int p1), (3, .int p2), (4, .int p3)]) dL_setOptions_12 (by decide) rfl ?_
      refine g_iconst F dL_setOptions_14 (v := 1) (by decide) ?_
      exact g_qi F hr hlocks (fun _ h => h) (.inr (.inl ⟨hp, rfl, rfl, rfl, rfl⟩)) (Nat.le_of_eq (Nat.zero_add _)) (Nat.le_of_eq (Nat.zero_add _)) dL_setOptions_15
    · refine c_catch F (hh := [(0, 9, 12, 13), (0, 9, 16, 15)]) htab [⟨0, 9, 12, 13⟩] ⟨0, 9, 16, 15⟩ [] rfl (by intro z hz; simp only [List.mem_cons, List.not_mem_nil, or_false] at hz; subst hz; exact ⟨by decide, xIO, by decide +kernel, F.2.2.2.2.1.2.2.2.2.2.2.2.1⟩) rfl (by decide) (by decide +kernel) (List.mem_of_getElem? (i := 4) rfl) hcl hv hw1 hS1 hl1 hc1 ?_
      refine g_astore F (lv1 := [(5, .ref q9), (0, .ref (ad 10 0)), (1, .int p0), (2, .int p1), (3, .int p2), (4, .int p3)]) dL_setOptions_16 (by decide) rfl ?_
      refine g_iconst F dL_setOptions_18 (v := 2) (by decide) ?_
      exact g_qi F hr hlocks (fun _ h => h) (.inr (.inr ⟨hp, rfl, rfl, rfl, rfl⟩)) (Nat.le_of_eq (Nat.zero_add _)) (Nat.le_of_eq (Nat.zero_add _)) dL_setOptions_19
  · have hv0 := hkeep _ _ _ _ hv
    subst hv0
    refine g_goto F (tgt := 20) dL_setOptions_9 (by decide) ?_
    refine g_iconst F dL_setOptions_20 (v := 0) (by decide) ?_
    exact g_qi F hr hlocks (fun _ h => h) (.inl ⟨hv, rfl⟩) (Nat.le_of_eq (Nat.zero_add _)) (Nat.le_of_eq (Nat.zero_add _)) dL_setOptions_21
set_option maxHeartbeats 4000000 in
set_option maxRecDepth 100000 in
theorem lh_setRate (l : Launch) (D : va_G) (A : Nat → Prop) (cs : Nat → ClassId) (ad : Nat → Nat → Nat) (dm : Nat → Nat → Prop) (w : CF) (p0 p1 p2 : Int32) {fs : List Value} {f9 : Nat → Int64} {mc ms : Nat} {post : Option Value → (Nat → Nat → Nat) → (Nat → Nat → Prop) → CF → Prop} {px : String → Prop} (hM : vx_Met l yX5_setRate wsX5_setRate { frames := 7, cells := mc, slots := ms, locals := 112 } (va_Pc [.ref (ad 10 0), .int p0, .int p1, .int p2] (PW D A (tysG cs) ad dm w)) (QW D A (tysG cs) post) (XW D A (tysG cs) ad dm w px) mc ms A) (h10 : dm 10 0) (he10 : w 10 0 = .inr (5, fs)) (hkeep : ∀ v ad1 dm1 w1, post v ad1 dm1 w1 → (∃ x : Int32, v = some (.int x)) ∧ dm1 2 0 ∧ ad1 2 0 = ad 2 0 ∧ w1 2 0 = (.inl (cs 2, 1, .inr (.inl f9)))) (hpx : ∀ E, px E → E = xIO ∨ E = xIA) : Met l yL_setRate wsL_setRate { frames := 8, cells := mc, slots := ms, locals := 137 } (va_Pc [.ref (ad 10 0), .int p0, .int p1, .int p2, .ref (ad 2 0)] (PW D A (tysG cs) ad dm w)) (QW D A (tysG cs) (fun rz ad1 dm1 w1 => (∃ v w2, post (some (.int v)) ad1 dm1 w2 ∧ rz = some (.int 0) ∧ w1 = up2 w2 2 0 (.inl (cs 2, 1, .inr (.inl (vp_updL f9 0 v.toInt64))))) ∨ (px xIO ∧ rz = some (.int 1) ∧ ad1 = ad ∧ dm1 = dm ∧ w1 = w) ∨ (px xIA ∧ rz = some (.int 2) ∧ ad1 = ad ∧ dm1 = dm ∧ w1 = w))) mc ms A := by
  refine h_start (own := RL) (hh := [(0, 12, 15, 13), (0, 12, 19, 15)]) [.ref (ad 10 0), .int p0, .int p1, .int p2, .ref (ad 2 0)] (cc := cL_setRate) (maxL := 6) (ret := some .int) (lv0 := [(0, .ref (ad 10 0)), (1, .int p0), (2, .int p1), (3, .int p2), (4, .ref (ad 2 0))]) (by decide) rfl rfl (Nat.le_of_ble_eq_true rfl) rfl ?_
  intro p e s m below meth c F hr hlocks htab
  refine g_aload F 4 dL_setRate_0 rfl ?_
  refine g_iconst F dL_setRate_2 (v := 0) (by decide) ?_
  refine g_aload_n F 0 dL_setRate_3 rfl rfl ?_
  refine g_iload_n F 1 dL_setRate_4 rfl rfl ?_
  refine g_iload_n F 2 dL_setRate_5 rfl rfl ?_
  refine g_iload_n F 3 dL_setRate_6 rfl rfl ?_
  refine x_callVc F (C := RX5) (k := 10) (i := 0) (ci := 5) (T := TX5) (N := 4) (rest := [.int 0, .ref (ad 2 0)]) [.int p0, .int p1, .int p2] hM (cwV 3 F.1.2.2.2.2 gL_setRate_X5_setRate rfl rfl rfl (by decide +kernel) ⟨Nat.le_of_ble_eq_true rfl, Nat.le_of_ble_eq_true rfl⟩) rfl h10 he10 rfl rfl rfl (Nat.le_of_ble_eq_true rfl) dL_setRate_7 ⟨Nat.le_of_eq (Nat.zero_add _), Nat.le_of_eq (Nat.zero_add _)⟩ (fun E ce q9 hp hcl hv H1 locs1 ls1 hw1 hS1 hl1 hc1 => ?_) (fun v ad1 dm1 w2 hv => ?_)
  · rcases hpx E hp with rfl | rfl
    · refine c_catch F (hh := [(0, 12, 15, 13), (0, 12, 19, 15)]) htab [] ⟨0, 12, 15, 13⟩ [⟨0, 12, 19, 15⟩] rfl (fun z hz => absurd hz List.not_mem_nil) rfl (by decide) (by decide +kernel) (List.mem_of_getElem? (i := 3) rfl) hcl hv hw1 hS1 hl1 hc1 ?_
      refine g_astore F (lv1 := [(5, .ref q9), (0, .ref (ad 10 0)), (1, .int p0), (2, .int p1), (3, .int p2), (4, .ref (ad 2 0))]) dL_setRate_15 (by decide) rfl ?_
      refine g_iconst F dL_setRate_17 (v := 1) (by decide) ?_
      exact g_qi F hr hlocks (fun _ h => h) (.inr (.inl ⟨hp, rfl, rfl, rfl, rfl⟩)) (Nat.le_of_eq (Nat.zero_add _)) (Nat.le_of_eq (Nat.zero_add _)) dL_setRate_18
    · refine c_catch F (hh := [(0, 12, 15, 13), (0, 12, 19, 15)]) htab [⟨0, 12, 15, 13⟩] ⟨0, 12, 19, 15⟩ [] rfl (by intro z hz; simp only [List.mem_cons, List.not_mem_nil, or_false] at hz; subst hz; exact ⟨by decide, xIO, by decide +kernel, F.2.2.2.2.1.2.2.2.2.2.2.2.1⟩) rfl (by decide) (by decide +kernel) (List.mem_of_getElem? (i := 4) rfl) hcl hv hw1 hS1 hl1 hc1 ?_
      refine g_astore F (lv1 := [(5, .ref q9), (0, .ref (ad 10 0)), (1, .int p0), (2, .int p1), (3, .int p2), (4, .ref (ad 2 0))]) dL_setRate_19 (by decide) rfl ?_
      refine g_iconst F dL_setRate_21 (v := 2) (by decide) ?_
      exact g_qi F hr hlocks (fun _ h => h) (.inr (.inr ⟨hp, rfl, rfl, rfl, rfl⟩)) (Nat.le_of_eq (Nat.zero_add _)) (Nat.le_of_eq (Nat.zero_add _)) dL_setRate_22
  · obtain ⟨⟨x, rfl⟩, h2, ha, he⟩ := hkeep _ _ _ _ hv
    refine g_i2l F dL_setRate_10 ?_
    refine g_st (st1 := [.long x.toInt64, .int 0, .ref (ad1 2 0)]) (by rw [ha]; rfl) ?_
    refine g_last (k := 2) (i := 0) (n := 1) (f := f9) F 2 h2 he rfl (show ¬ ((0 : Int32) < 0 ∨ 1 ≤ (0 : Int32).toNatClampNeg) by decide) dL_setRate_11 ?_
    refine g_goto F (tgt := 23) dL_setRate_12 (by decide) ?_
    refine g_iconst F dL_setRate_23 (v := 0) (by decide) ?_
    exact g_qi F hr hlocks (fun _ h => h) (.inl ⟨x, w2, hv, rfl, rfl⟩) (Nat.le_of_eq (Nat.zero_add _)) (Nat.le_of_eq (Nat.zero_add _)) dL_setRate_24
set_option maxHeartbeats 4000000 in
set_option maxRecDepth 100000 in
theorem lh_submit (l : Launch) (D : va_G) (A : Nat → Prop) (cs : Nat → ClassId) (ad : Nat → Nat → Nat) (dm : Nat → Nat → Prop) (w : CF) (p0 p1 p2 p3 : Int32) {fs : List Value} {f9 : Nat → Int64} {mc ms : Nat} {post : Option Value → (Nat → Nat → Nat) → (Nat → Nat → Prop) → CF → Prop} {px : String → Prop} (hM : vx_Met l yX5_submit wsX5_submit { frames := 9, cells := mc, slots := ms, locals := 285 } (va_Pc [.ref (ad 10 0), .int p0, .int p1, .int p2, .int p3] (PW D A (tysG cs) ad dm w)) (QW D A (tysG cs) post) (XW D A (tysG cs) ad dm w px) mc ms A) (h10 : dm 10 0) (he10 : w 10 0 = .inr (5, fs)) (hkeep : ∀ v ad1 dm1 w1, post v ad1 dm1 w1 → (∃ x : Int32, v = some (.int x)) ∧ dm1 2 0 ∧ ad1 2 0 = ad 2 0 ∧ w1 2 0 = (.inl (cs 2, 1, .inr (.inl f9)))) (hpx : ∀ E, px E → E = xIO ∨ E = xIA ∨ E = xIS) : Met l yL_submit wsL_submit { frames := 10, cells := mc, slots := ms, locals := 313 } (va_Pc [.ref (ad 10 0), .int p0, .int p1, .int p2, .int p3, .ref (ad 2 0)] (PW D A (tysG cs) ad dm w)) (QW D A (tysG cs) (fun rz ad1 dm1 w1 => (∃ v w2, post (some (.int v)) ad1 dm1 w2 ∧ rz = some (.int 0) ∧ w1 = up2 w2 2 0 (.inl (cs 2, 1, .inr (.inl (vp_updL f9 0 v.toInt64))))) ∨ (px xIO ∧ rz = some (.int 1) ∧ ad1 = ad ∧ dm1 = dm ∧ w1 = w) ∨ (px xIA ∧ rz = some (.int 2) ∧ ad1 = ad ∧ dm1 = dm ∧ w1 = w) ∨ (px xIS ∧ rz = some (.int 3) ∧ ad1 = ad ∧ dm1 = dm ∧ w1 = w))) mc ms A := by
  refine h_start (own := RL) (hh := [(0, 14, 17, 13), (0, 14, 21, 15), (0, 14, 25, 29)]) [.ref (ad 10 0), .int p0, .int p1, .int p2, .int p3, .ref (ad 2 0)] (cc := cL_submit) (maxL := 7) (ret := some .int) (lv0 := [(0, .ref (ad 10 0)), (1, .int p0), (2, .int p1), (3, .int p2), (4, .int p3), (5, .ref (ad 2 0))]) (by decide) rfl rfl (Nat.le_of_ble_eq_true rfl) rfl ?_
  intro p e s m below meth c F hr hlocks htab
  refine g_aload F 5 dL_submit_0 rfl ?_
  refine g_iconst F dL_submit_2 (v := 0) (by decide) ?_
  refine g_aload_n F 0 dL_submit_3 rfl rfl ?_
  refine g_iload_n F 1 dL_submit_4 rfl rfl ?_
  refine g_iload_n F 2 dL_submit_5 rfl rfl ?_
  refine g_iload_n F 3 dL_submit_6 rfl rfl ?_
  refine g_iload F 4 dL_submit_7 rfl ?_
  refine x_callVc F (C := RX5) (k := 10) (i := 0) (ci := 5) (T := TX5) (N := 4) (rest := [.int 0, .ref (ad 2 0)]) [.int p0, .int p1, .int p2, .int p3] hM (cwV 4 F.1.2.2.2.2 gL_submit_X5_submit rfl rfl rfl (by decide +kernel) ⟨Nat.le_of_ble_eq_true rfl, Nat.le_of_ble_eq_true rfl⟩) rfl h10 he10 rfl rfl rfl (Nat.le_of_ble_eq_true rfl) dL_submit_9 ⟨Nat.le_of_eq (Nat.zero_add _), Nat.le_of_eq (Nat.zero_add _)⟩ (fun E ce q9 hp hcl hv H1 locs1 ls1 hw1 hS1 hl1 hc1 => ?_) (fun v ad1 dm1 w2 hv => ?_)
  · rcases hpx E hp with rfl | rfl | rfl
    · refine c_catch F (hh := [(0, 14, 17, 13), (0, 14, 21, 15), (0, 14, 25, 29)]) htab [] ⟨0, 14, 17, 13⟩ [⟨0, 14, 21, 15⟩, ⟨0, 14, 25, 29⟩] rfl (fun z hz => absurd hz List.not_mem_nil) rfl (by decide) (by decide +kernel) (List.mem_of_getElem? (i := 3) rfl) hcl hv hw1 hS1 hl1 hc1 ?_
      refine g_astore F (lv1 := [(6, .ref q9), (0, .ref (ad 10 0)), (1, .int p0), (2, .int p1), (3, .int p2), (4, .int p3), (5, .ref (ad 2 0))]) dL_submit_17 (by decide) rfl ?_
      refine g_iconst F dL_submit_19 (v := 1) (by decide) ?_
      exact g_qi F hr hlocks (fun _ h => h) (.inr (.inl ⟨hp, rfl, rfl, rfl, rfl⟩)) (Nat.le_of_eq (Nat.zero_add _)) (Nat.le_of_eq (Nat.zero_add _)) dL_submit_20
    · refine c_catch F (hh := [(0, 14, 17, 13), (0, 14, 21, 15), (0, 14, 25, 29)]) htab [⟨0, 14, 17, 13⟩] ⟨0, 14, 21, 15⟩ [⟨0, 14, 25, 29⟩] rfl (by intro z hz; simp only [List.mem_cons, List.not_mem_nil, or_false] at hz; subst hz; exact ⟨by decide, xIO, by decide +kernel, F.2.2.2.2.1.2.2.2.2.2.2.2.1⟩) rfl (by decide) (by decide +kernel) (List.mem_of_getElem? (i := 4) rfl) hcl hv hw1 hS1 hl1 hc1 ?_
      refine g_astore F (lv1 := [(6, .ref q9), (0, .ref (ad 10 0)), (1, .int p0), (2, .int p1), (3, .int p2), (4, .int p3), (5, .ref (ad 2 0))]) dL_submit_21 (by decide) rfl ?_
      refine g_iconst F dL_submit_23 (v := 2) (by decide) ?_
      exact g_qi F hr hlocks (fun _ h => h) (.inr (.inr (.inl ⟨hp, rfl, rfl, rfl, rfl⟩))) (Nat.le_of_eq (Nat.zero_add _)) (Nat.le_of_eq (Nat.zero_add _)) dL_submit_24
    · refine c_catch F (hh := [(0, 14, 17, 13), (0, 14, 21, 15), (0, 14, 25, 29)]) htab [⟨0, 14, 17, 13⟩, ⟨0, 14, 21, 15⟩] ⟨0, 14, 25, 29⟩ [] rfl (by intro z hz; simp only [List.mem_cons, List.not_mem_nil, or_false] at hz; rcases hz with rfl | rfl; exact ⟨by decide, xIO, by decide +kernel, F.2.2.2.2.1.2.2.2.2.2.2.2.2.1⟩; exact ⟨by decide, xIA, by decide +kernel, F.2.2.2.2.1.2.2.2.2.2.2.2.2.2⟩) rfl (by decide) (by decide +kernel) (List.mem_of_getElem? (i := 5) rfl) hcl hv hw1 hS1 hl1 hc1 ?_
      refine g_astore F (lv1 := [(6, .ref q9), (0, .ref (ad 10 0)), (1, .int p0), (2, .int p1), (3, .int p2), (4, .int p3), (5, .ref (ad 2 0))]) dL_submit_25 (by decide) rfl ?_
      refine g_iconst F dL_submit_27 (v := 3) (by decide) ?_
      exact g_qi F hr hlocks (fun _ h => h) (.inr (.inr (.inr ⟨hp, rfl, rfl, rfl, rfl⟩))) (Nat.le_of_eq (Nat.zero_add _)) (Nat.le_of_eq (Nat.zero_add _)) dL_submit_28
  · obtain ⟨⟨x, rfl⟩, h2, ha, he⟩ := hkeep _ _ _ _ hv
    refine g_i2l F dL_submit_12 ?_
    refine g_st (st1 := [.long x.toInt64, .int 0, .ref (ad1 2 0)]) (by rw [ha]; rfl) ?_
    refine g_last (k := 2) (i := 0) (n := 1) (f := f9) F 2 h2 he rfl (show ¬ ((0 : Int32) < 0 ∨ 1 ≤ (0 : Int32).toNatClampNeg) by decide) dL_submit_13 ?_
    refine g_goto F (tgt := 29) dL_submit_14 (by decide) ?_
    refine g_iconst F dL_submit_29 (v := 0) (by decide) ?_
    exact g_qi F hr hlocks (fun _ h => h) (.inl ⟨x, w2, hv, rfl, rfl⟩) (Nat.le_of_eq (Nat.zero_add _)) (Nat.le_of_eq (Nat.zero_add _)) dL_submit_30
set_option maxHeartbeats 4000000 in
set_option maxRecDepth 100000 in
theorem lh_delete (l : Launch) (D : va_G) (A : Nat → Prop) (cs : Nat → ClassId) (ad : Nat → Nat → Nat) (dm : Nat → Nat → Prop) (w : CF) (p0 : Int32) {fs : List Value} {f9 : Nat → Int64} {mc ms : Nat} {post : Option Value → (Nat → Nat → Nat) → (Nat → Nat → Prop) → CF → Prop} {px : String → Prop} (hM : vx_Met l yX5_delete wsX5_delete { frames := 8, cells := mc, slots := ms, locals := 262 } (va_Pc [.ref (ad 10 0), .int p0] (PW D A (tysG cs) ad dm w)) (QW D A (tysG cs) post) (XW D A (tysG cs) ad dm w px) mc ms A) (h10 : dm 10 0) (he10 : w 10 0 = .inr (5, fs)) (hkeep : ∀ v ad1 dm1 w1, post v ad1 dm1 w1 → (∃ x : Int32, v = some (.int x)) ∧ dm1 2 0 ∧ ad1 2 0 = ad 2 0 ∧ w1 2 0 = (.inl (cs 2, 1, .inr (.inl f9)))) (hpx : ∀ E, px E → E = xIO ∨ E = xIS) : Met l yL_delete wsL_delete { frames := 9, cells := mc, slots := ms, locals := 284 } (va_Pc [.ref (ad 10 0), .int p0, .ref (ad 2 0)] (PW D A (tysG cs) ad dm w)) (QW D A (tysG cs) (fun rz ad1 dm1 w1 => (∃ v w2, post (some (.int v)) ad1 dm1 w2 ∧ rz = some (.int 0) ∧ w1 = up2 w2 2 0 (.inl (cs 2, 1, .inr (.inl (vp_updL f9 0 v.toInt64))))) ∨ (px xIO ∧ rz = some (.int 1) ∧ ad1 = ad ∧ dm1 = dm ∧ w1 = w) ∨ (px xIS ∧ rz = some (.int 2) ∧ ad1 = ad ∧ dm1 = dm ∧ w1 = w))) mc ms A := by
  refine h_start (own := RL) (hh := [(0, 9, 12, 13), (0, 9, 15, 29)]) [.ref (ad 10 0), .int p0, .ref (ad 2 0)] (cc := cL_delete) (maxL := 4) (ret := some .int) (lv0 := [(0, .ref (ad 10 0)), (1, .int p0), (2, .ref (ad 2 0))]) (by decide) rfl rfl (Nat.le_of_ble_eq_true rfl) rfl ?_
  intro p e s m below meth c F hr hlocks htab
  refine g_aload_n F 2 dL_delete_0 rfl rfl ?_
  refine g_iconst F dL_delete_1 (v := 0) (by decide) ?_
  refine g_aload_n F 0 dL_delete_2 rfl rfl ?_
  refine g_iload_n F 1 dL_delete_3 rfl rfl ?_
  refine x_callVc F (C := RX5) (k := 10) (i := 0) (ci := 5) (T := TX5) (N := 4) (rest := [.int 0, .ref (ad 2 0)]) [.int p0] hM (cwV 1 F.1.2.2.2.2 gL_delete_X5_delete rfl rfl rfl (by decide +kernel) ⟨Nat.le_of_ble_eq_true rfl, Nat.le_of_ble_eq_true rfl⟩) rfl h10 he10 rfl rfl rfl (Nat.le_of_ble_eq_true rfl) dL_delete_4 ⟨Nat.le_of_eq (Nat.zero_add _), Nat.le_of_eq (Nat.zero_add _)⟩ (fun E ce q9 hp hcl hv H1 locs1 ls1 hw1 hS1 hl1 hc1 => ?_) (fun v ad1 dm1 w2 hv => ?_)
  · rcases hpx E hp with rfl | rfl
    · refine c_catch F (hh := [(0, 9, 12, 13), (0, 9, 15, 29)]) htab [] ⟨0, 9, 12, 13⟩ [⟨0, 9, 15, 29⟩] rfl (fun z hz => absurd hz List.not_mem_nil) rfl (by decide) (by decide +kernel) (List.mem_of_getElem? (i := 3) rfl) hcl hv hw1 hS1 hl1 hc1 ?_
      refine g_astore_n F (lv1 := [(3, .ref q9), (0, .ref (ad 10 0)), (1, .int p0), (2, .ref (ad 2 0))]) dL_delete_12 rfl (by decide) rfl ?_
      refine g_iconst F dL_delete_13 (v := 1) (by decide) ?_
      exact g_qi F hr hlocks (fun _ h => h) (.inr (.inl ⟨hp, rfl, rfl, rfl, rfl⟩)) (Nat.le_of_eq (Nat.zero_add _)) (Nat.le_of_eq (Nat.zero_add _)) dL_delete_14
    · refine c_catch F (hh := [(0, 9, 12, 13), (0, 9, 15, 29)]) htab [⟨0, 9, 12, 13⟩] ⟨0, 9, 15, 29⟩ [] rfl (by intro z hz; simp only [List.mem_cons, List.not_mem_nil, or_false] at hz; subst hz; exact ⟨by decide, xIO, by decide +kernel, F.2.2.2.2.1.2.2.2.2.2.2.2.2.1⟩) rfl (by decide) (by decide +kernel) (List.mem_of_getElem? (i := 5) rfl) hcl hv hw1 hS1 hl1 hc1 ?_
      refine g_astore_n F (lv1 := [(3, .ref q9), (0, .ref (ad 10 0)), (1, .int p0), (2, .ref (ad 2 0))]) dL_delete_15 rfl (by decide) rfl ?_
      refine g_iconst F dL_delete_16 (v := 2) (by decide) ?_
      exact g_qi F hr hlocks (fun _ h => h) (.inr (.inr ⟨hp, rfl, rfl, rfl, rfl⟩)) (Nat.le_of_eq (Nat.zero_add _)) (Nat.le_of_eq (Nat.zero_add _)) dL_delete_17
  · obtain ⟨⟨x, rfl⟩, h2, ha, he⟩ := hkeep _ _ _ _ hv
    refine g_i2l F dL_delete_7 ?_
    refine g_st (st1 := [.long x.toInt64, .int 0, .ref (ad1 2 0)]) (by rw [ha]; rfl) ?_
    refine g_last (k := 2) (i := 0) (n := 1) (f := f9) F 2 h2 he rfl (show ¬ ((0 : Int32) < 0 ∨ 1 ≤ (0 : Int32).toNatClampNeg) by decide) dL_delete_8 ?_
    refine g_goto F (tgt := 18) dL_delete_9 (by decide) ?_
    refine g_iconst F dL_delete_18 (v := 0) (by decide) ?_
    exact g_qi F hr hlocks (fun _ h => h) (.inl ⟨x, w2, hv, rfl, rfl⟩) (Nat.le_of_eq (Nat.zero_add _)) (Nat.le_of_eq (Nat.zero_add _)) dL_delete_19
set_option maxHeartbeats 4000000 in
set_option maxRecDepth 100000 in
theorem lh_state (l : Launch) (D : va_G) (A : Nat → Prop) (cs : Nat → ClassId) (ad : Nat → Nat → Nat) (dm : Nat → Nat → Prop) (w : CF) (p0 : Int32) {fs : List Value} {f9 : Nat → Int64} {mc ms : Nat} {post : Option Value → (Nat → Nat → Nat) → (Nat → Nat → Prop) → CF → Prop} {px : String → Prop} (hM : vx_Met l yX5_state wsX5_state { frames := 7, cells := mc, slots := ms, locals := 111 } (va_Pc [.ref (ad 10 0), .int p0] (PW D A (tysG cs) ad dm w)) (QW D A (tysG cs) post) (XW D A (tysG cs) ad dm w px) mc ms A) (h10 : dm 10 0) (he10 : w 10 0 = .inr (5, fs)) (hkeep : ∀ v ad1 dm1 w1, post v ad1 dm1 w1 → (∃ x : Int32, v = some (.int x)) ∧ dm1 2 0 ∧ ad1 2 0 = ad 2 0 ∧ w1 2 0 = (.inl (cs 2, 1, .inr (.inl f9)))) (hpx : ∀ E, px E → E = xIO) : Met l yL_state wsL_state { frames := 8, cells := mc, slots := ms, locals := 132 } (va_Pc [.ref (ad 10 0), .int p0, .ref (ad 2 0)] (PW D A (tysG cs) ad dm w)) (QW D A (tysG cs) (fun rz ad1 dm1 w1 => (∃ v w2, post (some (.int v)) ad1 dm1 w2 ∧ rz = some (.int 0) ∧ w1 = up2 w2 2 0 (.inl (cs 2, 1, .inr (.inl (vp_updL f9 0 v.toInt64))))) ∨ (px xIO ∧ rz = some (.int 1) ∧ ad1 = ad ∧ dm1 = dm ∧ w1 = w))) mc ms A := by
  refine h_start (own := RL) (hh := [(0, 9, 12, 13)]) [.ref (ad 10 0), .int p0, .ref (ad 2 0)] (cc := cL_state) (maxL := 4) (ret := some .int) (lv0 := [(0, .ref (ad 10 0)), (1, .int p0), (2, .ref (ad 2 0))]) (by decide) rfl rfl (Nat.le_of_ble_eq_true rfl) rfl ?_
  intro p e s m below meth c F hr hlocks htab
  refine g_aload_n F 2 dL_state_0 rfl rfl ?_
  refine g_iconst F dL_state_1 (v := 0) (by decide) ?_
  refine g_aload_n F 0 dL_state_2 rfl rfl ?_
  refine g_iload_n F 1 dL_state_3 rfl rfl ?_
  refine x_callVc F (C := RX5) (k := 10) (i := 0) (ci := 5) (T := TX5) (N := 4) (rest := [.int 0, .ref (ad 2 0)]) [.int p0] hM (cwV 1 F.1.2.2.2.2 gL_state_X5_state rfl rfl rfl (by decide +kernel) ⟨Nat.le_of_ble_eq_true rfl, Nat.le_of_ble_eq_true rfl⟩) rfl h10 he10 rfl rfl rfl (Nat.le_of_ble_eq_true rfl) dL_state_4 ⟨Nat.le_of_eq (Nat.zero_add _), Nat.le_of_eq (Nat.zero_add _)⟩ (fun E ce q9 hp hcl hv H1 locs1 ls1 hw1 hS1 hl1 hc1 => ?_) (fun v ad1 dm1 w2 hv => ?_)
  · rcases hpx E hp with rfl
    · refine c_catch F (hh := [(0, 9, 12, 13)]) htab [] ⟨0, 9, 12, 13⟩ [] rfl (fun z hz => absurd hz List.not_mem_nil) rfl (by decide) (by decide +kernel) (List.mem_of_getElem? (i := 3) rfl) hcl hv hw1 hS1 hl1 hc1 ?_
      refine g_astore_n F (lv1 := [(3, .ref q9), (0, .ref (ad 10 0)), (1, .int p0), (2, .ref (ad 2 0))]) dL_state_12 rfl (by decide) rfl ?_
      refine g_iconst F dL_state_13 (v := 1) (by decide) ?_
      exact g_qi F hr hlocks (fun _ h => h) (.inr ⟨hp, rfl, rfl, rfl, rfl⟩) (Nat.le_of_eq (Nat.zero_add _)) (Nat.le_of_eq (Nat.zero_add _)) dL_state_14
  · obtain ⟨⟨x, rfl⟩, h2, ha, he⟩ := hkeep _ _ _ _ hv
    refine g_i2l F dL_state_7 ?_
    refine g_st (st1 := [.long x.toInt64, .int 0, .ref (ad1 2 0)]) (by rw [ha]; rfl) ?_
    refine g_last (k := 2) (i := 0) (n := 1) (f := f9) F 2 h2 he rfl (show ¬ ((0 : Int32) < 0 ∨ 1 ≤ (0 : Int32).toNatClampNeg) by decide) dL_state_8 ?_
    refine g_goto F (tgt := 15) dL_state_9 (by decide) ?_
    refine g_iconst F dL_state_15 (v := 0) (by decide) ?_
    exact g_qi F hr hlocks (fun _ h => h) (.inl ⟨x, w2, hv, rfl, rfl⟩) (Nat.le_of_eq (Nat.zero_add _)) (Nat.le_of_eq (Nat.zero_add _)) dL_state_16
set_option maxHeartbeats 4000000 in
set_option maxRecDepth 100000 in
theorem lh_stateByLog (l : Launch) (D : va_G) (A : Nat → Prop) (cs : Nat → ClassId) (ad : Nat → Nat → Nat) (dm : Nat → Nat → Prop) (w : CF) (p0 : Int32) {fs : List Value} {f9 : Nat → Int64} {mc ms : Nat} {post : Option Value → (Nat → Nat → Nat) → (Nat → Nat → Prop) → CF → Prop} {px : String → Prop} (hM : vx_Met l yX5_stateByLog wsX5_stateByLog { frames := 7, cells := mc, slots := ms, locals := 111 } (va_Pc [.ref (ad 10 0), .int p0] (PW D A (tysG cs) ad dm w)) (QW D A (tysG cs) post) (XW D A (tysG cs) ad dm w px) mc ms A) (h10 : dm 10 0) (he10 : w 10 0 = .inr (5, fs)) (hkeep : ∀ v ad1 dm1 w1, post v ad1 dm1 w1 → (∃ x : Int32, v = some (.int x)) ∧ dm1 2 0 ∧ ad1 2 0 = ad 2 0 ∧ w1 2 0 = (.inl (cs 2, 1, .inr (.inl f9)))) (hpx : ∀ E, px E → E = xIO) : Met l yL_stateByLog wsL_stateByLog { frames := 8, cells := mc, slots := ms, locals := 133 } (va_Pc [.ref (ad 10 0), .int p0, .ref (ad 2 0)] (PW D A (tysG cs) ad dm w)) (QW D A (tysG cs) (fun rz ad1 dm1 w1 => (∃ v w2, post (some (.int v)) ad1 dm1 w2 ∧ rz = some (.int 0) ∧ w1 = up2 w2 2 0 (.inl (cs 2, 1, .inr (.inl (vp_updL f9 0 v.toInt64))))) ∨ (px xIO ∧ rz = some (.int 1) ∧ ad1 = ad ∧ dm1 = dm ∧ w1 = w))) mc ms A := by
  refine h_start (own := RL) (hh := [(0, 9, 12, 13)]) [.ref (ad 10 0), .int p0, .ref (ad 2 0)] (cc := cL_stateByLog) (maxL := 4) (ret := some .int) (lv0 := [(0, .ref (ad 10 0)), (1, .int p0), (2, .ref (ad 2 0))]) (by decide) rfl rfl (Nat.le_of_ble_eq_true rfl) rfl ?_
  intro p e s m below meth c F hr hlocks htab
  refine g_aload_n F 2 dL_stateByLog_0 rfl rfl ?_
  refine g_iconst F dL_stateByLog_1 (v := 0) (by decide) ?_
  refine g_aload_n F 0 dL_stateByLog_2 rfl rfl ?_
  refine g_iload_n F 1 dL_stateByLog_3 rfl rfl ?_
  refine x_callVc F (C := RX5) (k := 10) (i := 0) (ci := 5) (T := TX5) (N := 4) (rest := [.int 0, .ref (ad 2 0)]) [.int p0] hM (cwV 1 F.1.2.2.2.2 gL_stateByLog_X5_stateByLog rfl rfl rfl (by decide +kernel) ⟨Nat.le_of_ble_eq_true rfl, Nat.le_of_ble_eq_true rfl⟩) rfl h10 he10 rfl rfl rfl (Nat.le_of_ble_eq_true rfl) dL_stateByLog_4 ⟨Nat.le_of_eq (Nat.zero_add _), Nat.le_of_eq (Nat.zero_add _)⟩ (fun E ce q9 hp hcl hv H1 locs1 ls1 hw1 hS1 hl1 hc1 => ?_) (fun v ad1 dm1 w2 hv => ?_)
  · rcases hpx E hp with rfl
    · refine c_catch F (hh := [(0, 9, 12, 13)]) htab [] ⟨0, 9, 12, 13⟩ [] rfl (fun z hz => absurd hz List.not_mem_nil) rfl (by decide) (by decide +kernel) (List.mem_of_getElem? (i := 3) rfl) hcl hv hw1 hS1 hl1 hc1 ?_
      refine g_astore_n F (lv1 := [(3, .ref q9), (0, .ref (ad 10 0)), (1, .int p0), (2, .ref (ad 2 0))]) dL_stateByLog_12 rfl (by decide) rfl ?_
      refine g_iconst F dL_stateByLog_13 (v := 1) (by decide) ?_
      exact g_qi F hr hlocks (fun _ h => h) (.inr ⟨hp, rfl, rfl, rfl, rfl⟩) (Nat.le_of_eq (Nat.zero_add _)) (Nat.le_of_eq (Nat.zero_add _)) dL_stateByLog_14
  · obtain ⟨⟨x, rfl⟩, h2, ha, he⟩ := hkeep _ _ _ _ hv
    refine g_i2l F dL_stateByLog_7 ?_
    refine g_st (st1 := [.long x.toInt64, .int 0, .ref (ad1 2 0)]) (by rw [ha]; rfl) ?_
    refine g_last (k := 2) (i := 0) (n := 1) (f := f9) F 2 h2 he rfl (show ¬ ((0 : Int32) < 0 ∨ 1 ≤ (0 : Int32).toNatClampNeg) by decide) dL_stateByLog_8 ?_
    refine g_goto F (tgt := 15) dL_stateByLog_9 (by decide) ?_
    refine g_iconst F dL_stateByLog_15 (v := 0) (by decide) ?_
    exact g_qi F hr hlocks (fun _ h => h) (.inl ⟨x, w2, hv, rfl, rfl⟩) (Nat.le_of_eq (Nat.zero_add _)) (Nat.le_of_eq (Nat.zero_add _)) dL_stateByLog_16
set_option maxHeartbeats 4000000 in
set_option maxRecDepth 100000 in
theorem lh_parts (l : Launch) (D : va_G) (A : Nat → Prop) (cs : Nat → ClassId) (ad : Nat → Nat → Nat) (dm : Nat → Nat → Prop) (w : CF) (p0 : Int32) {fs : List Value} {f9 : Nat → Int64} {mc ms : Nat} {post : Option Value → (Nat → Nat → Nat) → (Nat → Nat → Prop) → CF → Prop} {px : String → Prop} (hM : vx_Met l yX5_parts wsX5_parts { frames := 7, cells := mc, slots := ms, locals := 111 } (va_Pc [.ref (ad 10 0), .int p0] (PW D A (tysG cs) ad dm w)) (QW D A (tysG cs) post) (XW D A (tysG cs) ad dm w px) mc ms A) (h10 : dm 10 0) (he10 : w 10 0 = .inr (5, fs)) (hkeep : ∀ v ad1 dm1 w1, post v ad1 dm1 w1 → (∃ x : Int32, v = some (.int x)) ∧ dm1 2 0 ∧ ad1 2 0 = ad 2 0 ∧ w1 2 0 = (.inl (cs 2, 1, .inr (.inl f9)))) (hpx : ∀ E, px E → E = xIO) : Met l yL_parts wsL_parts { frames := 8, cells := mc, slots := ms, locals := 132 } (va_Pc [.ref (ad 10 0), .int p0, .ref (ad 2 0)] (PW D A (tysG cs) ad dm w)) (QW D A (tysG cs) (fun rz ad1 dm1 w1 => (∃ v w2, post (some (.int v)) ad1 dm1 w2 ∧ rz = some (.int 0) ∧ w1 = up2 w2 2 0 (.inl (cs 2, 1, .inr (.inl (vp_updL f9 0 v.toInt64))))) ∨ (px xIO ∧ rz = some (.int 1) ∧ ad1 = ad ∧ dm1 = dm ∧ w1 = w))) mc ms A := by
  refine h_start (own := RL) (hh := [(0, 9, 12, 13)]) [.ref (ad 10 0), .int p0, .ref (ad 2 0)] (cc := cL_parts) (maxL := 4) (ret := some .int) (lv0 := [(0, .ref (ad 10 0)), (1, .int p0), (2, .ref (ad 2 0))]) (by decide) rfl rfl (Nat.le_of_ble_eq_true rfl) rfl ?_
  intro p e s m below meth c F hr hlocks htab
  refine g_aload_n F 2 dL_parts_0 rfl rfl ?_
  refine g_iconst F dL_parts_1 (v := 0) (by decide) ?_
  refine g_aload_n F 0 dL_parts_2 rfl rfl ?_
  refine g_iload_n F 1 dL_parts_3 rfl rfl ?_
  refine x_callVc F (C := RX5) (k := 10) (i := 0) (ci := 5) (T := TX5) (N := 4) (rest := [.int 0, .ref (ad 2 0)]) [.int p0] hM (cwV 1 F.1.2.2.2.2 gL_parts_X5_parts rfl rfl rfl (by decide +kernel) ⟨Nat.le_of_ble_eq_true rfl, Nat.le_of_ble_eq_true rfl⟩) rfl h10 he10 rfl rfl rfl (Nat.le_of_ble_eq_true rfl) dL_parts_4 ⟨Nat.le_of_eq (Nat.zero_add _), Nat.le_of_eq (Nat.zero_add _)⟩ (fun E ce q9 hp hcl hv H1 locs1 ls1 hw1 hS1 hl1 hc1 => ?_) (fun v ad1 dm1 w2 hv => ?_)
  · rcases hpx E hp with rfl
    · refine c_catch F (hh := [(0, 9, 12, 13)]) htab [] ⟨0, 9, 12, 13⟩ [] rfl (fun z hz => absurd hz List.not_mem_nil) rfl (by decide) (by decide +kernel) (List.mem_of_getElem? (i := 3) rfl) hcl hv hw1 hS1 hl1 hc1 ?_
      refine g_astore_n F (lv1 := [(3, .ref q9), (0, .ref (ad 10 0)), (1, .int p0), (2, .ref (ad 2 0))]) dL_parts_12 rfl (by decide) rfl ?_
      refine g_iconst F dL_parts_13 (v := 1) (by decide) ?_
      exact g_qi F hr hlocks (fun _ h => h) (.inr ⟨hp, rfl, rfl, rfl, rfl⟩) (Nat.le_of_eq (Nat.zero_add _)) (Nat.le_of_eq (Nat.zero_add _)) dL_parts_14
  · obtain ⟨⟨x, rfl⟩, h2, ha, he⟩ := hkeep _ _ _ _ hv
    refine g_i2l F dL_parts_7 ?_
    refine g_st (st1 := [.long x.toInt64, .int 0, .ref (ad1 2 0)]) (by rw [ha]; rfl) ?_
    refine g_last (k := 2) (i := 0) (n := 1) (f := f9) F 2 h2 he rfl (show ¬ ((0 : Int32) < 0 ∨ 1 ≤ (0 : Int32).toNatClampNeg) by decide) dL_parts_8 ?_
    refine g_goto F (tgt := 15) dL_parts_9 (by decide) ?_
    refine g_iconst F dL_parts_15 (v := 0) (by decide) ?_
    exact g_qi F hr hlocks (fun _ h => h) (.inl ⟨x, w2, hv, rfl, rfl⟩) (Nat.le_of_eq (Nat.zero_add _)) (Nat.le_of_eq (Nat.zero_add _)) dL_parts_16
set_option maxHeartbeats 4000000 in
set_option maxRecDepth 100000 in
theorem lh_lettersIn (l : Launch) (D : va_G) (A : Nat → Prop) (cs : Nat → ClassId) (ad : Nat → Nat → Nat) (dm : Nat → Nat → Prop) (w : CF) (p0 p1 : Int32) {fs : List Value} {f9 : Nat → Int64} {mc ms : Nat} {post : Option Value → (Nat → Nat → Nat) → (Nat → Nat → Prop) → CF → Prop} {px : String → Prop} (hM : vx_Met l yX5_lettersIn wsX5_lettersIn { frames := 7, cells := mc, slots := ms, locals := 111 } (va_Pc [.ref (ad 10 0), .int p0, .int p1] (PW D A (tysG cs) ad dm w)) (QW D A (tysG cs) post) (XW D A (tysG cs) ad dm w px) mc ms A) (h10 : dm 10 0) (he10 : w 10 0 = .inr (5, fs)) (hkeep : ∀ v ad1 dm1 w1, post v ad1 dm1 w1 → (∃ x : Int32, v = some (.int x)) ∧ dm1 2 0 ∧ ad1 2 0 = ad 2 0 ∧ w1 2 0 = (.inl (cs 2, 1, .inr (.inl f9)))) (hpx : ∀ E, px E → E = xIO) : Met l yL_lettersIn wsL_lettersIn { frames := 8, cells := mc, slots := ms, locals := 134 } (va_Pc [.ref (ad 10 0), .int p0, .int p1, .ref (ad 2 0)] (PW D A (tysG cs) ad dm w)) (QW D A (tysG cs) (fun rz ad1 dm1 w1 => (∃ v w2, post (some (.int v)) ad1 dm1 w2 ∧ rz = some (.int 0) ∧ w1 = up2 w2 2 0 (.inl (cs 2, 1, .inr (.inl (vp_updL f9 0 v.toInt64))))) ∨ (px xIO ∧ rz = some (.int 1) ∧ ad1 = ad ∧ dm1 = dm ∧ w1 = w))) mc ms A := by
  refine h_start (own := RL) (hh := [(0, 10, 13, 13)]) [.ref (ad 10 0), .int p0, .int p1, .ref (ad 2 0)] (cc := cL_lettersIn) (maxL := 5) (ret := some .int) (lv0 := [(0, .ref (ad 10 0)), (1, .int p0), (2, .int p1), (3, .ref (ad 2 0))]) (by decide) rfl rfl (Nat.le_of_ble_eq_true rfl) rfl ?_
  intro p e s m below meth c F hr hlocks htab
  refine g_aload_n F 3 dL_lettersIn_0 rfl rfl ?_
  refine g_iconst F dL_lettersIn_1 (v := 0) (by decide) ?_
  refine g_aload_n F 0 dL_lettersIn_2 rfl rfl ?_
  refine g_iload_n F 1 dL_lettersIn_3 rfl rfl ?_
  refine g_iload_n F 2 dL_lettersIn_4 rfl rfl ?_
  refine x_callVc F (C := RX5) (k := 10) (i := 0) (ci := 5) (T := TX5) (N := 4) (rest := [.int 0, .ref (ad 2 0)]) [.int p0, .int p1] hM (cwV 2 F.1.2.2.2.2 gL_lettersIn_X5_lettersIn rfl rfl rfl (by decide +kernel) ⟨Nat.le_of_ble_eq_true rfl, Nat.le_of_ble_eq_true rfl⟩) rfl h10 he10 rfl rfl rfl (Nat.le_of_ble_eq_true rfl) dL_lettersIn_5 ⟨Nat.le_of_eq (Nat.zero_add _), Nat.le_of_eq (Nat.zero_add _)⟩ (fun E ce q9 hp hcl hv H1 locs1 ls1 hw1 hS1 hl1 hc1 => ?_) (fun v ad1 dm1 w2 hv => ?_)
  · rcases hpx E hp with rfl
    · refine c_catch F (hh := [(0, 10, 13, 13)]) htab [] ⟨0, 10, 13, 13⟩ [] rfl (fun z hz => absurd hz List.not_mem_nil) rfl (by decide) (by decide +kernel) (List.mem_of_getElem? (i := 3) rfl) hcl hv hw1 hS1 hl1 hc1 ?_
      refine g_astore F (lv1 := [(4, .ref q9), (0, .ref (ad 10 0)), (1, .int p0), (2, .int p1), (3, .ref (ad 2 0))]) dL_lettersIn_13 (by decide) rfl ?_
      refine g_iconst F dL_lettersIn_15 (v := 1) (by decide) ?_
      exact g_qi F hr hlocks (fun _ h => h) (.inr ⟨hp, rfl, rfl, rfl, rfl⟩) (Nat.le_of_eq (Nat.zero_add _)) (Nat.le_of_eq (Nat.zero_add _)) dL_lettersIn_16
  · obtain ⟨⟨x, rfl⟩, h2, ha, he⟩ := hkeep _ _ _ _ hv
    refine g_i2l F dL_lettersIn_8 ?_
    refine g_st (st1 := [.long x.toInt64, .int 0, .ref (ad1 2 0)]) (by rw [ha]; rfl) ?_
    refine g_last (k := 2) (i := 0) (n := 1) (f := f9) F 2 h2 he rfl (show ¬ ((0 : Int32) < 0 ∨ 1 ≤ (0 : Int32).toNatClampNeg) by decide) dL_lettersIn_9 ?_
    refine g_goto F (tgt := 17) dL_lettersIn_10 (by decide) ?_
    refine g_iconst F dL_lettersIn_17 (v := 0) (by decide) ?_
    exact g_qi F hr hlocks (fun _ h => h) (.inl ⟨x, w2, hv, rfl, rfl⟩) (Nat.le_of_eq (Nat.zero_add _)) (Nat.le_of_eq (Nat.zero_add _)) dL_lettersIn_18
set_option maxHeartbeats 4000000 in
set_option maxRecDepth 100000 in
theorem lh_delivered (l : Launch) (D : va_G) (A : Nat → Prop) (cs : Nat → ClassId) (ad : Nat → Nat → Nat) (dm : Nat → Nat → Prop) (w : CF) (p0 : Int32) {fs : List Value} {f9 : Nat → Int64} {mc ms : Nat} {post : Option Value → (Nat → Nat → Nat) → (Nat → Nat → Prop) → CF → Prop} {px : String → Prop} (hM : vx_Met l yX5_delivered wsX5_delivered { frames := 7, cells := mc, slots := ms, locals := 111 } (va_Pc [.ref (ad 10 0), .int p0] (PW D A (tysG cs) ad dm w)) (QW D A (tysG cs) post) (XW D A (tysG cs) ad dm w px) mc ms A) (h10 : dm 10 0) (he10 : w 10 0 = .inr (5, fs)) (hkeep : ∀ v ad1 dm1 w1, post v ad1 dm1 w1 → (∃ x : Int32, v = some (.int x)) ∧ dm1 2 0 ∧ ad1 2 0 = ad 2 0 ∧ w1 2 0 = (.inl (cs 2, 1, .inr (.inl f9)))) (hpx : ∀ E, px E → E = xIO) : Met l yL_delivered wsL_delivered { frames := 8, cells := mc, slots := ms, locals := 132 } (va_Pc [.ref (ad 10 0), .int p0, .ref (ad 2 0)] (PW D A (tysG cs) ad dm w)) (QW D A (tysG cs) (fun rz ad1 dm1 w1 => (∃ v w2, post (some (.int v)) ad1 dm1 w2 ∧ rz = some (.int 0) ∧ w1 = up2 w2 2 0 (.inl (cs 2, 1, .inr (.inl (vp_updL f9 0 v.toInt64))))) ∨ (px xIO ∧ rz = some (.int 1) ∧ ad1 = ad ∧ dm1 = dm ∧ w1 = w))) mc ms A := by
  refine h_start (own := RL) (hh := [(0, 9, 12, 13)]) [.ref (ad 10 0), .int p0, .ref (ad 2 0)] (cc := cL_delivered) (maxL := 4) (ret := some .int) (lv0 := [(0, .ref (ad 10 0)), (1, .int p0), (2, .ref (ad 2 0))]) (by decide) rfl rfl (Nat.le_of_ble_eq_true rfl) rfl ?_
  intro p e s m below meth c F hr hlocks htab
  refine g_aload_n F 2 dL_delivered_0 rfl rfl ?_
  refine g_iconst F dL_delivered_1 (v := 0) (by decide) ?_
  refine g_aload_n F 0 dL_delivered_2 rfl rfl ?_
  refine g_iload_n F 1 dL_delivered_3 rfl rfl ?_
  refine x_callVc F (C := RX5) (k := 10) (i := 0) (ci := 5) (T := TX5) (N := 4) (rest := [.int 0, .ref (ad 2 0)]) [.int p0] hM (cwV 1 F.1.2.2.2.2 gL_delivered_X5_delivered rfl rfl rfl (by decide +kernel) ⟨Nat.le_of_ble_eq_true rfl, Nat.le_of_ble_eq_true rfl⟩) rfl h10 he10 rfl rfl rfl (Nat.le_of_ble_eq_true rfl) dL_delivered_4 ⟨Nat.le_of_eq (Nat.zero_add _), Nat.le_of_eq (Nat.zero_add _)⟩ (fun E ce q9 hp hcl hv H1 locs1 ls1 hw1 hS1 hl1 hc1 => ?_) (fun v ad1 dm1 w2 hv => ?_)
  · rcases hpx E hp with rfl
    · refine c_catch F (hh := [(0, 9, 12, 13)]) htab [] ⟨0, 9, 12, 13⟩ [] rfl (fun z hz => absurd hz List.not_mem_nil) rfl (by decide) (by decide +kernel) (List.mem_of_getElem? (i := 3) rfl) hcl hv hw1 hS1 hl1 hc1 ?_
      refine g_astore_n F (lv1 := [(3, .ref q9), (0, .ref (ad 10 0)), (1, .int p0), (2, .ref (ad 2 0))]) dL_delivered_12 rfl (by decide) rfl ?_
      refine g_iconst F dL_delivered_13 (v := 1) (by decide) ?_
      exact g_qi F hr hlocks (fun _ h => h) (.inr ⟨hp, rfl, rfl, rfl, rfl⟩) (Nat.le_of_eq (Nat.zero_add _)) (Nat.le_of_eq (Nat.zero_add _)) dL_delivered_14
  · obtain ⟨⟨x, rfl⟩, h2, ha, he⟩ := hkeep _ _ _ _ hv
    refine g_i2l F dL_delivered_7 ?_
    refine g_st (st1 := [.long x.toInt64, .int 0, .ref (ad1 2 0)]) (by rw [ha]; rfl) ?_
    refine g_last (k := 2) (i := 0) (n := 1) (f := f9) F 2 h2 he rfl (show ¬ ((0 : Int32) < 0 ∨ 1 ≤ (0 : Int32).toNatClampNeg) by decide) dL_delivered_8 ?_
    refine g_goto F (tgt := 15) dL_delivered_9 (by decide) ?_
    refine g_iconst F dL_delivered_15 (v := 0) (by decide) ?_
    exact g_qi F hr hlocks (fun _ h => h) (.inl ⟨x, w2, hv, rfl, rfl⟩) (Nat.le_of_eq (Nat.zero_add _)) (Nat.le_of_eq (Nat.zero_add _)) dL_delivered_16
set_option maxHeartbeats 4000000 in
set_option maxRecDepth 100000 in
theorem lh_attempts (l : Launch) (D : va_G) (A : Nat → Prop) (cs : Nat → ClassId) (ad : Nat → Nat → Nat) (dm : Nat → Nat → Prop) (w : CF) (p0 : Int32) {fs : List Value} {f9 : Nat → Int64} {mc ms : Nat} {post : Option Value → (Nat → Nat → Nat) → (Nat → Nat → Prop) → CF → Prop} {px : String → Prop} (hM : vx_Met l yX5_attempts wsX5_attempts { frames := 7, cells := mc, slots := ms, locals := 111 } (va_Pc [.ref (ad 10 0), .int p0] (PW D A (tysG cs) ad dm w)) (QW D A (tysG cs) post) (XW D A (tysG cs) ad dm w px) mc ms A) (h10 : dm 10 0) (he10 : w 10 0 = .inr (5, fs)) (hkeep : ∀ v ad1 dm1 w1, post v ad1 dm1 w1 → (∃ x : Int32, v = some (.int x)) ∧ dm1 2 0 ∧ ad1 2 0 = ad 2 0 ∧ w1 2 0 = (.inl (cs 2, 1, .inr (.inl f9)))) (hpx : ∀ E, px E → E = xIO) : Met l yL_attempts wsL_attempts { frames := 8, cells := mc, slots := ms, locals := 132 } (va_Pc [.ref (ad 10 0), .int p0, .ref (ad 2 0)] (PW D A (tysG cs) ad dm w)) (QW D A (tysG cs) (fun rz ad1 dm1 w1 => (∃ v w2, post (some (.int v)) ad1 dm1 w2 ∧ rz = some (.int 0) ∧ w1 = up2 w2 2 0 (.inl (cs 2, 1, .inr (.inl (vp_updL f9 0 v.toInt64))))) ∨ (px xIO ∧ rz = some (.int 1) ∧ ad1 = ad ∧ dm1 = dm ∧ w1 = w))) mc ms A := by
  refine h_start (own := RL) (hh := [(0, 9, 12, 13)]) [.ref (ad 10 0), .int p0, .ref (ad 2 0)] (cc := cL_attempts) (maxL := 4) (ret := some .int) (lv0 := [(0, .ref (ad 10 0)), (1, .int p0), (2, .ref (ad 2 0))]) (by decide) rfl rfl (Nat.le_of_ble_eq_true rfl) rfl ?_
  intro p e s m below meth c F hr hlocks htab
  refine g_aload_n F 2 dL_attempts_0 rfl rfl ?_
  refine g_iconst F dL_attempts_1 (v := 0) (by decide) ?_
  refine g_aload_n F 0 dL_attempts_2 rfl rfl ?_
  refine g_iload_n F 1 dL_attempts_3 rfl rfl ?_
  refine x_callVc F (C := RX5) (k := 10) (i := 0) (ci := 5) (T := TX5) (N := 4) (rest := [.int 0, .ref (ad 2 0)]) [.int p0] hM (cwV 1 F.1.2.2.2.2 gL_attempts_X5_attempts rfl rfl rfl (by decide +kernel) ⟨Nat.le_of_ble_eq_true rfl, Nat.le_of_ble_eq_true rfl⟩) rfl h10 he10 rfl rfl rfl (Nat.le_of_ble_eq_true rfl) dL_attempts_4 ⟨Nat.le_of_eq (Nat.zero_add _), Nat.le_of_eq (Nat.zero_add _)⟩ (fun E ce q9 hp hcl hv H1 locs1 ls1 hw1 hS1 hl1 hc1 => ?_) (fun v ad1 dm1 w2 hv => ?_)
  · rcases hpx E hp with rfl
    · refine c_catch F (hh := [(0, 9, 12, 13)]) htab [] ⟨0, 9, 12, 13⟩ [] rfl (fun z hz => absurd hz List.not_mem_nil) rfl (by decide) (by decide +kernel) (List.mem_of_getElem? (i := 3) rfl) hcl hv hw1 hS1 hl1 hc1 ?_
      refine g_astore_n F (lv1 := [(3, .ref q9), (0, .ref (ad 10 0)), (1, .int p0), (2, .ref (ad 2 0))]) dL_attempts_12 rfl (by decide) rfl ?_
      refine g_iconst F dL_attempts_13 (v := 1) (by decide) ?_
      exact g_qi F hr hlocks (fun _ h => h) (.inr ⟨hp, rfl, rfl, rfl, rfl⟩) (Nat.le_of_eq (Nat.zero_add _)) (Nat.le_of_eq (Nat.zero_add _)) dL_attempts_14
  · obtain ⟨⟨x, rfl⟩, h2, ha, he⟩ := hkeep _ _ _ _ hv
    refine g_i2l F dL_attempts_7 ?_
    refine g_st (st1 := [.long x.toInt64, .int 0, .ref (ad1 2 0)]) (by rw [ha]; rfl) ?_
    refine g_last (k := 2) (i := 0) (n := 1) (f := f9) F 2 h2 he rfl (show ¬ ((0 : Int32) < 0 ∨ 1 ≤ (0 : Int32).toNatClampNeg) by decide) dL_attempts_8 ?_
    refine g_goto F (tgt := 15) dL_attempts_9 (by decide) ?_
    refine g_iconst F dL_attempts_15 (v := 0) (by decide) ?_
    exact g_qi F hr hlocks (fun _ h => h) (.inl ⟨x, w2, hv, rfl, rfl⟩) (Nat.le_of_eq (Nat.zero_add _)) (Nat.le_of_eq (Nat.zero_add _)) dL_attempts_16
set_option maxHeartbeats 4000000 in
set_option maxRecDepth 100000 in
theorem lh_due (l : Launch) (D : va_G) (A : Nat → Prop) (cs : Nat → ClassId) (ad : Nat → Nat → Nat) (dm : Nat → Nat → Prop) (w : CF) (p0 : Int32) {fs : List Value} {f9 : Nat → Int64} {mc ms : Nat} {post : Option Value → (Nat → Nat → Nat) → (Nat → Nat → Prop) → CF → Prop} {px : String → Prop} (hM : vx_Met l yX5_due wsX5_due { frames := 8, cells := mc, slots := ms, locals := 133 } (va_Pc [.ref (ad 10 0), .int p0] (PW D A (tysG cs) ad dm w)) (QW D A (tysG cs) post) (XW D A (tysG cs) ad dm w px) mc ms A) (h10 : dm 10 0) (he10 : w 10 0 = .inr (5, fs)) (hkeep : ∀ v ad1 dm1 w1, post v ad1 dm1 w1 → (∃ x : Int32, v = some (.int x)) ∧ dm1 2 0 ∧ ad1 2 0 = ad 2 0 ∧ w1 2 0 = (.inl (cs 2, 1, .inr (.inl f9)))) (hpx : ∀ E, px E → E = xIO ∨ E = xIS) : Met l yL_due wsL_due { frames := 9, cells := mc, slots := ms, locals := 154 } (va_Pc [.ref (ad 10 0), .int p0, .ref (ad 2 0)] (PW D A (tysG cs) ad dm w)) (QW D A (tysG cs) (fun rz ad1 dm1 w1 => (∃ v w2, post (some (.int v)) ad1 dm1 w2 ∧ rz = some (.int 0) ∧ w1 = up2 w2 2 0 (.inl (cs 2, 1, .inr (.inl (vp_updL f9 0 v.toInt64))))) ∨ (px xIO ∧ rz = some (.int 1) ∧ ad1 = ad ∧ dm1 = dm ∧ w1 = w) ∨ (px xIS ∧ rz = some (.int 2) ∧ ad1 = ad ∧ dm1 = dm ∧ w1 = w))) mc ms A := by
  refine h_start (own := RL) (hh := [(0, 9, 12, 13), (0, 9, 15, 29)]) [.ref (ad 10 0), .int p0, .ref (ad 2 0)] (cc := cL_due) (maxL := 4) (ret := some .int) (lv0 := [(0, .ref (ad 10 0)), (1, .int p0), (2, .ref (ad 2 0))]) (by decide) rfl rfl (Nat.le_of_ble_eq_true rfl) rfl ?_
  intro p e s m below meth c F hr hlocks htab
  refine g_aload_n F 2 dL_due_0 rfl rfl ?_
  refine g_iconst F dL_due_1 (v := 0) (by decide) ?_
  refine g_aload_n F 0 dL_due_2 rfl rfl ?_
  refine g_iload_n F 1 dL_due_3 rfl rfl ?_
  refine x_callVc F (C := RX5) (k := 10) (i := 0) (ci := 5) (T := TX5) (N := 4) (rest := [.int 0, .ref (ad 2 0)]) [.int p0] hM (cwV 1 F.1.2.2.2.2 gL_due_X5_due rfl rfl rfl (by decide +kernel) ⟨Nat.le_of_ble_eq_true rfl, Nat.le_of_ble_eq_true rfl⟩) rfl h10 he10 rfl rfl rfl (Nat.le_of_ble_eq_true rfl) dL_due_4 ⟨Nat.le_of_eq (Nat.zero_add _), Nat.le_of_eq (Nat.zero_add _)⟩ (fun E ce q9 hp hcl hv H1 locs1 ls1 hw1 hS1 hl1 hc1 => ?_) (fun v ad1 dm1 w2 hv => ?_)
  · rcases hpx E hp with rfl | rfl
    · refine c_catch F (hh := [(0, 9, 12, 13), (0, 9, 15, 29)]) htab [] ⟨0, 9, 12, 13⟩ [⟨0, 9, 15, 29⟩] rfl (fun z hz => absurd hz List.not_mem_nil) rfl (by decide) (by decide +kernel) (List.mem_of_getElem? (i := 3) rfl) hcl hv hw1 hS1 hl1 hc1 ?_
      refine g_astore_n F (lv1 := [(3, .ref q9), (0, .ref (ad 10 0)), (1, .int p0), (2, .ref (ad 2 0))]) dL_due_12 rfl (by decide) rfl ?_
      refine g_iconst F dL_due_13 (v := 1) (by decide) ?_
      exact g_qi F hr hlocks (fun _ h => h) (.inr (.inl ⟨hp, rfl, rfl, rfl, rfl⟩)) (Nat.le_of_eq (Nat.zero_add _)) (Nat.le_of_eq (Nat.zero_add _)) dL_due_14
    · refine c_catch F (hh := [(0, 9, 12, 13), (0, 9, 15, 29)]) htab [⟨0, 9, 12, 13⟩] ⟨0, 9, 15, 29⟩ [] rfl (by intro z hz; simp only [List.mem_cons, List.not_mem_nil, or_false] at hz; subst hz; exact ⟨by decide, xIO, by decide +kernel, F.2.2.2.2.1.2.2.2.2.2.2.2.2.1⟩) rfl (by decide) (by decide +kernel) (List.mem_of_getElem? (i := 5) rfl) hcl hv hw1 hS1 hl1 hc1 ?_
      refine g_astore_n F (lv1 := [(3, .ref q9), (0, .ref (ad 10 0)), (1, .int p0), (2, .ref (ad 2 0))]) dL_due_15 rfl (by decide) rfl ?_
      refine g_iconst F dL_due_16 (v := 2) (by decide) ?_
      exact g_qi F hr hlocks (fun _ h => h) (.inr (.inr ⟨hp, rfl, rfl, rfl, rfl⟩)) (Nat.le_of_eq (Nat.zero_add _)) (Nat.le_of_eq (Nat.zero_add _)) dL_due_17
  · obtain ⟨⟨x, rfl⟩, h2, ha, he⟩ := hkeep _ _ _ _ hv
    refine g_i2l F dL_due_7 ?_
    refine g_st (st1 := [.long x.toInt64, .int 0, .ref (ad1 2 0)]) (by rw [ha]; rfl) ?_
    refine g_last (k := 2) (i := 0) (n := 1) (f := f9) F 2 h2 he rfl (show ¬ ((0 : Int32) < 0 ∨ 1 ≤ (0 : Int32).toNatClampNeg) by decide) dL_due_8 ?_
    refine g_goto F (tgt := 18) dL_due_9 (by decide) ?_
    refine g_iconst F dL_due_18 (v := 0) (by decide) ?_
    exact g_qi F hr hlocks (fun _ h => h) (.inl ⟨x, w2, hv, rfl, rfl⟩) (Nat.le_of_eq (Nat.zero_add _)) (Nat.le_of_eq (Nat.zero_add _)) dL_due_19
set_option maxHeartbeats 4000000 in
set_option maxRecDepth 100000 in
theorem lh_setMode (l : Launch) (D : va_G) (A : Nat → Prop) (cs : Nat → ClassId) (ad : Nat → Nat → Nat) (dm : Nat → Nat → Prop) (w : CF) (p0 p1 : Int32) {fs : List Value} {f9 : Nat → Int64} {mc ms : Nat} {post : Option Value → (Nat → Nat → Nat) → (Nat → Nat → Prop) → CF → Prop} {px : String → Prop} (hM : vx_Met l yX5_setMode wsX5_setMode { frames := 7, cells := mc, slots := ms, locals := 112 } (va_Pc [.ref (ad 10 0), .int p0, .int p1] (PW D A (tysG cs) ad dm w)) (QW D A (tysG cs) post) (XW D A (tysG cs) ad dm w px) mc ms A) (h10 : dm 10 0) (he10 : w 10 0 = .inr (5, fs)) (hkeep : ∀ v ad1 dm1 w1, post v ad1 dm1 w1 → (∃ x : Int32, v = some (.int x)) ∧ dm1 2 0 ∧ ad1 2 0 = ad 2 0 ∧ w1 2 0 = (.inl (cs 2, 1, .inr (.inl f9)))) (hpx : ∀ E, px E → E = xIO ∨ E = xIA) : Met l yL_setMode wsL_setMode { frames := 8, cells := mc, slots := ms, locals := 136 } (va_Pc [.ref (ad 10 0), .int p0, .int p1, .ref (ad 2 0)] (PW D A (tysG cs) ad dm w)) (QW D A (tysG cs) (fun rz ad1 dm1 w1 => (∃ v w2, post (some (.int v)) ad1 dm1 w2 ∧ rz = some (.int 0) ∧ w1 = up2 w2 2 0 (.inl (cs 2, 1, .inr (.inl (vp_updL f9 0 v.toInt64))))) ∨ (px xIO ∧ rz = some (.int 1) ∧ ad1 = ad ∧ dm1 = dm ∧ w1 = w) ∨ (px xIA ∧ rz = some (.int 2) ∧ ad1 = ad ∧ dm1 = dm ∧ w1 = w))) mc ms A := by
  refine h_start (own := RL) (hh := [(0, 10, 13, 13), (0, 10, 17, 15)]) [.ref (ad 10 0), .int p0, .int p1, .ref (ad 2 0)] (cc := cL_setMode) (maxL := 5) (ret := some .int) (lv0 := [(0, .ref (ad 10 0)), (1, .int p0), (2, .int p1), (3, .ref (ad 2 0))]) (by decide) rfl rfl (Nat.le_of_ble_eq_true rfl) rfl ?_
  intro p e s m below meth c F hr hlocks htab
  refine g_aload_n F 3 dL_setMode_0 rfl rfl ?_
  refine g_iconst F dL_setMode_1 (v := 0) (by decide) ?_
  refine g_aload_n F 0 dL_setMode_2 rfl rfl ?_
  refine g_iload_n F 1 dL_setMode_3 rfl rfl ?_
  refine g_iload_n F 2 dL_setMode_4 rfl rfl ?_
  refine x_callVc F (C := RX5) (k := 10) (i := 0) (ci := 5) (T := TX5) (N := 4) (rest := [.int 0, .ref (ad 2 0)]) [.int p0, .int p1] hM (cwV 2 F.1.2.2.2.2 gL_setMode_X5_setMode rfl rfl rfl (by decide +kernel) ⟨Nat.le_of_ble_eq_true rfl, Nat.le_of_ble_eq_true rfl⟩) rfl h10 he10 rfl rfl rfl (Nat.le_of_ble_eq_true rfl) dL_setMode_5 ⟨Nat.le_of_eq (Nat.zero_add _), Nat.le_of_eq (Nat.zero_add _)⟩ (fun E ce q9 hp hcl hv H1 locs1 ls1 hw1 hS1 hl1 hc1 => ?_) (fun v ad1 dm1 w2 hv => ?_)
  · rcases hpx E hp with rfl | rfl
    · refine c_catch F (hh := [(0, 10, 13, 13), (0, 10, 17, 15)]) htab [] ⟨0, 10, 13, 13⟩ [⟨0, 10, 17, 15⟩] rfl (fun z hz => absurd hz List.not_mem_nil) rfl (by decide) (by decide +kernel) (List.mem_of_getElem? (i := 3) rfl) hcl hv hw1 hS1 hl1 hc1 ?_
      refine g_astore F (lv1 := [(4, .ref q9), (0, .ref (ad 10 0)), (1, .int p0), (2, .int p1), (3, .ref (ad 2 0))]) dL_setMode_13 (by decide) rfl ?_
      refine g_iconst F dL_setMode_15 (v := 1) (by decide) ?_
      exact g_qi F hr hlocks (fun _ h => h) (.inr (.inl ⟨hp, rfl, rfl, rfl, rfl⟩)) (Nat.le_of_eq (Nat.zero_add _)) (Nat.le_of_eq (Nat.zero_add _)) dL_setMode_16
    · refine c_catch F (hh := [(0, 10, 13, 13), (0, 10, 17, 15)]) htab [⟨0, 10, 13, 13⟩] ⟨0, 10, 17, 15⟩ [] rfl (by intro z hz; simp only [List.mem_cons, List.not_mem_nil, or_false] at hz; subst hz; exact ⟨by decide, xIO, by decide +kernel, F.2.2.2.2.1.2.2.2.2.2.2.2.1⟩) rfl (by decide) (by decide +kernel) (List.mem_of_getElem? (i := 4) rfl) hcl hv hw1 hS1 hl1 hc1 ?_
      refine g_astore F (lv1 := [(4, .ref q9), (0, .ref (ad 10 0)), (1, .int p0), (2, .int p1), (3, .ref (ad 2 0))]) dL_setMode_17 (by decide) rfl ?_
      refine g_iconst F dL_setMode_19 (v := 2) (by decide) ?_
      exact g_qi F hr hlocks (fun _ h => h) (.inr (.inr ⟨hp, rfl, rfl, rfl, rfl⟩)) (Nat.le_of_eq (Nat.zero_add _)) (Nat.le_of_eq (Nat.zero_add _)) dL_setMode_20
  · obtain ⟨⟨x, rfl⟩, h2, ha, he⟩ := hkeep _ _ _ _ hv
    refine g_i2l F dL_setMode_8 ?_
    refine g_st (st1 := [.long x.toInt64, .int 0, .ref (ad1 2 0)]) (by rw [ha]; rfl) ?_
    refine g_last (k := 2) (i := 0) (n := 1) (f := f9) F 2 h2 he rfl (show ¬ ((0 : Int32) < 0 ∨ 1 ≤ (0 : Int32).toNatClampNeg) by decide) dL_setMode_9 ?_
    refine g_goto F (tgt := 21) dL_setMode_10 (by decide) ?_
    refine g_iconst F dL_setMode_21 (v := 0) (by decide) ?_
    exact g_qi F hr hlocks (fun _ h => h) (.inl ⟨x, w2, hv, rfl, rfl⟩) (Nat.le_of_eq (Nat.zero_add _)) (Nat.le_of_eq (Nat.zero_add _)) dL_setMode_22
set_option maxHeartbeats 4000000 in
set_option maxRecDepth 100000 in
theorem lh_setRoom (l : Launch) (D : va_G) (A : Nat → Prop) (cs : Nat → ClassId) (ad : Nat → Nat → Nat) (dm : Nat → Nat → Prop) (w : CF) (p0 p1 : Int32) {fs : List Value} {f9 : Nat → Int64} {mc ms : Nat} {post : Option Value → (Nat → Nat → Nat) → (Nat → Nat → Prop) → CF → Prop} {px : String → Prop} (hM : vx_Met l yX5_setRoom wsX5_setRoom { frames := 7, cells := mc, slots := ms, locals := 112 } (va_Pc [.ref (ad 10 0), .int p0, .int p1] (PW D A (tysG cs) ad dm w)) (QW D A (tysG cs) post) (XW D A (tysG cs) ad dm w px) mc ms A) (h10 : dm 10 0) (he10 : w 10 0 = .inr (5, fs)) (hkeep : ∀ v ad1 dm1 w1, post v ad1 dm1 w1 → (∃ x : Int32, v = some (.int x)) ∧ dm1 2 0 ∧ ad1 2 0 = ad 2 0 ∧ w1 2 0 = (.inl (cs 2, 1, .inr (.inl f9)))) (hpx : ∀ E, px E → E = xIO ∨ E = xIA) : Met l yL_setRoom wsL_setRoom { frames := 8, cells := mc, slots := ms, locals := 136 } (va_Pc [.ref (ad 10 0), .int p0, .int p1, .ref (ad 2 0)] (PW D A (tysG cs) ad dm w)) (QW D A (tysG cs) (fun rz ad1 dm1 w1 => (∃ v w2, post (some (.int v)) ad1 dm1 w2 ∧ rz = some (.int 0) ∧ w1 = up2 w2 2 0 (.inl (cs 2, 1, .inr (.inl (vp_updL f9 0 v.toInt64))))) ∨ (px xIO ∧ rz = some (.int 1) ∧ ad1 = ad ∧ dm1 = dm ∧ w1 = w) ∨ (px xIA ∧ rz = some (.int 2) ∧ ad1 = ad ∧ dm1 = dm ∧ w1 = w))) mc ms A := by
  refine h_start (own := RL) (hh := [(0, 10, 13, 13), (0, 10, 17, 15)]) [.ref (ad 10 0), .int p0, .int p1, .ref (ad 2 0)] (cc := cL_setRoom) (maxL := 5) (ret := some .int) (lv0 := [(0, .ref (ad 10 0)), (1, .int p0), (2, .int p1), (3, .ref (ad 2 0))]) (by decide) rfl rfl (Nat.le_of_ble_eq_true rfl) rfl ?_
  intro p e s m below meth c F hr hlocks htab
  refine g_aload_n F 3 dL_setRoom_0 rfl rfl ?_
  refine g_iconst F dL_setRoom_1 (v := 0) (by decide) ?_
  refine g_aload_n F 0 dL_setRoom_2 rfl rfl ?_
  refine g_iload_n F 1 dL_setRoom_3 rfl rfl ?_
  refine g_iload_n F 2 dL_setRoom_4 rfl rfl ?_
  refine x_callVc F (C := RX5) (k := 10) (i := 0) (ci := 5) (T := TX5) (N := 4) (rest := [.int 0, .ref (ad 2 0)]) [.int p0, .int p1] hM (cwV 2 F.1.2.2.2.2 gL_setRoom_X5_setRoom rfl rfl rfl (by decide +kernel) ⟨Nat.le_of_ble_eq_true rfl, Nat.le_of_ble_eq_true rfl⟩) rfl h10 he10 rfl rfl rfl (Nat.le_of_ble_eq_true rfl) dL_setRoom_5 ⟨Nat.le_of_eq (Nat.zero_add _), Nat.le_of_eq (Nat.zero_add _)⟩ (fun E ce q9 hp hcl hv H1 locs1 ls1 hw1 hS1 hl1 hc1 => ?_) (fun v ad1 dm1 w2 hv => ?_)
  · rcases hpx E hp with rfl | rfl
    · refine c_catch F (hh := [(0, 10, 13, 13), (0, 10, 17, 15)]) htab [] ⟨0, 10, 13, 13⟩ [⟨0, 10, 17, 15⟩] rfl (fun z hz => absurd hz List.not_mem_nil) rfl (by decide) (by decide +kernel) (List.mem_of_getElem? (i := 3) rfl) hcl hv hw1 hS1 hl1 hc1 ?_
      refine g_astore F (lv1 := [(4, .ref q9), (0, .ref (ad 10 0)), (1, .int p0), (2, .int p1), (3, .ref (ad 2 0))]) dL_setRoom_13 (by decide) rfl ?_
      refine g_iconst F dL_setRoom_15 (v := 1) (by decide) ?_
      exact g_qi F hr hlocks (fun _ h => h) (.inr (.inl ⟨hp, rfl, rfl, rfl, rfl⟩)) (Nat.le_of_eq (Nat.zero_add _)) (Nat.le_of_eq (Nat.zero_add _)) dL_setRoom_16
    · refine c_catch F (hh := [(0, 10, 13, 13), (0, 10, 17, 15)]) htab [⟨0, 10, 13, 13⟩] ⟨0, 10, 17, 15⟩ [] rfl (by intro z hz; simp only [List.mem_cons, List.not_mem_nil, or_false] at hz; subst hz; exact ⟨by decide, xIO, by decide +kernel, F.2.2.2.2.1.2.2.2.2.2.2.2.1⟩) rfl (by decide) (by decide +kernel) (List.mem_of_getElem? (i := 4) rfl) hcl hv hw1 hS1 hl1 hc1 ?_
      refine g_astore F (lv1 := [(4, .ref q9), (0, .ref (ad 10 0)), (1, .int p0), (2, .int p1), (3, .ref (ad 2 0))]) dL_setRoom_17 (by decide) rfl ?_
      refine g_iconst F dL_setRoom_19 (v := 2) (by decide) ?_
      exact g_qi F hr hlocks (fun _ h => h) (.inr (.inr ⟨hp, rfl, rfl, rfl, rfl⟩)) (Nat.le_of_eq (Nat.zero_add _)) (Nat.le_of_eq (Nat.zero_add _)) dL_setRoom_20
  · obtain ⟨⟨x, rfl⟩, h2, ha, he⟩ := hkeep _ _ _ _ hv
    refine g_i2l F dL_setRoom_8 ?_
    refine g_st (st1 := [.long x.toInt64, .int 0, .ref (ad1 2 0)]) (by rw [ha]; rfl) ?_
    refine g_last (k := 2) (i := 0) (n := 1) (f := f9) F 2 h2 he rfl (show ¬ ((0 : Int32) < 0 ∨ 1 ≤ (0 : Int32).toNatClampNeg) by decide) dL_setRoom_9 ?_
    refine g_goto F (tgt := 21) dL_setRoom_10 (by decide) ?_
    refine g_iconst F dL_setRoom_21 (v := 0) (by decide) ?_
    exact g_qi F hr hlocks (fun _ h => h) (.inl ⟨x, w2, hv, rfl, rfl⟩) (Nat.le_of_eq (Nat.zero_add _)) (Nat.le_of_eq (Nat.zero_add _)) dL_setRoom_22
set_option maxHeartbeats 4000000 in
set_option maxRecDepth 100000 in
theorem lh_read (l : Launch) (D : va_G) (A : Nat → Prop) (cs : Nat → ClassId) (ad : Nat → Nat → Nat) (dm : Nat → Nat → Prop) (w : CF) (p0 p1 : Int32) {fs : List Value} {f9 : Nat → Int64} {mc ms : Nat} {post : Option Value → (Nat → Nat → Nat) → (Nat → Nat → Prop) → CF → Prop} {px : String → Prop} (hM : vx_Met l yX5_read wsX5_read { frames := 7, cells := mc, slots := ms, locals := 112 } (va_Pc [.ref (ad 10 0), .int p0, .int p1] (PW D A (tysG cs) ad dm w)) (QW D A (tysG cs) post) (XW D A (tysG cs) ad dm w px) mc ms A) (h10 : dm 10 0) (he10 : w 10 0 = .inr (5, fs)) (hkeep : ∀ v ad1 dm1 w1, post v ad1 dm1 w1 → (∃ x : Int32, v = some (.int x)) ∧ dm1 2 0 ∧ ad1 2 0 = ad 2 0 ∧ w1 2 0 = (.inl (cs 2, 1, .inr (.inl f9)))) (hpx : ∀ E, px E → E = xIO ∨ E = xIA) : Met l yL_read wsL_read { frames := 8, cells := mc, slots := ms, locals := 135 } (va_Pc [.ref (ad 10 0), .int p0, .int p1, .ref (ad 2 0)] (PW D A (tysG cs) ad dm w)) (QW D A (tysG cs) (fun rz ad1 dm1 w1 => (∃ v w2, post (some (.int v)) ad1 dm1 w2 ∧ rz = some (.int 0) ∧ w1 = up2 w2 2 0 (.inl (cs 2, 1, .inr (.inl (vp_updL f9 0 v.toInt64))))) ∨ (px xIO ∧ rz = some (.int 1) ∧ ad1 = ad ∧ dm1 = dm ∧ w1 = w) ∨ (px xIA ∧ rz = some (.int 2) ∧ ad1 = ad ∧ dm1 = dm ∧ w1 = w))) mc ms A := by
  refine h_start (own := RL) (hh := [(0, 10, 13, 13), (0, 10, 17, 15)]) [.ref (ad 10 0), .int p0, .int p1, .ref (ad 2 0)] (cc := cL_read) (maxL := 5) (ret := some .int) (lv0 := [(0, .ref (ad 10 0)), (1, .int p0), (2, .int p1), (3, .ref (ad 2 0))]) (by decide) rfl rfl (Nat.le_of_ble_eq_true rfl) rfl ?_
  intro p e s m below meth c F hr hlocks htab
  refine g_aload_n F 3 dL_read_0 rfl rfl ?_
  refine g_iconst F dL_read_1 (v := 0) (by decide) ?_
  refine g_aload_n F 0 dL_read_2 rfl rfl ?_
  refine g_iload_n F 1 dL_read_3 rfl rfl ?_
  refine g_iload_n F 2 dL_read_4 rfl rfl ?_
  refine x_callVc F (C := RX5) (k := 10) (i := 0) (ci := 5) (T := TX5) (N := 4) (rest := [.int 0, .ref (ad 2 0)]) [.int p0, .int p1] hM (cwV 2 F.1.2.2.2.2 gL_read_X5_read rfl rfl rfl (by decide +kernel) ⟨Nat.le_of_ble_eq_true rfl, Nat.le_of_ble_eq_true rfl⟩) rfl h10 he10 rfl rfl rfl (Nat.le_of_ble_eq_true rfl) dL_read_5 ⟨Nat.le_of_eq (Nat.zero_add _), Nat.le_of_eq (Nat.zero_add _)⟩ (fun E ce q9 hp hcl hv H1 locs1 ls1 hw1 hS1 hl1 hc1 => ?_) (fun v ad1 dm1 w2 hv => ?_)
  · rcases hpx E hp with rfl | rfl
    · refine c_catch F (hh := [(0, 10, 13, 13), (0, 10, 17, 15)]) htab [] ⟨0, 10, 13, 13⟩ [⟨0, 10, 17, 15⟩] rfl (fun z hz => absurd hz List.not_mem_nil) rfl (by decide) (by decide +kernel) (List.mem_of_getElem? (i := 3) rfl) hcl hv hw1 hS1 hl1 hc1 ?_
      refine g_astore F (lv1 := [(4, .ref q9), (0, .ref (ad 10 0)), (1, .int p0), (2, .int p1), (3, .ref (ad 2 0))]) dL_read_13 (by decide) rfl ?_
      refine g_iconst F dL_read_15 (v := 1) (by decide) ?_
      exact g_qi F hr hlocks (fun _ h => h) (.inr (.inl ⟨hp, rfl, rfl, rfl, rfl⟩)) (Nat.le_of_eq (Nat.zero_add _)) (Nat.le_of_eq (Nat.zero_add _)) dL_read_16
    · refine c_catch F (hh := [(0, 10, 13, 13), (0, 10, 17, 15)]) htab [⟨0, 10, 13, 13⟩] ⟨0, 10, 17, 15⟩ [] rfl (by intro z hz; simp only [List.mem_cons, List.not_mem_nil, or_false] at hz; subst hz; exact ⟨by decide, xIO, by decide +kernel, F.2.2.2.2.1.2.2.2.2.2.2.2.1⟩) rfl (by decide) (by decide +kernel) (List.mem_of_getElem? (i := 4) rfl) hcl hv hw1 hS1 hl1 hc1 ?_
      refine g_astore F (lv1 := [(4, .ref q9), (0, .ref (ad 10 0)), (1, .int p0), (2, .int p1), (3, .ref (ad 2 0))]) dL_read_17 (by decide) rfl ?_
      refine g_iconst F dL_read_19 (v := 2) (by decide) ?_
      exact g_qi F hr hlocks (fun _ h => h) (.inr (.inr ⟨hp, rfl, rfl, rfl, rfl⟩)) (Nat.le_of_eq (Nat.zero_add _)) (Nat.le_of_eq (Nat.zero_add _)) dL_read_20
  · obtain ⟨⟨x, rfl⟩, h2, ha, he⟩ := hkeep _ _ _ _ hv
    refine g_i2l F dL_read_8 ?_
    refine g_st (st1 := [.long x.toInt64, .int 0, .ref (ad1 2 0)]) (by rw [ha]; rfl) ?_
    refine g_last (k := 2) (i := 0) (n := 1) (f := f9) F 2 h2 he rfl (show ¬ ((0 : Int32) < 0 ∨ 1 ≤ (0 : Int32).toNatClampNeg) by decide) dL_read_9 ?_
    refine g_goto F (tgt := 21) dL_read_10 (by decide) ?_
    refine g_iconst F dL_read_21 (v := 0) (by decide) ?_
    exact g_qi F hr hlocks (fun _ h => h) (.inl ⟨x, w2, hv, rfl, rfl⟩) (Nat.le_of_eq (Nat.zero_add _)) (Nat.le_of_eq (Nat.zero_add _)) dL_read_22
set_option maxHeartbeats 4000000 in
set_option maxRecDepth 100000 in
theorem lh_inRoom (l : Launch) (D : va_G) (A : Nat → Prop) (cs : Nat → ClassId) (ad : Nat → Nat → Nat) (dm : Nat → Nat → Prop) (w : CF) (p0 : Int32) {fs : List Value} {f9 : Nat → Int64} {mc ms : Nat} {post : Option Value → (Nat → Nat → Nat) → (Nat → Nat → Prop) → CF → Prop} {px : String → Prop} (hM : vx_Met l yX5_inRoom wsX5_inRoom { frames := 7, cells := mc, slots := ms, locals := 111 } (va_Pc [.ref (ad 10 0), .int p0] (PW D A (tysG cs) ad dm w)) (QW D A (tysG cs) post) (XW D A (tysG cs) ad dm w px) mc ms A) (h10 : dm 10 0) (he10 : w 10 0 = .inr (5, fs)) (hkeep : ∀ v ad1 dm1 w1, post v ad1 dm1 w1 → (∃ x : Int32, v = some (.int x)) ∧ dm1 2 0 ∧ ad1 2 0 = ad 2 0 ∧ w1 2 0 = (.inl (cs 2, 1, .inr (.inl f9)))) (hpx : ∀ E, px E → E = xIO) : Met l yL_inRoom wsL_inRoom { frames := 8, cells := mc, slots := ms, locals := 132 } (va_Pc [.ref (ad 10 0), .int p0, .ref (ad 2 0)] (PW D A (tysG cs) ad dm w)) (QW D A (tysG cs) (fun rz ad1 dm1 w1 => (∃ v w2, post (some (.int v)) ad1 dm1 w2 ∧ rz = some (.int 0) ∧ w1 = up2 w2 2 0 (.inl (cs 2, 1, .inr (.inl (vp_updL f9 0 v.toInt64))))) ∨ (px xIO ∧ rz = some (.int 1) ∧ ad1 = ad ∧ dm1 = dm ∧ w1 = w))) mc ms A := by
  refine h_start (own := RL) (hh := [(0, 9, 12, 13)]) [.ref (ad 10 0), .int p0, .ref (ad 2 0)] (cc := cL_inRoom) (maxL := 4) (ret := some .int) (lv0 := [(0, .ref (ad 10 0)), (1, .int p0), (2, .ref (ad 2 0))]) (by decide) rfl rfl (Nat.le_of_ble_eq_true rfl) rfl ?_
  intro p e s m below meth c F hr hlocks htab
  refine g_aload_n F 2 dL_inRoom_0 rfl rfl ?_
  refine g_iconst F dL_inRoom_1 (v := 0) (by decide) ?_
  refine g_aload_n F 0 dL_inRoom_2 rfl rfl ?_
  refine g_iload_n F 1 dL_inRoom_3 rfl rfl ?_
  refine x_callVc F (C := RX5) (k := 10) (i := 0) (ci := 5) (T := TX5) (N := 4) (rest := [.int 0, .ref (ad 2 0)]) [.int p0] hM (cwV 1 F.1.2.2.2.2 gL_inRoom_X5_inRoom rfl rfl rfl (by decide +kernel) ⟨Nat.le_of_ble_eq_true rfl, Nat.le_of_ble_eq_true rfl⟩) rfl h10 he10 rfl rfl rfl (Nat.le_of_ble_eq_true rfl) dL_inRoom_4 ⟨Nat.le_of_eq (Nat.zero_add _), Nat.le_of_eq (Nat.zero_add _)⟩ (fun E ce q9 hp hcl hv H1 locs1 ls1 hw1 hS1 hl1 hc1 => ?_) (fun v ad1 dm1 w2 hv => ?_)
  · rcases hpx E hp with rfl
    · refine c_catch F (hh := [(0, 9, 12, 13)]) htab [] ⟨0, 9, 12, 13⟩ [] rfl (fun z hz => absurd hz List.not_mem_nil) rfl (by decide) (by decide +kernel) (List.mem_of_getElem? (i := 3) rfl) hcl hv hw1 hS1 hl1 hc1 ?_
      refine g_astore_n F (lv1 := [(3, .ref q9), (0, .ref (ad 10 0)), (1, .int p0), (2, .ref (ad 2 0))]) dL_inRoom_12 rfl (by decide) rfl ?_
      refine g_iconst F dL_inRoom_13 (v := 1) (by decide) ?_
      exact g_qi F hr hlocks (fun _ h => h) (.inr ⟨hp, rfl, rfl, rfl, rfl⟩) (Nat.le_of_eq (Nat.zero_add _)) (Nat.le_of_eq (Nat.zero_add _)) dL_inRoom_14
  · obtain ⟨⟨x, rfl⟩, h2, ha, he⟩ := hkeep _ _ _ _ hv
    refine g_i2l F dL_inRoom_7 ?_
    refine g_st (st1 := [.long x.toInt64, .int 0, .ref (ad1 2 0)]) (by rw [ha]; rfl) ?_
    refine g_last (k := 2) (i := 0) (n := 1) (f := f9) F 2 h2 he rfl (show ¬ ((0 : Int32) < 0 ∨ 1 ≤ (0 : Int32).toNatClampNeg) by decide) dL_inRoom_8 ?_
    refine g_goto F (tgt := 15) dL_inRoom_9 (by decide) ?_
    refine g_iconst F dL_inRoom_15 (v := 0) (by decide) ?_
    exact g_qi F hr hlocks (fun _ h => h) (.inl ⟨x, w2, hv, rfl, rfl⟩) (Nat.le_of_eq (Nat.zero_add _)) (Nat.le_of_eq (Nat.zero_add _)) dL_inRoom_16
set_option maxHeartbeats 4000000 in
set_option maxRecDepth 100000 in
theorem lh_marks (l : Launch) (D : va_G) (A : Nat → Prop) (cs : Nat → ClassId) (ad : Nat → Nat → Nat) (dm : Nat → Nat → Prop) (w : CF) (p0 : Int32) {fs : List Value} {f9 : Nat → Int64} {mc ms : Nat} {post : Option Value → (Nat → Nat → Nat) → (Nat → Nat → Prop) → CF → Prop} {px : String → Prop} (hM : vx_Met l yX5_marks wsX5_marks { frames := 7, cells := mc, slots := ms, locals := 111 } (va_Pc [.ref (ad 10 0), .int p0] (PW D A (tysG cs) ad dm w)) (QW D A (tysG cs) post) (XW D A (tysG cs) ad dm w px) mc ms A) (h10 : dm 10 0) (he10 : w 10 0 = .inr (5, fs)) (hkeep : ∀ v ad1 dm1 w1, post v ad1 dm1 w1 → (∃ x : Int32, v = some (.int x)) ∧ dm1 2 0 ∧ ad1 2 0 = ad 2 0 ∧ w1 2 0 = (.inl (cs 2, 1, .inr (.inl f9)))) (hpx : ∀ E, px E → E = xIO) : Met l yL_marks wsL_marks { frames := 8, cells := mc, slots := ms, locals := 132 } (va_Pc [.ref (ad 10 0), .int p0, .ref (ad 2 0)] (PW D A (tysG cs) ad dm w)) (QW D A (tysG cs) (fun rz ad1 dm1 w1 => (∃ v w2, post (some (.int v)) ad1 dm1 w2 ∧ rz = some (.int 0) ∧ w1 = up2 w2 2 0 (.inl (cs 2, 1, .inr (.inl (vp_updL f9 0 v.toInt64))))) ∨ (px xIO ∧ rz = some (.int 1) ∧ ad1 = ad ∧ dm1 = dm ∧ w1 = w))) mc ms A := by
  refine h_start (own := RL) (hh := [(0, 9, 12, 13)]) [.ref (ad 10 0), .int p0, .ref (ad 2 0)] (cc := cL_marks) (maxL := 4) (ret := some .int) (lv0 := [(0, .ref (ad 10 0)), (1, .int p0), (2, .ref (ad 2 0))]) (by decide) rfl rfl (Nat.le_of_ble_eq_true rfl) rfl ?_
  intro p e s m below meth c F hr hlocks htab
  refine g_aload_n F 2 dL_marks_0 rfl rfl ?_
  refine g_iconst F dL_marks_1 (v := 0) (by decide) ?_
  refine g_aload_n F 0 dL_marks_2 rfl rfl ?_
  refine g_iload_n F 1 dL_marks_3 rfl rfl ?_
  refine x_callVc F (C := RX5) (k := 10) (i := 0) (ci := 5) (T := TX5) (N := 4) (rest := [.int 0, .ref (ad 2 0)]) [.int p0] hM (cwV 1 F.1.2.2.2.2 gL_marks_X5_marks rfl rfl rfl (by decide +kernel) ⟨Nat.le_of_ble_eq_true rfl, Nat.le_of_ble_eq_true rfl⟩) rfl h10 he10 rfl rfl rfl (Nat.le_of_ble_eq_true rfl) dL_marks_4 ⟨Nat.le_of_eq (Nat.zero_add _), Nat.le_of_eq (Nat.zero_add _)⟩ (fun E ce q9 hp hcl hv H1 locs1 ls1 hw1 hS1 hl1 hc1 => ?_) (fun v ad1 dm1 w2 hv => ?_)
  · rcases hpx E hp with rfl
    · refine c_catch F (hh := [(0, 9, 12, 13)]) htab [] ⟨0, 9, 12, 13⟩ [] rfl (fun z hz => absurd hz List.not_mem_nil) rfl (by decide) (by decide +kernel) (List.mem_of_getElem? (i := 3) rfl) hcl hv hw1 hS1 hl1 hc1 ?_
      refine g_astore_n F (lv1 := [(3, .ref q9), (0, .ref (ad 10 0)), (1, .int p0), (2, .ref (ad 2 0))]) dL_marks_12 rfl (by decide) rfl ?_
      refine g_iconst F dL_marks_13 (v := 1) (by decide) ?_
      exact g_qi F hr hlocks (fun _ h => h) (.inr ⟨hp, rfl, rfl, rfl, rfl⟩) (Nat.le_of_eq (Nat.zero_add _)) (Nat.le_of_eq (Nat.zero_add _)) dL_marks_14
  · obtain ⟨⟨x, rfl⟩, h2, ha, he⟩ := hkeep _ _ _ _ hv
    refine g_i2l F dL_marks_7 ?_
    refine g_st (st1 := [.long x.toInt64, .int 0, .ref (ad1 2 0)]) (by rw [ha]; rfl) ?_
    refine g_last (k := 2) (i := 0) (n := 1) (f := f9) F 2 h2 he rfl (show ¬ ((0 : Int32) < 0 ∨ 1 ≤ (0 : Int32).toNatClampNeg) by decide) dL_marks_8 ?_
    refine g_goto F (tgt := 15) dL_marks_9 (by decide) ?_
    refine g_iconst F dL_marks_15 (v := 0) (by decide) ?_
    exact g_qi F hr hlocks (fun _ h => h) (.inl ⟨x, w2, hv, rfl, rfl⟩) (Nat.le_of_eq (Nat.zero_add _)) (Nat.le_of_eq (Nat.zero_add _)) dL_marks_16
set_option maxHeartbeats 4000000 in
set_option maxRecDepth 100000 in
theorem lh_waiting (l : Launch) (D : va_G) (A : Nat → Prop) (cs : Nat → ClassId) (ad : Nat → Nat → Nat) (dm : Nat → Nat → Prop) (w : CF) (p0 : Int32) {fs : List Value} {f9 : Nat → Int64} {mc ms : Nat} {post : Option Value → (Nat → Nat → Nat) → (Nat → Nat → Prop) → CF → Prop} {px : String → Prop} (hM : vx_Met l yX5_waiting wsX5_waiting { frames := 7, cells := mc, slots := ms, locals := 111 } (va_Pc [.ref (ad 10 0), .int p0] (PW D A (tysG cs) ad dm w)) (QW D A (tysG cs) post) (XW D A (tysG cs) ad dm w px) mc ms A) (h10 : dm 10 0) (he10 : w 10 0 = .inr (5, fs)) (hkeep : ∀ v ad1 dm1 w1, post v ad1 dm1 w1 → (∃ x : Int32, v = some (.int x)) ∧ dm1 2 0 ∧ ad1 2 0 = ad 2 0 ∧ w1 2 0 = (.inl (cs 2, 1, .inr (.inl f9)))) (hpx : ∀ E, px E → E = xIO) : Met l yL_waiting wsL_waiting { frames := 8, cells := mc, slots := ms, locals := 132 } (va_Pc [.ref (ad 10 0), .int p0, .ref (ad 2 0)] (PW D A (tysG cs) ad dm w)) (QW D A (tysG cs) (fun rz ad1 dm1 w1 => (∃ v w2, post (some (.int v)) ad1 dm1 w2 ∧ rz = some (.int 0) ∧ w1 = up2 w2 2 0 (.inl (cs 2, 1, .inr (.inl (vp_updL f9 0 v.toInt64))))) ∨ (px xIO ∧ rz = some (.int 1) ∧ ad1 = ad ∧ dm1 = dm ∧ w1 = w))) mc ms A := by
  refine h_start (own := RL) (hh := [(0, 9, 12, 13)]) [.ref (ad 10 0), .int p0, .ref (ad 2 0)] (cc := cL_waiting) (maxL := 4) (ret := some .int) (lv0 := [(0, .ref (ad 10 0)), (1, .int p0), (2, .ref (ad 2 0))]) (by decide) rfl rfl (Nat.le_of_ble_eq_true rfl) rfl ?_
  intro p e s m below meth c F hr hlocks htab
  refine g_aload_n F 2 dL_waiting_0 rfl rfl ?_
  refine g_iconst F dL_waiting_1 (v := 0) (by decide) ?_
  refine g_aload_n F 0 dL_waiting_2 rfl rfl ?_
  refine g_iload_n F 1 dL_waiting_3 rfl rfl ?_
  refine x_callVc F (C := RX5) (k := 10) (i := 0) (ci := 5) (T := TX5) (N := 4) (rest := [.int 0, .ref (ad 2 0)]) [.int p0] hM (cwV 1 F.1.2.2.2.2 gL_waiting_X5_waiting rfl rfl rfl (by decide +kernel) ⟨Nat.le_of_ble_eq_true rfl, Nat.le_of_ble_eq_true rfl⟩) rfl h10 he10 rfl rfl rfl (Nat.le_of_ble_eq_true rfl) dL_waiting_4 ⟨Nat.le_of_eq (Nat.zero_add _), Nat.le_of_eq (Nat.zero_add _)⟩ (fun E ce q9 hp hcl hv H1 locs1 ls1 hw1 hS1 hl1 hc1 => ?_) (fun v ad1 dm1 w2 hv => ?_)
  · rcases hpx E hp with rfl
    · refine c_catch F (hh := [(0, 9, 12, 13)]) htab [] ⟨0, 9, 12, 13⟩ [] rfl (fun z hz => absurd hz List.not_mem_nil) rfl (by decide) (by decide +kernel) (List.mem_of_getElem? (i := 3) rfl) hcl hv hw1 hS1 hl1 hc1 ?_
      refine g_astore_n F (lv1 := [(3, .ref q9), (0, .ref (ad 10 0)), (1, .int p0), (2, .ref (ad 2 0))]) dL_waiting_12 rfl (by decide) rfl ?_
      refine g_iconst F dL_waiting_13 (v := 1) (by decide) ?_
      exact g_qi F hr hlocks (fun _ h => h) (.inr ⟨hp, rfl, rfl, rfl, rfl⟩) (Nat.le_of_eq (Nat.zero_add _)) (Nat.le_of_eq (Nat.zero_add _)) dL_waiting_14
  · obtain ⟨⟨x, rfl⟩, h2, ha, he⟩ := hkeep _ _ _ _ hv
    refine g_i2l F dL_waiting_7 ?_
    refine g_st (st1 := [.long x.toInt64, .int 0, .ref (ad1 2 0)]) (by rw [ha]; rfl) ?_
    refine g_last (k := 2) (i := 0) (n := 1) (f := f9) F 2 h2 he rfl (show ¬ ((0 : Int32) < 0 ∨ 1 ≤ (0 : Int32).toNatClampNeg) by decide) dL_waiting_8 ?_
    refine g_goto F (tgt := 15) dL_waiting_9 (by decide) ?_
    refine g_iconst F dL_waiting_15 (v := 0) (by decide) ?_
    exact g_qi F hr hlocks (fun _ h => h) (.inl ⟨x, w2, hv, rfl, rfl⟩) (Nat.le_of_eq (Nat.zero_add _)) (Nat.le_of_eq (Nat.zero_add _)) dL_waiting_16
set_option maxHeartbeats 4000000 in
set_option maxRecDepth 100000 in
theorem lh_next (l : Launch) (D : va_G) (A : Nat → Prop) (cs : Nat → ClassId) (ad : Nat → Nat → Nat) (dm : Nat → Nat → Prop) (w : CF) (p0 : Int32) {fs : List Value} {f9 : Nat → Int64} {mc ms : Nat} {post : Option Value → (Nat → Nat → Nat) → (Nat → Nat → Prop) → CF → Prop} {px : String → Prop} (hM : vx_Met l yX5_next wsX5_next { frames := 7, cells := mc, slots := ms, locals := 111 } (va_Pc [.ref (ad 10 0), .int p0] (PW D A (tysG cs) ad dm w)) (QW D A (tysG cs) post) (XW D A (tysG cs) ad dm w px) mc ms A) (h10 : dm 10 0) (he10 : w 10 0 = .inr (5, fs)) (hkeep : ∀ v ad1 dm1 w1, post v ad1 dm1 w1 → (∃ x : Int32, v = some (.int x)) ∧ dm1 2 0 ∧ ad1 2 0 = ad 2 0 ∧ w1 2 0 = (.inl (cs 2, 1, .inr (.inl f9)))) (hpx : ∀ E, px E → E = xIO) : Met l yL_next wsL_next { frames := 8, cells := mc, slots := ms, locals := 133 } (va_Pc [.ref (ad 10 0), .int p0, .ref (ad 2 0)] (PW D A (tysG cs) ad dm w)) (QW D A (tysG cs) (fun rz ad1 dm1 w1 => (∃ v w2, post (some (.int v)) ad1 dm1 w2 ∧ rz = some (.int 0) ∧ w1 = up2 w2 2 0 (.inl (cs 2, 1, .inr (.inl (vp_updL f9 0 v.toInt64))))) ∨ (px xIO ∧ rz = some (.int 1) ∧ ad1 = ad ∧ dm1 = dm ∧ w1 = w))) mc ms A := by
  refine h_start (own := RL) (hh := [(0, 9, 12, 13)]) [.ref (ad 10 0), .int p0, .ref (ad 2 0)] (cc := cL_next) (maxL := 4) (ret := some .int) (lv0 := [(0, .ref (ad 10 0)), (1, .int p0), (2, .ref (ad 2 0))]) (by decide) rfl rfl (Nat.le_of_ble_eq_true rfl) rfl ?_
  intro p e s m below meth c F hr hlocks htab
  refine g_aload_n F 2 dL_next_0 rfl rfl ?_
  refine g_iconst F dL_next_1 (v := 0) (by decide) ?_
  refine g_aload_n F 0 dL_next_2 rfl rfl ?_
  refine g_iload_n F 1 dL_next_3 rfl rfl ?_
  refine x_callVc F (C := RX5) (k := 10) (i := 0) (ci := 5) (T := TX5) (N := 4) (rest := [.int 0, .ref (ad 2 0)]) [.int p0] hM (cwV 1 F.1.2.2.2.2 gL_next_X5_next rfl rfl rfl (by decide +kernel) ⟨Nat.le_of_ble_eq_true rfl, Nat.le_of_ble_eq_true rfl⟩) rfl h10 he10 rfl rfl rfl (Nat.le_of_ble_eq_true rfl) dL_next_4 ⟨Nat.le_of_eq (Nat.zero_add _), Nat.le_of_eq (Nat.zero_add _)⟩ (fun E ce q9 hp hcl hv H1 locs1 ls1 hw1 hS1 hl1 hc1 => ?_) (fun v ad1 dm1 w2 hv => ?_)
  · rcases hpx E hp with rfl
    · refine c_catch F (hh := [(0, 9, 12, 13)]) htab [] ⟨0, 9, 12, 13⟩ [] rfl (fun z hz => absurd hz List.not_mem_nil) rfl (by decide) (by decide +kernel) (List.mem_of_getElem? (i := 3) rfl) hcl hv hw1 hS1 hl1 hc1 ?_
      refine g_astore_n F (lv1 := [(3, .ref q9), (0, .ref (ad 10 0)), (1, .int p0), (2, .ref (ad 2 0))]) dL_next_12 rfl (by decide) rfl ?_
      refine g_iconst F dL_next_13 (v := 1) (by decide) ?_
      exact g_qi F hr hlocks (fun _ h => h) (.inr ⟨hp, rfl, rfl, rfl, rfl⟩) (Nat.le_of_eq (Nat.zero_add _)) (Nat.le_of_eq (Nat.zero_add _)) dL_next_14
  · obtain ⟨⟨x, rfl⟩, h2, ha, he⟩ := hkeep _ _ _ _ hv
    refine g_i2l F dL_next_7 ?_
    refine g_st (st1 := [.long x.toInt64, .int 0, .ref (ad1 2 0)]) (by rw [ha]; rfl) ?_
    refine g_last (k := 2) (i := 0) (n := 1) (f := f9) F 2 h2 he rfl (show ¬ ((0 : Int32) < 0 ∨ 1 ≤ (0 : Int32).toNatClampNeg) by decide) dL_next_8 ?_
    refine g_goto F (tgt := 15) dL_next_9 (by decide) ?_
    refine g_iconst F dL_next_15 (v := 0) (by decide) ?_
    exact g_qi F hr hlocks (fun _ h => h) (.inl ⟨x, w2, hv, rfl, rfl⟩) (Nat.le_of_eq (Nat.zero_add _)) (Nat.le_of_eq (Nat.zero_add _)) dL_next_16
set_option maxHeartbeats 4000000 in
set_option maxRecDepth 100000 in
theorem lh_pass (l : Launch) (D : va_G) (A : Nat → Prop) (cs : Nat → ClassId) (ad : Nat → Nat → Nat) (dm : Nat → Nat → Prop) (w : CF) (p0 : Int32) {fs : List Value} {f9 : Nat → Int64} {mc ms : Nat} {post : Option Value → (Nat → Nat → Nat) → (Nat → Nat → Prop) → CF → Prop} {px : String → Prop} (hM : vx_Met l yX5_pass wsX5_pass { frames := 10, cells := mc, slots := ms, locals := 306 } (va_Pc [.ref (ad 10 0), .int p0] (PW D A (tysG cs) ad dm w)) (QW D A (tysG cs) post) (XW D A (tysG cs) ad dm w px) mc ms A) (h10 : dm 10 0) (he10 : w 10 0 = .inr (5, fs)) (hkeep : ∀ v ad1 dm1 w1, post v ad1 dm1 w1 → (∃ x : Int32, v = some (.int x)) ∧ dm1 2 0 ∧ ad1 2 0 = ad 2 0 ∧ w1 2 0 = (.inl (cs 2, 1, .inr (.inl f9)))) (hpx : ∀ E, px E → E = xIA) : Met l yL_pass wsL_pass { frames := 11, cells := mc, slots := ms, locals := 330 } (va_Pc [.ref (ad 10 0), .int p0, .ref (ad 2 0)] (PW D A (tysG cs) ad dm w)) (QW D A (tysG cs) (fun rz ad1 dm1 w1 => (∃ v w2, post (some (.int v)) ad1 dm1 w2 ∧ rz = some (.int 0) ∧ w1 = up2 w2 2 0 (.inl (cs 2, 1, .inr (.inl (vp_updL f9 0 v.toInt64))))) ∨ (px xIA ∧ rz = some (.int 1) ∧ ad1 = ad ∧ dm1 = dm ∧ w1 = w))) mc ms A := by
  refine h_start (own := RL) (hh := [(0, 9, 12, 15)]) [.ref (ad 10 0), .int p0, .ref (ad 2 0)] (cc := cL_pass) (maxL := 4) (ret := some .int) (lv0 := [(0, .ref (ad 10 0)), (1, .int p0), (2, .ref (ad 2 0))]) (by decide) rfl rfl (Nat.le_of_ble_eq_true rfl) rfl ?_
  intro p e s m below meth c F hr hlocks htab
  refine g_aload_n F 2 dL_pass_0 rfl rfl ?_
  refine g_iconst F dL_pass_1 (v := 0) (by decide) ?_
  refine g_aload_n F 0 dL_pass_2 rfl rfl ?_
  refine g_iload_n F 1 dL_pass_3 rfl rfl ?_
  refine x_callVc F (C := RX5) (k := 10) (i := 0) (ci := 5) (T := TX5) (N := 4) (rest := [.int 0, .ref (ad 2 0)]) [.int p0] hM (cwV 1 F.1.2.2.2.2 gL_pass_X5_pass rfl rfl rfl (by decide +kernel) ⟨Nat.le_of_ble_eq_true rfl, Nat.le_of_ble_eq_true rfl⟩) rfl h10 he10 rfl rfl rfl (Nat.le_of_ble_eq_true rfl) dL_pass_4 ⟨Nat.le_of_eq (Nat.zero_add _), Nat.le_of_eq (Nat.zero_add _)⟩ (fun E ce q9 hp hcl hv H1 locs1 ls1 hw1 hS1 hl1 hc1 => ?_) (fun v ad1 dm1 w2 hv => ?_)
  · rcases hpx E hp with rfl
    · refine c_catch F (hh := [(0, 9, 12, 15)]) htab [] ⟨0, 9, 12, 15⟩ [] rfl (fun z hz => absurd hz List.not_mem_nil) rfl (by decide) (by decide +kernel) (List.mem_of_getElem? (i := 4) rfl) hcl hv hw1 hS1 hl1 hc1 ?_
      refine g_astore_n F (lv1 := [(3, .ref q9), (0, .ref (ad 10 0)), (1, .int p0), (2, .ref (ad 2 0))]) dL_pass_12 rfl (by decide) rfl ?_
      refine g_iconst F dL_pass_13 (v := 1) (by decide) ?_
      exact g_qi F hr hlocks (fun _ h => h) (.inr ⟨hp, rfl, rfl, rfl, rfl⟩) (Nat.le_of_eq (Nat.zero_add _)) (Nat.le_of_eq (Nat.zero_add _)) dL_pass_14
  · obtain ⟨⟨x, rfl⟩, h2, ha, he⟩ := hkeep _ _ _ _ hv
    refine g_i2l F dL_pass_7 ?_
    refine g_st (st1 := [.long x.toInt64, .int 0, .ref (ad1 2 0)]) (by rw [ha]; rfl) ?_
    refine g_last (k := 2) (i := 0) (n := 1) (f := f9) F 2 h2 he rfl (show ¬ ((0 : Int32) < 0 ∨ 1 ≤ (0 : Int32).toNatClampNeg) by decide) dL_pass_8 ?_
    refine g_goto F (tgt := 15) dL_pass_9 (by decide) ?_
    refine g_iconst F dL_pass_15 (v := 0) (by decide) ?_
    exact g_qi F hr hlocks (fun _ h => h) (.inl ⟨x, w2, hv, rfl, rfl⟩) (Nat.le_of_eq (Nat.zero_add _)) (Nat.le_of_eq (Nat.zero_add _)) dL_pass_16
set_option maxHeartbeats 4000000 in
set_option maxRecDepth 100000 in
theorem lh_receipts (l : Launch) (D : va_G) (A : Nat → Prop) (cs : Nat → ClassId) (ad : Nat → Nat → Nat) (dm : Nat → Nat → Prop) (w : CF) (p0 : Int32) {fs : List Value} {f9 : Nat → Int64} {mc ms : Nat} {post : Option Value → (Nat → Nat → Nat) → (Nat → Nat → Prop) → CF → Prop} {px : String → Prop} (hM : vx_Met l yX5_receipts wsX5_receipts { frames := 7, cells := mc, slots := ms, locals := 111 } (va_Pc [.ref (ad 10 0), .int p0] (PW D A (tysG cs) ad dm w)) (QW D A (tysG cs) post) (XW D A (tysG cs) ad dm w px) mc ms A) (h10 : dm 10 0) (he10 : w 10 0 = .inr (5, fs)) (hkeep : ∀ v ad1 dm1 w1, post v ad1 dm1 w1 → (∃ x : Int32, v = some (.int x)) ∧ dm1 2 0 ∧ ad1 2 0 = ad 2 0 ∧ w1 2 0 = (.inl (cs 2, 1, .inr (.inl f9)))) (hpx : ∀ E, px E → E = xIO) : Met l yL_receipts wsL_receipts { frames := 8, cells := mc, slots := ms, locals := 132 } (va_Pc [.ref (ad 10 0), .int p0, .ref (ad 2 0)] (PW D A (tysG cs) ad dm w)) (QW D A (tysG cs) (fun rz ad1 dm1 w1 => (∃ v w2, post (some (.int v)) ad1 dm1 w2 ∧ rz = some (.int 0) ∧ w1 = up2 w2 2 0 (.inl (cs 2, 1, .inr (.inl (vp_updL f9 0 v.toInt64))))) ∨ (px xIO ∧ rz = some (.int 1) ∧ ad1 = ad ∧ dm1 = dm ∧ w1 = w))) mc ms A := by
  refine h_start (own := RL) (hh := [(0, 9, 12, 13)]) [.ref (ad 10 0), .int p0, .ref (ad 2 0)] (cc := cL_receipts) (maxL := 4) (ret := some .int) (lv0 := [(0, .ref (ad 10 0)), (1, .int p0), (2, .ref (ad 2 0))]) (by decide) rfl rfl (Nat.le_of_ble_eq_true rfl) rfl ?_
  intro p e s m below meth c F hr hlocks htab
  refine g_aload_n F 2 dL_receipts_0 rfl rfl ?_
  refine g_iconst F dL_receipts_1 (v := 0) (by decide) ?_
  refine g_aload_n F 0 dL_receipts_2 rfl rfl ?_
  refine g_iload_n F 1 dL_receipts_3 rfl rfl ?_
  refine x_callVc F (C := RX5) (k := 10) (i := 0) (ci := 5) (T := TX5) (N := 4) (rest := [.int 0, .ref (ad 2 0)]) [.int p0] hM (cwV 1 F.1.2.2.2.2 gL_receipts_X5_receipts rfl rfl rfl (by decide +kernel) ⟨Nat.le_of_ble_eq_true rfl, Nat.le_of_ble_eq_true rfl⟩) rfl h10 he10 rfl rfl rfl (Nat.le_of_ble_eq_true rfl) dL_receipts_4 ⟨Nat.le_of_eq (Nat.zero_add _), Nat.le_of_eq (Nat.zero_add _)⟩ (fun E ce q9 hp hcl hv H1 locs1 ls1 hw1 hS1 hl1 hc1 => ?_) (fun v ad1 dm1 w2 hv => ?_)
  · rcases hpx E hp with rfl
    · refine c_catch F (hh := [(0, 9, 12, 13)]) htab [] ⟨0, 9, 12, 13⟩ [] rfl (fun z hz => absurd hz List.not_mem_nil) rfl (by decide) (by decide +kernel) (List.mem_of_getElem? (i := 3) rfl) hcl hv hw1 hS1 hl1 hc1 ?_
      refine g_astore_n F (lv1 := [(3, .ref q9), (0, .ref (ad 10 0)), (1, .int p0), (2, .ref (ad 2 0))]) dL_receipts_12 rfl (by decide) rfl ?_
      refine g_iconst F dL_receipts_13 (v := 1) (by decide) ?_
      exact g_qi F hr hlocks (fun _ h => h) (.inr ⟨hp, rfl, rfl, rfl, rfl⟩) (Nat.le_of_eq (Nat.zero_add _)) (Nat.le_of_eq (Nat.zero_add _)) dL_receipts_14
  · obtain ⟨⟨x, rfl⟩, h2, ha, he⟩ := hkeep _ _ _ _ hv
    refine g_i2l F dL_receipts_7 ?_
    refine g_st (st1 := [.long x.toInt64, .int 0, .ref (ad1 2 0)]) (by rw [ha]; rfl) ?_
    refine g_last (k := 2) (i := 0) (n := 1) (f := f9) F 2 h2 he rfl (show ¬ ((0 : Int32) < 0 ∨ 1 ≤ (0 : Int32).toNatClampNeg) by decide) dL_receipts_8 ?_
    refine g_goto F (tgt := 15) dL_receipts_9 (by decide) ?_
    refine g_iconst F dL_receipts_15 (v := 0) (by decide) ?_
    exact g_qi F hr hlocks (fun _ h => h) (.inl ⟨x, w2, hv, rfl, rfl⟩) (Nat.le_of_eq (Nat.zero_add _)) (Nat.le_of_eq (Nat.zero_add _)) dL_receipts_16
set_option maxHeartbeats 4000000 in
set_option maxRecDepth 100000 in
theorem lh_takeReceipt (l : Launch) (D : va_G) (A : Nat → Prop) (cs : Nat → ClassId) (ad : Nat → Nat → Nat) (dm : Nat → Nat → Prop) (w : CF) (p0 : Int32) {fs : List Value} {f9 : Nat → Int64} {mc ms : Nat} {post : Option Value → (Nat → Nat → Nat) → (Nat → Nat → Prop) → CF → Prop} {px : String → Prop} (hM : vx_Met l yX5_takeReceipt wsX5_takeReceipt { frames := 7, cells := mc, slots := ms, locals := 111 } (va_Pc [.ref (ad 10 0), .int p0] (PW D A (tysG cs) ad dm w)) (QW D A (tysG cs) post) (XW D A (tysG cs) ad dm w px) mc ms A) (h10 : dm 10 0) (he10 : w 10 0 = .inr (5, fs)) (hkeep : ∀ v ad1 dm1 w1, post v ad1 dm1 w1 → (∃ x : Int32, v = some (.int x)) ∧ dm1 2 0 ∧ ad1 2 0 = ad 2 0 ∧ w1 2 0 = (.inl (cs 2, 1, .inr (.inl f9)))) (hpx : ∀ E, px E → E = xIO ∨ E = xIS) : Met l yL_takeReceipt wsL_takeReceipt { frames := 8, cells := mc, slots := ms, locals := 134 } (va_Pc [.ref (ad 10 0), .int p0, .ref (ad 2 0)] (PW D A (tysG cs) ad dm w)) (QW D A (tysG cs) (fun rz ad1 dm1 w1 => (∃ v w2, post (some (.int v)) ad1 dm1 w2 ∧ rz = some (.int 0) ∧ w1 = up2 w2 2 0 (.inl (cs 2, 1, .inr (.inl (vp_updL f9 0 v.toInt64))))) ∨ (px xIO ∧ rz = some (.int 1) ∧ ad1 = ad ∧ dm1 = dm ∧ w1 = w) ∨ (px xIS ∧ rz = some (.int 2) ∧ ad1 = ad ∧ dm1 = dm ∧ w1 = w))) mc ms A := by
  refine h_start (own := RL) (hh := [(0, 9, 12, 13), (0, 9, 15, 29)]) [.ref (ad 10 0), .int p0, .ref (ad 2 0)] (cc := cL_takeReceipt) (maxL := 4) (ret := some .int) (lv0 := [(0, .ref (ad 10 0)), (1, .int p0), (2, .ref (ad 2 0))]) (by decide) rfl rfl (Nat.le_of_ble_eq_true rfl) rfl ?_
  intro p e s m below meth c F hr hlocks htab
  refine g_aload_n F 2 dL_takeReceipt_0 rfl rfl ?_
  refine g_iconst F dL_takeReceipt_1 (v := 0) (by decide) ?_
  refine g_aload_n F 0 dL_takeReceipt_2 rfl rfl ?_
  refine g_iload_n F 1 dL_takeReceipt_3 rfl rfl ?_
  refine x_callVc F (C := RX5) (k := 10) (i := 0) (ci := 5) (T := TX5) (N := 4) (rest := [.int 0, .ref (ad 2 0)]) [.int p0] hM (cwV 1 F.1.2.2.2.2 gL_takeReceipt_X5_takeReceipt rfl rfl rfl (by decide +kernel) ⟨Nat.le_of_ble_eq_true rfl, Nat.le_of_ble_eq_true rfl⟩) rfl h10 he10 rfl rfl rfl (Nat.le_of_ble_eq_true rfl) dL_takeReceipt_4 ⟨Nat.le_of_eq (Nat.zero_add _), Nat.le_of_eq (Nat.zero_add _)⟩ (fun E ce q9 hp hcl hv H1 locs1 ls1 hw1 hS1 hl1 hc1 => ?_) (fun v ad1 dm1 w2 hv => ?_)
  · rcases hpx E hp with rfl | rfl
    · refine c_catch F (hh := [(0, 9, 12, 13), (0, 9, 15, 29)]) htab [] ⟨0, 9, 12, 13⟩ [⟨0, 9, 15, 29⟩] rfl (fun z hz => absurd hz List.not_mem_nil) rfl (by decide) (by decide +kernel) (List.mem_of_getElem? (i := 3) rfl) hcl hv hw1 hS1 hl1 hc1 ?_
      refine g_astore_n F (lv1 := [(3, .ref q9), (0, .ref (ad 10 0)), (1, .int p0), (2, .ref (ad 2 0))]) dL_takeReceipt_12 rfl (by decide) rfl ?_
      refine g_iconst F dL_takeReceipt_13 (v := 1) (by decide) ?_
      exact g_qi F hr hlocks (fun _ h => h) (.inr (.inl ⟨hp, rfl, rfl, rfl, rfl⟩)) (Nat.le_of_eq (Nat.zero_add _)) (Nat.le_of_eq (Nat.zero_add _)) dL_takeReceipt_14
    · refine c_catch F (hh := [(0, 9, 12, 13), (0, 9, 15, 29)]) htab [⟨0, 9, 12, 13⟩] ⟨0, 9, 15, 29⟩ [] rfl (by intro z hz; simp only [List.mem_cons, List.not_mem_nil, or_false] at hz; subst hz; exact ⟨by decide, xIO, by decide +kernel, F.2.2.2.2.1.2.2.2.2.2.2.2.2.1⟩) rfl (by decide) (by decide +kernel) (List.mem_of_getElem? (i := 5) rfl) hcl hv hw1 hS1 hl1 hc1 ?_
      refine g_astore_n F (lv1 := [(3, .ref q9), (0, .ref (ad 10 0)), (1, .int p0), (2, .ref (ad 2 0))]) dL_takeReceipt_15 rfl (by decide) rfl ?_
      refine g_iconst F dL_takeReceipt_16 (v := 2) (by decide) ?_
      exact g_qi F hr hlocks (fun _ h => h) (.inr (.inr ⟨hp, rfl, rfl, rfl, rfl⟩)) (Nat.le_of_eq (Nat.zero_add _)) (Nat.le_of_eq (Nat.zero_add _)) dL_takeReceipt_17
  · obtain ⟨⟨x, rfl⟩, h2, ha, he⟩ := hkeep _ _ _ _ hv
    refine g_i2l F dL_takeReceipt_7 ?_
    refine g_st (st1 := [.long x.toInt64, .int 0, .ref (ad1 2 0)]) (by rw [ha]; rfl) ?_
    refine g_last (k := 2) (i := 0) (n := 1) (f := f9) F 2 h2 he rfl (show ¬ ((0 : Int32) < 0 ∨ 1 ≤ (0 : Int32).toNatClampNeg) by decide) dL_takeReceipt_8 ?_
    refine g_goto F (tgt := 18) dL_takeReceipt_9 (by decide) ?_
    refine g_iconst F dL_takeReceipt_18 (v := 0) (by decide) ?_
    exact g_qi F hr hlocks (fun _ h => h) (.inl ⟨x, w2, hv, rfl, rfl⟩) (Nat.le_of_eq (Nat.zero_add _)) (Nat.le_of_eq (Nat.zero_add _)) dL_takeReceipt_19
