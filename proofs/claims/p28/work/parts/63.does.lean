section DCS
variable {p : Program} {l : Launch} {e : Env} {R : Room} {s : State} {m : MethodId} {args : Array Value} {below : List Frame} {meth : Method} {c : Code} {cells slots : Nat} {Q : State → Prop} {cc : ByteArray} {nL : Nat} {Ts : List Cond} {own : String} {D : va_G} {A : Nat → Prop} {tys : List (ClassId × FieldType)} {cs : Nat → ClassId} {ad : Nat → Nat → Nat} {dm : Nat → Nat → Prop} {w : CF} {pc : Nat} {lv : List (Nat × Value)} {rest : List Value}
theorem x_callSc (F : FX p s m args c cc nL Ts own D A tys) {y : MethodName} {bytes : ByteArray} {maxL mc ms n index : Nat} {ret : Option FieldType} {ws : List Cond} {rm : Room} {post : Option Value → (Nat → Nat → Nat) → (Nat → Nat → Prop) → CF → Prop} {px : String → Prop} (As : List Value) {st : List Value} (hM : vx_Met l y ws rm (va_Pc As (PW D A tys ad dm w)) (QW D A tys post) (XW D A tys ad dm w px) mc ms A) (cwx : CallB R s args own index y bytes maxL ret ws rm mc ms n ∧ (Cond.static y).before args s = true) (hn : As.length = n) (hst : st = As.reverse ++ rest) (hroom : (rest.map fun v => v.category).sum ≤ 8) (d : decode cc pc = .ok (.invokestatic index, 3)) (hf : cells + mc ≤ R.cells ∧ slots + ms ≤ R.slots)
    (kx : ∀ (E : String) (ce : Cell) (q9 : Addr), px E → s.vm.findClass E = some ce.cls → ce.vm = .none → ∀ (H1 : Heap) (locs1 : List Loc) (ls : Array Slot), HW D A ad dm w H1 → va_S A s.heap H1 locs1 → lv_has ls nL lv → H1[q9]? = some ce → vx_W p l e R s m args below meth c H1 locs1 (cells + mc) (slots + ms) Q (F0 m pc ls rest) q9)
    (kk : ∀ (v : Option Value) (ad1 : Nat → Nat → Nat) (dm1 : Nat → Nat → Prop) (w1 : CF), post v ad1 dm1 w1 → GG p l e R s m args below meth c D A ad1 dm1 nL (cells + mc) (slots + ms) Q w1 (pc + 3) lv (v.toList ++ rest)) : GG p l e R s m args below meth c D A ad dm nL cells slots Q w pc lv st := by
  intro H locs ls hw hS hl
  subst hst
  exact qx_call (vx_runS (As := As) (rest := rest) F.1 hM cwx ⟨fun a U g mk q => ⟨q.1, q.2.call a g mk⟩, fun U hU hW => ⟨rfl, F.PW hw hS hU hW⟩⟩ rfl hn hl.1 rfl (lv_room hroom) d hf) hS hl (fun E ce q9 H1 locs1 a1 a2 a3 a4 a5 a6 => kx E ce q9 a1 a6 a5 H1 locs1 ls a2 a3 hl a4) kk
end DCS
set_option maxHeartbeats 4000000 in
set_option maxRecDepth 100000 in
theorem lo_options (l : Launch) (D : va_G) (A : Nat → Prop) (cs : Nat → ClassId) (ad : Nat → Nat → Nat) (dm : Nat → Nat → Prop) (w : CF) (p0 p1 p2 p3 : Int32) {fs : List Value} {mc ms : Nat} {post : Option Value → (Nat → Nat → Nat) → (Nat → Nat → Prop) → CF → Prop} {px : String → Prop} (hM : vx_Met l yX5_setOptions wsX5_setOptions { frames := 7, cells := mc, slots := ms, locals := 112 } (va_Pc [.ref (ad 10 0), .int p0, .int p1, .int p2, .int p3] (PW D A (tysG cs) ad dm w)) (QW D A (tysG cs) post) (XW D A (tysG cs) ad dm w px) mc ms A) (h10 : dm 10 0) (he10 : w 10 0 = .inr (5, fs)) (hkeep : ∀ v ad1 dm1 w1, post v ad1 dm1 w1 → v = none) : vx_Met l yL_options wsL_options { frames := 8, cells := mc, slots := ms, locals := 137 } (va_Pc [.ref (ad 10 0), .int p0, .int p1, .int p2, .int p3] (PW D A (tysG cs) ad dm w)) (QW D A (tysG cs) (fun rz ad1 dm1 w1 => rz = some (.int 0) ∧ post none ad1 dm1 w1)) (XW D A (tysG cs) ad dm w px) mc ms A := by
  refine q_start (own := RL) [.ref (ad 10 0), .int p0, .int p1, .int p2, .int p3] (cc := cL_options) (maxL := 5) (ret := some .int) (lv0 := [(0, .ref (ad 10 0)), (1, .int p0), (2, .int p1), (3, .int p2), (4, .int p3)]) (by decide) rfl rfl (Nat.le_of_ble_eq_true rfl) rfl ?_
  intro p e s m below meth c F hr hlocks hno
  refine g_aload_n F 0 dL_options_0 rfl rfl ?_
  refine g_iload_n F 1 dL_options_1 rfl rfl ?_
  refine g_iload_n F 2 dL_options_2 rfl rfl ?_
  refine g_iload_n F 3 dL_options_3 rfl rfl ?_
  refine g_iload F 4 dL_options_4 rfl ?_
  refine x_callV F (C := RX5) (k := 10) (i := 0) (ci := 5) (T := TX5) (N := 4) (rest := []) [.int p0, .int p1, .int p2, .int p3] hM (cwV 4 F.1.2.2.2.2 gL_options_X5_setOptions rfl rfl rfl (by decide +kernel) ⟨Nat.le_of_ble_eq_true rfl, Nat.le_of_ble_eq_true rfl⟩) rfl h10 he10 rfl rfl rfl (Nat.le_of_ble_eq_true rfl) dL_options_6 ⟨Nat.le_of_eq (Nat.zero_add _), Nat.le_of_eq (Nat.zero_add _)⟩ (x_prop F hno hlocks (fun E h => h) (Nat.le_of_eq (Nat.zero_add _)) (Nat.le_of_eq (Nat.zero_add _))) (fun v ad1 dm1 w1 hv => ?_)
  have hv0 := hkeep _ _ _ _ hv
  subst hv0
  refine g_st (st1 := []) rfl ?_
  refine g_iconst F dL_options_9 (v := 0) (by decide) ?_
  exact x_qi F hr hlocks (fun _ h => h) ⟨rfl, hv⟩ (Nat.le_of_eq (Nat.zero_add _)) (Nat.le_of_eq (Nat.zero_add _)) dL_options_10
set_option maxHeartbeats 4000000 in
set_option maxRecDepth 100000 in
theorem ld_draft (l : Launch) (D : va_G) (A : Nat → Prop) (cs : Nat → ClassId) (ad : Nat → Nat → Nat) (dm : Nat → Nat → Prop) (w : CF) (p0 p1 p2 p3 : Int32) {fs : List Value} {mc ms : Nat} {post : Option Value → (Nat → Nat → Nat) → (Nat → Nat → Prop) → CF → Prop} {px : String → Prop} (hM : vx_Met l yX5_draft wsX5_draft { frames := 7, cells := mc, slots := ms, locals := 119 } (va_Pc [.ref (ad 10 0), .int p0, .int p1, .int p2, .int (bi (p3 = 1))] (PW D A (tysG cs) ad dm w)) (QW D A (tysG cs) post) (XW D A (tysG cs) ad dm w px) mc ms A) (h10 : dm 10 0) (he10 : w 10 0 = .inr (5, fs)) (hkeep : ∀ v ad1 dm1 w1, post v ad1 dm1 w1 → ∃ x : Int32, v = some (.int x)) (hpx : ∀ E, px E → E = xIO ∨ E = xIA ∨ E = xIS) : Met l yL_does wsL_does { frames := 8, cells := mc, slots := ms, locals := 144 } (va_Pc [.ref (ad 10 0), .int 0, .int p0, .int p1, .int p2, .int p3] (PW D A (tysG cs) ad dm w)) (QW D A (tysG cs) (fun rz ad1 dm1 w1 => post rz ad1 dm1 w1 ∨ (px xIO ∧ rz = some (.int (-30)) ∧ ad1 = ad ∧ dm1 = dm ∧ w1 = w) ∨ (px xIA ∧ rz = some (.int (-20)) ∧ ad1 = ad ∧ dm1 = dm ∧ w1 = w) ∨ (px xIS ∧ rz = some (.int (-10)) ∧ ad1 = ad ∧ dm1 = dm ∧ w1 = w))) mc ms A := by
  refine h_start (own := RL) (hh := [(0, 163, 164, 52), (0, 163, 169, 54), (0, 163, 174, 56)]) [.ref (ad 10 0), .int 0, .int p0, .int p1, .int p2, .int p3] (cc := cL_does) (maxL := 7) (ret := some .int) (lv0 := [(0, .ref (ad 10 0)), (1, .int 0), (2, .int p0), (3, .int p1), (4, .int p2), (5, .int p3)]) (by decide) rfl rfl (Nat.le_of_ble_eq_true rfl) rfl ?_
  intro p e s m below meth c F hr hlocks htab
  refine g_iload_n F 1 dL_does_0 rfl rfl ?_
  refine g_if_ne F (tgt := 26) dL_does_1 (by decide) (fun q => absurd rfl q) (fun _ => ?_)
  refine g_aload_n F 0 dL_does_4 rfl rfl ?_
  refine g_iload_n F 2 dL_does_5 rfl rfl ?_
  refine g_iload_n F 3 dL_does_6 rfl rfl ?_
  refine g_iload F 4 dL_does_7 rfl ?_
  refine g_cut (w2 := w) (pc2 := 20) (lv2 := [(0, .ref (ad 10 0)), (1, .int 0), (2, .int p0), (3, .int p1), (4, .int p2), (5, .int p3)]) (st2 := [.int (bi (p3 = 1)), .int p2, .int p1, .int p0, .ref (ad 10 0)]) ?_ (fun hJ => ?_)
  rotate_left
  · refine g_iload F 5 dL_does_9 rfl ?_
    refine g_iconst F dL_does_11 (v := 1) (by decide) ?_
    refine g_icmp_ne F (tgt := 19) dL_does_12 (by decide) (fun q => ?_) (fun q => ?_)
    · refine g_iconst F dL_does_19 (v := 0) (by decide) ?_
      exact g_top (bi_f q) hJ
    · refine g_iconst F dL_does_15 (v := 1) (by decide) ?_
      refine g_goto F (tgt := 20) dL_does_16 (by decide) ?_
      exact g_top (bi_t q) hJ
  refine x_callVc F (C := RX5) (k := 10) (i := 0) (ci := 5) (T := TX5) (N := 4) (rest := []) [.int p0, .int p1, .int p2, .int (bi (p3 = 1))] hM (cwV 4 F.1.2.2.2.2 gL_does_X5_draft rfl rfl rfl (by decide +kernel) ⟨Nat.le_of_ble_eq_true rfl, Nat.le_of_ble_eq_true rfl⟩) rfl h10 he10 rfl rfl rfl (Nat.le_of_ble_eq_true rfl) dL_does_20 ⟨Nat.le_of_eq (Nat.zero_add _), Nat.le_of_eq (Nat.zero_add _)⟩ (fun E ce q9 hp hcl hv H1 locs1 ls1 hw1 hS1 hl1 hc1 => ?_) (fun v ad1 dm1 w2 hv => ?_)
  · rcases hpx E hp with rfl | rfl | rfl
    · refine c_catch F (hh := [(0, 163, 164, 52), (0, 163, 169, 54), (0, 163, 174, 56)]) htab [] ⟨0, 163, 164, 52⟩ [⟨0, 163, 169, 54⟩, ⟨0, 163, 174, 56⟩] rfl (fun z hz => absurd hz List.not_mem_nil) rfl (by decide) (by decide +kernel) (List.mem_of_getElem? (i := 3) rfl) hcl hv hw1 hS1 hl1 hc1 ?_
      refine g_astore F (lv1 := [(6, .ref q9), (0, .ref (ad 10 0)), (1, .int 0), (2, .int p0), (3, .int p1), (4, .int p2), (5, .int p3)]) dL_does_164 (by decide) rfl ?_
      refine g_bipush F dL_does_166 (v := -30) (by decide) ?_
      exact g_qi F hr hlocks (fun _ h => h) (.inr (.inl ⟨hp, rfl, rfl, rfl, rfl⟩)) (Nat.le_of_eq (Nat.zero_add _)) (Nat.le_of_eq (Nat.zero_add _)) dL_does_168
    · refine c_catch F (hh := [(0, 163, 164, 52), (0, 163, 169, 54), (0, 163, 174, 56)]) htab [⟨0, 163, 164, 52⟩] ⟨0, 163, 169, 54⟩ [⟨0, 163, 174, 56⟩] rfl (by intro z hz; simp only [List.mem_cons, List.not_mem_nil, or_false] at hz; subst hz; exact ⟨by decide, xIO, by decide +kernel, F.2.2.2.2.1.2.2.2.2.2.2.2.1⟩) rfl (by decide) (by decide +kernel) (List.mem_of_getElem? (i := 4) rfl) hcl hv hw1 hS1 hl1 hc1 ?_
      refine g_astore F (lv1 := [(6, .ref q9), (0, .ref (ad 10 0)), (1, .int 0), (2, .int p0), (3, .int p1), (4, .int p2), (5, .int p3)]) dL_does_169 (by decide) rfl ?_
      refine g_bipush F dL_does_171 (v := -20) (by decide) ?_
      exact g_qi F hr hlocks (fun _ h => h) (.inr (.inr (.inl ⟨hp, rfl, rfl, rfl, rfl⟩))) (Nat.le_of_eq (Nat.zero_add _)) (Nat.le_of_eq (Nat.zero_add _)) dL_does_173
    · refine c_catch F (hh := [(0, 163, 164, 52), (0, 163, 169, 54), (0, 163, 174, 56)]) htab [⟨0, 163, 164, 52⟩, ⟨0, 163, 169, 54⟩] ⟨0, 163, 174, 56⟩ [] rfl (by intro z hz; simp only [List.mem_cons, List.not_mem_nil, or_false] at hz; rcases hz with rfl | rfl; exact ⟨by decide, xIO, by decide +kernel, F.2.2.2.2.1.2.2.2.2.2.2.2.2.1⟩; exact ⟨by decide, xIA, by decide +kernel, F.2.2.2.2.1.2.2.2.2.2.2.2.2.2⟩) rfl (by decide) (by decide +kernel) (List.mem_of_getElem? (i := 5) rfl) hcl hv hw1 hS1 hl1 hc1 ?_
      refine g_astore F (lv1 := [(6, .ref q9), (0, .ref (ad 10 0)), (1, .int 0), (2, .int p0), (3, .int p1), (4, .int p2), (5, .int p3)]) dL_does_174 (by decide) rfl ?_
      refine g_bipush F dL_does_176 (v := -10) (by decide) ?_
      exact g_qi F hr hlocks (fun _ h => h) (.inr (.inr (.inr ⟨hp, rfl, rfl, rfl, rfl⟩))) (Nat.le_of_eq (Nat.zero_add _)) (Nat.le_of_eq (Nat.zero_add _)) dL_does_178
  · obtain ⟨x, rfl⟩ := hkeep _ _ _ _ hv
    refine g_st (st1 := [.int x]) rfl ?_
    refine g_goto F (tgt := 163) dL_does_23 (by decide) ?_
    exact g_qi F hr hlocks (fun _ h => h) (.inl hv) (Nat.le_of_eq (Nat.zero_add _)) (Nat.le_of_eq (Nat.zero_add _)) dL_does_163
set_option maxHeartbeats 4000000 in
set_option maxRecDepth 100000 in
theorem ld_setOptions (l : Launch) (D : va_G) (A : Nat → Prop) (cs : Nat → ClassId) (ad : Nat → Nat → Nat) (dm : Nat → Nat → Prop) (w : CF) (p0 p1 p2 p3 : Int32) {fs : List Value} {mc ms : Nat} {post : Option Value → (Nat → Nat → Nat) → (Nat → Nat → Prop) → CF → Prop} {px : String → Prop} (hM : vx_Met l yX5_setOptions wsX5_setOptions { frames := 7, cells := mc, slots := ms, locals := 112 } (va_Pc [.ref (ad 10 0), .int p0, .int p1, .int p2, .int (bi (p3 = 1))] (PW D A (tysG cs) ad dm w)) (QW D A (tysG cs) post) (XW D A (tysG cs) ad dm w px) mc ms A) (h10 : dm 10 0) (he10 : w 10 0 = .inr (5, fs)) (hkeep : ∀ v ad1 dm1 w1, post v ad1 dm1 w1 → v = none) (hpx : ∀ E, px E → E = xIO ∨ E = xIA ∨ E = xIS) : Met l yL_does wsL_does { frames := 9, cells := mc, slots := ms, locals := 161 } (va_Pc [.ref (ad 10 0), .int 1, .int p0, .int p1, .int p2, .int p3] (PW D A (tysG cs) ad dm w)) (QW D A (tysG cs) (fun rz ad1 dm1 w1 => (rz = some (.int 0) ∧ post none ad1 dm1 w1) ∨ (px xIO ∧ rz = some (.int (-30)) ∧ ad1 = ad ∧ dm1 = dm ∧ w1 = w) ∨ (px xIA ∧ rz = some (.int (-20)) ∧ ad1 = ad ∧ dm1 = dm ∧ w1 = w) ∨ (px xIS ∧ rz = some (.int (-10)) ∧ ad1 = ad ∧ dm1 = dm ∧ w1 = w))) mc ms A := by
  refine h_start (own := RL) (hh := [(0, 163, 164, 52), (0, 163, 169, 54), (0, 163, 174, 56)]) [.ref (ad 10 0), .int 1, .int p0, .int p1, .int p2, .int p3] (cc := cL_does) (maxL := 7) (ret := some .int) (lv0 := [(0, .ref (ad 10 0)), (1, .int 1), (2, .int p0), (3, .int p1), (4, .int p2), (5, .int p3)]) (by decide) rfl rfl (Nat.le_of_ble_eq_true rfl) rfl ?_
  intro p e s m below meth c F hr hlocks htab
  refine g_iload_n F 1 dL_does_0 rfl rfl ?_
  refine g_if_ne F (tgt := 26) dL_does_1 (by decide) (fun _ => ?_) (fun q => absurd q (by decide))
  refine g_iload_n F 1 dL_does_26 rfl rfl ?_
  refine g_iconst F dL_does_27 (v := 1) (by decide) ?_
  refine g_icmp_ne F (tgt := 53) dL_does_28 (by decide) (fun q => absurd rfl q) (fun _ => ?_)
  refine g_aload_n F 0 dL_does_31 rfl rfl ?_
  refine g_iload_n F 2 dL_does_32 rfl rfl ?_
  refine g_iload_n F 3 dL_does_33 rfl rfl ?_
  refine g_iload F 4 dL_does_34 rfl ?_
  refine g_cut (w2 := w) (pc2 := 47) (lv2 := [(0, .ref (ad 10 0)), (1, .int 1), (2, .int p0), (3, .int p1), (4, .int p2), (5, .int p3)]) (st2 := [.int (bi (p3 = 1)), .int p2, .int p1, .int p0, .ref (ad 10 0)]) ?_ (fun hJ => ?_)
  rotate_left
  · refine g_iload F 5 dL_does_36 rfl ?_
    refine g_iconst F dL_does_38 (v := 1) (by decide) ?_
    refine g_icmp_ne F (tgt := 46) dL_does_39 (by decide) (fun q => ?_) (fun q => ?_)
    · refine g_iconst F dL_does_46 (v := 0) (by decide) ?_
      exact g_top (bi_f q) hJ
    · refine g_iconst F dL_does_42 (v := 1) (by decide) ?_
      refine g_goto F (tgt := 47) dL_does_43 (by decide) ?_
      exact g_top (bi_t q) hJ
  refine x_callSc F (rest := []) [.ref (ad 10 0), .int p0, .int p1, .int p2, .int (bi (p3 = 1))] (lo_options l D A cs ad dm w p0 p1 p2 (bi (p3 = 1)) hM h10 he10 hkeep) (va_cwS 5 F.1.2.2.2.2 gL_does_L_options rfl rfl rfl (by decide +kernel) ⟨Nat.le_of_ble_eq_true rfl, Nat.le_of_ble_eq_true rfl⟩) rfl rfl (Nat.le_of_ble_eq_true rfl) dL_does_47 ⟨Nat.le_of_eq (Nat.zero_add _), Nat.le_of_eq (Nat.zero_add _)⟩ (fun E ce q9 hp hcl hv H1 locs1 ls1 hw1 hS1 hl1 hc1 => ?_) (fun v ad1 dm1 w2 hv => ?_)
  · rcases hpx E hp with rfl | rfl | rfl
    · refine c_catch F (hh := [(0, 163, 164, 52), (0, 163, 169, 54), (0, 163, 174, 56)]) htab [] ⟨0, 163, 164, 52⟩ [⟨0, 163, 169, 54⟩, ⟨0, 163, 174, 56⟩] rfl (fun z hz => absurd hz List.not_mem_nil) rfl (by decide) (by decide +kernel) (List.mem_of_getElem? (i := 3) rfl) hcl hv hw1 hS1 hl1 hc1 ?_
      refine g_astore F (lv1 := [(6, .ref q9), (0, .ref (ad 10 0)), (1, .int 1), (2, .int p0), (3, .int p1), (4, .int p2), (5, .int p3)]) dL_does_164 (by decide) rfl ?_
      refine g_bipush F dL_does_166 (v := -30) (by decide) ?_
      exact g_qi F hr hlocks (fun _ h => h) (.inr (.inl ⟨hp, rfl, rfl, rfl, rfl⟩)) (Nat.le_of_eq (Nat.zero_add _)) (Nat.le_of_eq (Nat.zero_add _)) dL_does_168
    · refine c_catch F (hh := [(0, 163, 164, 52), (0, 163, 169, 54), (0, 163, 174, 56)]) htab [⟨0, 163, 164, 52⟩] ⟨0, 163, 169, 54⟩ [⟨0, 163, 174, 56⟩] rfl (by intro z hz; simp only [List.mem_cons, List.not_mem_nil, or_false] at hz; subst hz; exact ⟨by decide, xIO, by decide +kernel, F.2.2.2.2.1.2.2.2.2.2.2.2.1⟩) rfl (by decide) (by decide +kernel) (List.mem_of_getElem? (i := 4) rfl) hcl hv hw1 hS1 hl1 hc1 ?_
      refine g_astore F (lv1 := [(6, .ref q9), (0, .ref (ad 10 0)), (1, .int 1), (2, .int p0), (3, .int p1), (4, .int p2), (5, .int p3)]) dL_does_169 (by decide) rfl ?_
      refine g_bipush F dL_does_171 (v := -20) (by decide) ?_
      exact g_qi F hr hlocks (fun _ h => h) (.inr (.inr (.inl ⟨hp, rfl, rfl, rfl, rfl⟩))) (Nat.le_of_eq (Nat.zero_add _)) (Nat.le_of_eq (Nat.zero_add _)) dL_does_173
    · refine c_catch F (hh := [(0, 163, 164, 52), (0, 163, 169, 54), (0, 163, 174, 56)]) htab [⟨0, 163, 164, 52⟩, ⟨0, 163, 169, 54⟩] ⟨0, 163, 174, 56⟩ [] rfl (by intro z hz; simp only [List.mem_cons, List.not_mem_nil, or_false] at hz; rcases hz with rfl | rfl; exact ⟨by decide, xIO, by decide +kernel, F.2.2.2.2.1.2.2.2.2.2.2.2.2.1⟩; exact ⟨by decide, xIA, by decide +kernel, F.2.2.2.2.1.2.2.2.2.2.2.2.2.2⟩) rfl (by decide) (by decide +kernel) (List.mem_of_getElem? (i := 5) rfl) hcl hv hw1 hS1 hl1 hc1 ?_
      refine g_astore F (lv1 := [(6, .ref q9), (0, .ref (ad 10 0)), (1, .int 1), (2, .int p0), (3, .int p1), (4, .int p2), (5, .int p3)]) dL_does_174 (by decide) rfl ?_
      refine g_bipush F dL_does_176 (v := -10) (by decide) ?_
      exact g_qi F hr hlocks (fun _ h => h) (.inr (.inr (.inr ⟨hp, rfl, rfl, rfl, rfl⟩))) (Nat.le_of_eq (Nat.zero_add _)) (Nat.le_of_eq (Nat.zero_add _)) dL_does_178
  · obtain ⟨rfl, hv⟩ := hv
    refine g_st (st1 := [.int 0]) rfl ?_
    refine g_goto F (tgt := 163) dL_does_50 (by decide) ?_
    exact g_qi F hr hlocks (fun _ h => h) (.inl ⟨rfl, hv⟩) (Nat.le_of_eq (Nat.zero_add _)) (Nat.le_of_eq (Nat.zero_add _)) dL_does_163
set_option maxHeartbeats 4000000 in
set_option maxRecDepth 100000 in
theorem ld_setRate (l : Launch) (D : va_G) (A : Nat → Prop) (cs : Nat → ClassId) (ad : Nat → Nat → Nat) (dm : Nat → Nat → Prop) (w : CF) (p0 p1 p2 p3 : Int32) {fs : List Value} {mc ms : Nat} {post : Option Value → (Nat → Nat → Nat) → (Nat → Nat → Prop) → CF → Prop} {px : String → Prop} (hM : vx_Met l yX5_setRate wsX5_setRate { frames := 7, cells := mc, slots := ms, locals := 112 } (va_Pc [.ref (ad 10 0), .int p0, .int p1, .int p2] (PW D A (tysG cs) ad dm w)) (QW D A (tysG cs) post) (XW D A (tysG cs) ad dm w px) mc ms A) (h10 : dm 10 0) (he10 : w 10 0 = .inr (5, fs)) (hkeep : ∀ v ad1 dm1 w1, post v ad1 dm1 w1 → ∃ x : Int32, v = some (.int x)) (hpx : ∀ E, px E → E = xIO ∨ E = xIA ∨ E = xIS) : Met l yL_does wsL_does { frames := 8, cells := mc, slots := ms, locals := 137 } (va_Pc [.ref (ad 10 0), .int 2, .int p0, .int p1, .int p2, .int p3] (PW D A (tysG cs) ad dm w)) (QW D A (tysG cs) (fun rz ad1 dm1 w1 => post rz ad1 dm1 w1 ∨ (px xIO ∧ rz = some (.int (-30)) ∧ ad1 = ad ∧ dm1 = dm ∧ w1 = w) ∨ (px xIA ∧ rz = some (.int (-20)) ∧ ad1 = ad ∧ dm1 = dm ∧ w1 = w) ∨ (px xIS ∧ rz = some (.int (-10)) ∧ ad1 = ad ∧ dm1 = dm ∧ w1 = w))) mc ms A := by
  refine h_start (own := RL) (hh := [(0, 163, 164, 52), (0, 163, 169, 54), (0, 163, 174, 56)]) [.ref (ad 10 0), .int 2, .int p0, .int p1, .int p2, .int p3] (cc := cL_does) (maxL := 7) (ret := some .int) (lv0 := [(0, .ref (ad 10 0)), (1, .int 2), (2, .int p0), (3, .int p1), (4, .int p2), (5, .int p3)]) (by decide) rfl rfl (Nat.le_of_ble_eq_true rfl) rfl ?_
  intro p e s m below meth c F hr hlocks htab
  refine g_iload_n F 1 dL_does_0 rfl rfl ?_
  refine g_if_ne F (tgt := 26) dL_does_1 (by decide) (fun _ => ?_) (fun q => absurd q (by decide))
  refine g_iload_n F 1 dL_does_26 rfl rfl ?_
  refine g_iconst F dL_does_27 (v := 1) (by decide) ?_
  refine g_icmp_ne F (tgt := 53) dL_does_28 (by decide) (fun _ => ?_) (fun q => absurd q (by decide))
  refine g_iload_n F 1 dL_does_53 rfl rfl ?_
  refine g_iconst F dL_does_54 (v := 2) (by decide) ?_
  refine g_icmp_ne F (tgt := 69) dL_does_55 (by decide) (fun q => absurd rfl q) (fun _ => ?_)
  refine g_aload_n F 0 dL_does_58 rfl rfl ?_
  refine g_iload_n F 2 dL_does_59 rfl rfl ?_
  refine g_iload_n F 3 dL_does_60 rfl rfl ?_
  refine g_iload F 4 dL_does_61 rfl ?_
  refine x_callVc F (C := RX5) (k := 10) (i := 0) (ci := 5) (T := TX5) (N := 4) (rest := []) [.int p0, .int p1, .int p2] hM (cwV 3 F.1.2.2.2.2 gL_does_X5_setRate rfl rfl rfl (by decide +kernel) ⟨Nat.le_of_ble_eq_true rfl, Nat.le_of_ble_eq_true rfl⟩) rfl h10 he10 rfl rfl rfl (Nat.le_of_ble_eq_true rfl) dL_does_63 ⟨Nat.le_of_eq (Nat.zero_add _), Nat.le_of_eq (Nat.zero_add _)⟩ (fun E ce q9 hp hcl hv H1 locs1 ls1 hw1 hS1 hl1 hc1 => ?_) (fun v ad1 dm1 w2 hv => ?_)
  · rcases hpx E hp with rfl | rfl | rfl
    · refine c_catch F (hh := [(0, 163, 164, 52), (0, 163, 169, 54), (0, 163, 174, 56)]) htab [] ⟨0, 163, 164, 52⟩ [⟨0, 163, 169, 54⟩, ⟨0, 163, 174, 56⟩] rfl (fun z hz => absurd hz List.not_mem_nil) rfl (by decide) (by decide +kernel) (List.mem_of_getElem? (i := 3) rfl) hcl hv hw1 hS1 hl1 hc1 ?_
      refine g_astore F (lv1 := [(6, .ref q9), (0, .ref (ad 10 0)), (1, .int 2), (2, .int p0), (3, .int p1), (4, .int p2), (5, .int p3)]) dL_does_164 (by decide) rfl ?_
      refine g_bipush F dL_does_166 (v := -30) (by decide) ?_
      exact g_qi F hr hlocks (fun _ h => h) (.inr (.inl ⟨hp, rfl, rfl, rfl, rfl⟩)) (Nat.le_of_eq (Nat.zero_add _)) (Nat.le_of_eq (Nat.zero_add _)) dL_does_168
    · refine c_catch F (hh := [(0, 163, 164, 52), (0, 163, 169, 54), (0, 163, 174, 56)]) htab [⟨0, 163, 164, 52⟩] ⟨0, 163, 169, 54⟩ [⟨0, 163, 174, 56⟩] rfl (by intro z hz; simp only [List.mem_cons, List.not_mem_nil, or_false] at hz; subst hz; exact ⟨by decide, xIO, by decide +kernel, F.2.2.2.2.1.2.2.2.2.2.2.2.1⟩) rfl (by decide) (by decide +kernel) (List.mem_of_getElem? (i := 4) rfl) hcl hv hw1 hS1 hl1 hc1 ?_
      refine g_astore F (lv1 := [(6, .ref q9), (0, .ref (ad 10 0)), (1, .int 2), (2, .int p0), (3, .int p1), (4, .int p2), (5, .int p3)]) dL_does_169 (by decide) rfl ?_
      refine g_bipush F dL_does_171 (v := -20) (by decide) ?_
      exact g_qi F hr hlocks (fun _ h => h) (.inr (.inr (.inl ⟨hp, rfl, rfl, rfl, rfl⟩))) (Nat.le_of_eq (Nat.zero_add _)) (Nat.le_of_eq (Nat.zero_add _)) dL_does_173
    · refine c_catch F (hh := [(0, 163, 164, 52), (0, 163, 169, 54), (0, 163, 174, 56)]) htab [⟨0, 163, 164, 52⟩, ⟨0, 163, 169, 54⟩] ⟨0, 163, 174, 56⟩ [] rfl (by intro z hz; simp only [List.mem_cons, List.not_mem_nil, or_false] at hz; rcases hz with rfl | rfl; exact ⟨by decide, xIO, by decide +kernel, F.2.2.2.2.1.2.2.2.2.2.2.2.2.1⟩; exact ⟨by decide, xIA, by decide +kernel, F.2.2.2.2.1.2.2.2.2.2.2.2.2.2⟩) rfl (by decide) (by decide +kernel) (List.mem_of_getElem? (i := 5) rfl) hcl hv hw1 hS1 hl1 hc1 ?_
      refine g_astore F (lv1 := [(6, .ref q9), (0, .ref (ad 10 0)), (1, .int 2), (2, .int p0), (3, .int p1), (4, .int p2), (5, .int p3)]) dL_does_174 (by decide) rfl ?_
      refine g_bipush F dL_does_176 (v := -10) (by decide) ?_
      exact g_qi F hr hlocks (fun _ h => h) (.inr (.inr (.inr ⟨hp, rfl, rfl, rfl, rfl⟩))) (Nat.le_of_eq (Nat.zero_add _)) (Nat.le_of_eq (Nat.zero_add _)) dL_does_178
  · obtain ⟨x, rfl⟩ := hkeep _ _ _ _ hv
    refine g_st (st1 := [.int x]) rfl ?_
    refine g_goto F (tgt := 163) dL_does_66 (by decide) ?_
    exact g_qi F hr hlocks (fun _ h => h) (.inl hv) (Nat.le_of_eq (Nat.zero_add _)) (Nat.le_of_eq (Nat.zero_add _)) dL_does_163
set_option maxHeartbeats 4000000 in
set_option maxRecDepth 100000 in
theorem ld_submit (l : Launch) (D : va_G) (A : Nat → Prop) (cs : Nat → ClassId) (ad : Nat → Nat → Nat) (dm : Nat → Nat → Prop) (w : CF) (p0 p1 p2 p3 : Int32) {fs : List Value} {mc ms : Nat} {post : Option Value → (Nat → Nat → Nat) → (Nat → Nat → Prop) → CF → Prop} {px : String → Prop} (hM : vx_Met l yX5_submit wsX5_submit { frames := 9, cells := mc, slots := ms, locals := 285 } (va_Pc [.ref (ad 10 0), .int p0, .int p1, .int p2, .int p3] (PW D A (tysG cs) ad dm w)) (QW D A (tysG cs) post) (XW D A (tysG cs) ad dm w px) mc ms A) (h10 : dm 10 0) (he10 : w 10 0 = .inr (5, fs)) (hkeep : ∀ v ad1 dm1 w1, post v ad1 dm1 w1 → ∃ x : Int32, v = some (.int x)) (hpx : ∀ E, px E → E = xIO ∨ E = xIA ∨ E = xIS) : Met l yL_does wsL_does { frames := 10, cells := mc, slots := ms, locals := 313 } (va_Pc [.ref (ad 10 0), .int 3, .int p0, .int p1, .int p2, .int p3] (PW D A (tysG cs) ad dm w)) (QW D A (tysG cs) (fun rz ad1 dm1 w1 => post rz ad1 dm1 w1 ∨ (px xIO ∧ rz = some (.int (-30)) ∧ ad1 = ad ∧ dm1 = dm ∧ w1 = w) ∨ (px xIA ∧ rz = some (.int (-20)) ∧ ad1 = ad ∧ dm1 = dm ∧ w1 = w) ∨ (px xIS ∧ rz = some (.int (-10)) ∧ ad1 = ad ∧ dm1 = dm ∧ w1 = w))) mc ms A := by
  refine h_start (own := RL) (hh := [(0, 163, 164, 52), (0, 163, 169, 54), (0, 163, 174, 56)]) [.ref (ad 10 0), .int 3, .int p0, .int p1, .int p2, .int p3] (cc := cL_does) (maxL := 7) (ret := some .int) (lv0 := [(0, .ref (ad 10 0)), (1, .int 3), (2, .int p0), (3, .int p1), (4, .int p2), (5, .int p3)]) (by decide) rfl rfl (Nat.le_of_ble_eq_true rfl) rfl ?_
  intro p e s m below meth c F hr hlocks htab
  refine g_iload_n F 1 dL_does_0 rfl rfl ?_
  refine g_if_ne F (tgt := 26) dL_does_1 (by decide) (fun _ => ?_) (fun q => absurd q (by decide))
  refine g_iload_n F 1 dL_does_26 rfl rfl ?_
  refine g_iconst F dL_does_27 (v := 1) (by decide) ?_
  refine g_icmp_ne F (tgt := 53) dL_does_28 (by decide) (fun _ => ?_) (fun q => absurd q (by decide))
  refine g_iload_n F 1 dL_does_53 rfl rfl ?_
  refine g_iconst F dL_does_54 (v := 2) (by decide) ?_
  refine g_icmp_ne F (tgt := 69) dL_does_55 (by decide) (fun _ => ?_) (fun q => absurd q (by decide))
  refine g_iload_n F 1 dL_does_69 rfl rfl ?_
  refine g_iconst F dL_does_70 (v := 3) (by decide) ?_
  refine g_icmp_ne F (tgt := 87) dL_does_71 (by decide) (fun q => absurd rfl q) (fun _ => ?_)
  refine g_aload_n F 0 dL_does_74 rfl rfl ?_
  refine g_iload_n F 2 dL_does_75 rfl rfl ?_
  refine g_iload_n F 3 dL_does_76 rfl rfl ?_
  refine g_iload F 4 dL_does_77 rfl ?_
  refine g_iload F 5 dL_does_79 rfl ?_
  refine x_callVc F (C := RX5) (k := 10) (i := 0) (ci := 5) (T := TX5) (N := 4) (rest := []) [.int p0, .int p1, .int p2, .int p3] hM (cwV 4 F.1.2.2.2.2 gL_does_X5_submit rfl rfl rfl (by decide +kernel) ⟨Nat.le_of_ble_eq_true rfl, Nat.le_of_ble_eq_true rfl⟩) rfl h10 he10 rfl rfl rfl (Nat.le_of_ble_eq_true rfl) dL_does_81 ⟨Nat.le_of_eq (Nat.zero_add _), Nat.le_of_eq (Nat.zero_add _)⟩ (fun E ce q9 hp hcl hv H1 locs1 ls1 hw1 hS1 hl1 hc1 => ?_) (fun v ad1 dm1 w2 hv => ?_)
  · rcases hpx E hp with rfl | rfl | rfl
    · refine c_catch F (hh := [(0, 163, 164, 52), (0, 163, 169, 54), (0, 163, 174, 56)]) htab [] ⟨0, 163, 164, 52⟩ [⟨0, 163, 169, 54⟩, ⟨0, 163, 174, 56⟩] rfl (fun z hz => absurd hz List.not_mem_nil) rfl (by decide) (by decide +kernel) (List.mem_of_getElem? (i := 3) rfl) hcl hv hw1 hS1 hl1 hc1 ?_
      refine g_astore F (lv1 := [(6, .ref q9), (0, .ref (ad 10 0)), (1, .int 3), (2, .int p0), (3, .int p1), (4, .int p2), (5, .int p3)]) dL_does_164 (by decide) rfl ?_
      refine g_bipush F dL_does_166 (v := -30) (by decide) ?_
      exact g_qi F hr hlocks (fun _ h => h) (.inr (.inl ⟨hp, rfl, rfl, rfl, rfl⟩)) (Nat.le_of_eq (Nat.zero_add _)) (Nat.le_of_eq (Nat.zero_add _)) dL_does_168
    · refine c_catch F (hh := [(0, 163, 164, 52), (0, 163, 169, 54), (0, 163, 174, 56)]) htab [⟨0, 163, 164, 52⟩] ⟨0, 163, 169, 54⟩ [⟨0, 163, 174, 56⟩] rfl (by intro z hz; simp only [List.mem_cons, List.not_mem_nil, or_false] at hz; subst hz; exact ⟨by decide, xIO, by decide +kernel, F.2.2.2.2.1.2.2.2.2.2.2.2.1⟩) rfl (by decide) (by decide +kernel) (List.mem_of_getElem? (i := 4) rfl) hcl hv hw1 hS1 hl1 hc1 ?_
      refine g_astore F (lv1 := [(6, .ref q9), (0, .ref (ad 10 0)), (1, .int 3), (2, .int p0), (3, .int p1), (4, .int p2), (5, .int p3)]) dL_does_169 (by decide) rfl ?_
      refine g_bipush F dL_does_171 (v := -20) (by decide) ?_
      exact g_qi F hr hlocks (fun _ h => h) (.inr (.inr (.inl ⟨hp, rfl, rfl, rfl, rfl⟩))) (Nat.le_of_eq (Nat.zero_add _)) (Nat.le_of_eq (Nat.zero_add _)) dL_does_173
    · refine c_catch F (hh := [(0, 163, 164, 52), (0, 163, 169, 54), (0, 163, 174, 56)]) htab [⟨0, 163, 164, 52⟩, ⟨0, 163, 169, 54⟩] ⟨0, 163, 174, 56⟩ [] rfl (by intro z hz; simp only [List.mem_cons, List.not_mem_nil, or_false] at hz; rcases hz with rfl | rfl; exact ⟨by decide, xIO, by decide +kernel, F.2.2.2.2.1.2.2.2.2.2.2.2.2.1⟩; exact ⟨by decide, xIA, by decide +kernel, F.2.2.2.2.1.2.2.2.2.2.2.2.2.2⟩) rfl (by decide) (by decide +kernel) (List.mem_of_getElem? (i := 5) rfl) hcl hv hw1 hS1 hl1 hc1 ?_
      refine g_astore F (lv1 := [(6, .ref q9), (0, .ref (ad 10 0)), (1, .int 3), (2, .int p0), (3, .int p1), (4, .int p2), (5, .int p3)]) dL_does_174 (by decide) rfl ?_
      refine g_bipush F dL_does_176 (v := -10) (by decide) ?_
      exact g_qi F hr hlocks (fun _ h => h) (.inr (.inr (.inr ⟨hp, rfl, rfl, rfl, rfl⟩))) (Nat.le_of_eq (Nat.zero_add _)) (Nat.le_of_eq (Nat.zero_add _)) dL_does_178
  · obtain ⟨x, rfl⟩ := hkeep _ _ _ _ hv
    refine g_st (st1 := [.int x]) rfl ?_
    refine g_goto F (tgt := 163) dL_does_84 (by decide) ?_
    exact g_qi F hr hlocks (fun _ h => h) (.inl hv) (Nat.le_of_eq (Nat.zero_add _)) (Nat.le_of_eq (Nat.zero_add _)) dL_does_163
set_option maxHeartbeats 4000000 in
set_option maxRecDepth 100000 in
theorem ld_delete (l : Launch) (D : va_G) (A : Nat → Prop) (cs : Nat → ClassId) (ad : Nat → Nat → Nat) (dm : Nat → Nat → Prop) (w : CF) (p0 p1 p2 p3 : Int32) {fs : List Value} {mc ms : Nat} {post : Option Value → (Nat → Nat → Nat) → (Nat → Nat → Prop) → CF → Prop} {px : String → Prop} (hM : vx_Met l yX5_delete wsX5_delete { frames := 8, cells := mc, slots := ms, locals := 262 } (va_Pc [.ref (ad 10 0), .int p0] (PW D A (tysG cs) ad dm w)) (QW D A (tysG cs) post) (XW D A (tysG cs) ad dm w px) mc ms A) (h10 : dm 10 0) (he10 : w 10 0 = .inr (5, fs)) (hkeep : ∀ v ad1 dm1 w1, post v ad1 dm1 w1 → ∃ x : Int32, v = some (.int x)) (hpx : ∀ E, px E → E = xIO ∨ E = xIA ∨ E = xIS) : Met l yL_does wsL_does { frames := 9, cells := mc, slots := ms, locals := 284 } (va_Pc [.ref (ad 10 0), .int 4, .int p0, .int p1, .int p2, .int p3] (PW D A (tysG cs) ad dm w)) (QW D A (tysG cs) (fun rz ad1 dm1 w1 => post rz ad1 dm1 w1 ∨ (px xIO ∧ rz = some (.int (-30)) ∧ ad1 = ad ∧ dm1 = dm ∧ w1 = w) ∨ (px xIA ∧ rz = some (.int (-20)) ∧ ad1 = ad ∧ dm1 = dm ∧ w1 = w) ∨ (px xIS ∧ rz = some (.int (-10)) ∧ ad1 = ad ∧ dm1 = dm ∧ w1 = w))) mc ms A := by
  refine h_start (own := RL) (hh := [(0, 163, 164, 52), (0, 163, 169, 54), (0, 163, 174, 56)]) [.ref (ad 10 0), .int 4, .int p0, .int p1, .int p2, .int p3] (cc := cL_does) (maxL := 7) (ret := some .int) (lv0 := [(0, .ref (ad 10 0)), (1, .int 4), (2, .int p0), (3, .int p1), (4, .int p2), (5, .int p3)]) (by decide) rfl rfl (Nat.le_of_ble_eq_true rfl) rfl ?_
  intro p e s m below meth c F hr hlocks htab
  refine g_iload_n F 1 dL_does_0 rfl rfl ?_
  refine g_if_ne F (tgt := 26) dL_does_1 (by decide) (fun _ => ?_) (fun q => absurd q (by decide))
  refine g_iload_n F 1 dL_does_26 rfl rfl ?_
  refine g_iconst F dL_does_27 (v := 1) (by decide) ?_
  refine g_icmp_ne F (tgt := 53) dL_does_28 (by decide) (fun _ => ?_) (fun q => absurd q (by decide))
  refine g_iload_n F 1 dL_does_53 rfl rfl ?_
  refine g_iconst F dL_does_54 (v := 2) (by decide) ?_
  refine g_icmp_ne F (tgt := 69) dL_does_55 (by decide) (fun _ => ?_) (fun q => absurd q (by decide))
  refine g_iload_n F 1 dL_does_69 rfl rfl ?_
  refine g_iconst F dL_does_70 (v := 3) (by decide) ?_
  refine g_icmp_ne F (tgt := 87) dL_does_71 (by decide) (fun _ => ?_) (fun q => absurd q (by decide))
  refine g_iload_n F 1 dL_does_87 rfl rfl ?_
  refine g_iconst F dL_does_88 (v := 4) (by decide) ?_
  refine g_icmp_ne F (tgt := 100) dL_does_89 (by decide) (fun q => absurd rfl q) (fun _ => ?_)
  refine g_aload_n F 0 dL_does_92 rfl rfl ?_
  refine g_iload_n F 2 dL_does_93 rfl rfl ?_
  refine x_callVc F (C := RX5) (k := 10) (i := 0) (ci := 5) (T := TX5) (N := 4) (rest := []) [.int p0] hM (cwV 1 F.1.2.2.2.2 gL_does_X5_delete rfl rfl rfl (by decide +kernel) ⟨Nat.le_of_ble_eq_true rfl, Nat.le_of_ble_eq_true rfl⟩) rfl h10 he10 rfl rfl rfl (Nat.le_of_ble_eq_true rfl) dL_does_94 ⟨Nat.le_of_eq (Nat.zero_add _), Nat.le_of_eq (Nat.zero_add _)⟩ (fun E ce q9 hp hcl hv H1 locs1 ls1 hw1 hS1 hl1 hc1 => ?_) (fun v ad1 dm1 w2 hv => ?_)
  · rcases hpx E hp with rfl | rfl | rfl
    · refine c_catch F (hh := [(0, 163, 164, 52), (0, 163, 169, 54), (0, 163, 174, 56)]) htab [] ⟨0, 163, 164, 52⟩ [⟨0, 163, 169, 54⟩, ⟨0, 163, 174, 56⟩] rfl (fun z hz => absurd hz List.not_mem_nil) rfl (by decide) (by decide +kernel) (List.mem_of_getElem? (i := 3) rfl) hcl hv hw1 hS1 hl1 hc1 ?_
      refine g_astore F (lv1 := [(6, .ref q9), (0, .ref (ad 10 0)), (1, .int 4), (2, .int p0), (3, .int p1), (4, .int p2), (5, .int p3)]) dL_does_164 (by decide) rfl ?_
      refine g_bipush F dL_does_166 (v := -30) (by decide) ?_
      exact g_qi F hr hlocks (fun _ h => h) (.inr (.inl ⟨hp, rfl, rfl, rfl, rfl⟩)) (Nat.le_of_eq (Nat.zero_add _)) (Nat.le_of_eq (Nat.zero_add _)) dL_does_168
    · refine c_catch F (hh := [(0, 163, 164, 52), (0, 163, 169, 54), (0, 163, 174, 56)]) htab [⟨0, 163, 164, 52⟩] ⟨0, 163, 169, 54⟩ [⟨0, 163, 174, 56⟩] rfl (by intro z hz; simp only [List.mem_cons, List.not_mem_nil, or_false] at hz; subst hz; exact ⟨by decide, xIO, by decide +kernel, F.2.2.2.2.1.2.2.2.2.2.2.2.1⟩) rfl (by decide) (by decide +kernel) (List.mem_of_getElem? (i := 4) rfl) hcl hv hw1 hS1 hl1 hc1 ?_
      refine g_astore F (lv1 := [(6, .ref q9), (0, .ref (ad 10 0)), (1, .int 4), (2, .int p0), (3, .int p1), (4, .int p2), (5, .int p3)]) dL_does_169 (by decide) rfl ?_
      refine g_bipush F dL_does_171 (v := -20) (by decide) ?_
      exact g_qi F hr hlocks (fun _ h => h) (.inr (.inr (.inl ⟨hp, rfl, rfl, rfl, rfl⟩))) (Nat.le_of_eq (Nat.zero_add _)) (Nat.le_of_eq (Nat.zero_add _)) dL_does_173
    · refine c_catch F (hh := [(0, 163, 164, 52), (0, 163, 169, 54), (0, 163, 174, 56)]) htab [⟨0, 163, 164, 52⟩, ⟨0, 163, 169, 54⟩] ⟨0, 163, 174, 56⟩ [] rfl (by intro z hz; simp only [List.mem_cons, List.not_mem_nil, or_false] at hz; rcases hz with rfl | rfl; exact ⟨by decide, xIO, by decide +kernel, F.2.2.2.2.1.2.2.2.2.2.2.2.2.1⟩; exact ⟨by decide, xIA, by decide +kernel, F.2.2.2.2.1.2.2.2.2.2.2.2.2.2⟩) rfl (by decide) (by decide +kernel) (List.mem_of_getElem? (i := 5) rfl) hcl hv hw1 hS1 hl1 hc1 ?_
      refine g_astore F (lv1 := [(6, .ref q9), (0, .ref (ad 10 0)), (1, .int 4), (2, .int p0), (3, .int p1), (4, .int p2), (5, .int p3)]) dL_does_174 (by decide) rfl ?_
      refine g_bipush F dL_does_176 (v := -10) (by decide) ?_
      exact g_qi F hr hlocks (fun _ h => h) (.inr (.inr (.inr ⟨hp, rfl, rfl, rfl, rfl⟩))) (Nat.le_of_eq (Nat.zero_add _)) (Nat.le_of_eq (Nat.zero_add _)) dL_does_178
  · obtain ⟨x, rfl⟩ := hkeep _ _ _ _ hv
    refine g_st (st1 := [.int x]) rfl ?_
    refine g_goto F (tgt := 163) dL_does_97 (by decide) ?_
    exact g_qi F hr hlocks (fun _ h => h) (.inl hv) (Nat.le_of_eq (Nat.zero_add _)) (Nat.le_of_eq (Nat.zero_add _)) dL_does_163
set_option maxHeartbeats 4000000 in
set_option maxRecDepth 100000 in
theorem ld_setMode (l : Launch) (D : va_G) (A : Nat → Prop) (cs : Nat → ClassId) (ad : Nat → Nat → Nat) (dm : Nat → Nat → Prop) (w : CF) (p0 p1 p2 p3 : Int32) {fs : List Value} {mc ms : Nat} {post : Option Value → (Nat → Nat → Nat) → (Nat → Nat → Prop) → CF → Prop} {px : String → Prop} (hM : vx_Met l yX5_setMode wsX5_setMode { frames := 7, cells := mc, slots := ms, locals := 112 } (va_Pc [.ref (ad 10 0), .int p0, .int p1] (PW D A (tysG cs) ad dm w)) (QW D A (tysG cs) post) (XW D A (tysG cs) ad dm w px) mc ms A) (h10 : dm 10 0) (he10 : w 10 0 = .inr (5, fs)) (hkeep : ∀ v ad1 dm1 w1, post v ad1 dm1 w1 → ∃ x : Int32, v = some (.int x)) (hpx : ∀ E, px E → E = xIO ∨ E = xIA ∨ E = xIS) : Met l yL_does wsL_does { frames := 8, cells := mc, slots := ms, locals := 136 } (va_Pc [.ref (ad 10 0), .int 5, .int p0, .int p1, .int p2, .int p3] (PW D A (tysG cs) ad dm w)) (QW D A (tysG cs) (fun rz ad1 dm1 w1 => post rz ad1 dm1 w1 ∨ (px xIO ∧ rz = some (.int (-30)) ∧ ad1 = ad ∧ dm1 = dm ∧ w1 = w) ∨ (px xIA ∧ rz = some (.int (-20)) ∧ ad1 = ad ∧ dm1 = dm ∧ w1 = w) ∨ (px xIS ∧ rz = some (.int (-10)) ∧ ad1 = ad ∧ dm1 = dm ∧ w1 = w))) mc ms A := by
  refine h_start (own := RL) (hh := [(0, 163, 164, 52), (0, 163, 169, 54), (0, 163, 174, 56)]) [.ref (ad 10 0), .int 5, .int p0, .int p1, .int p2, .int p3] (cc := cL_does) (maxL := 7) (ret := some .int) (lv0 := [(0, .ref (ad 10 0)), (1, .int 5), (2, .int p0), (3, .int p1), (4, .int p2), (5, .int p3)]) (by decide) rfl rfl (Nat.le_of_ble_eq_true rfl) rfl ?_
  intro p e s m below meth c F hr hlocks htab
  refine g_iload_n F 1 dL_does_0 rfl rfl ?_
  refine g_if_ne F (tgt := 26) dL_does_1 (by decide) (fun _ => ?_) (fun q => absurd q (by decide))
  refine g_iload_n F 1 dL_does_26 rfl rfl ?_
  refine g_iconst F dL_does_27 (v := 1) (by decide) ?_
  refine g_icmp_ne F (tgt := 53) dL_does_28 (by decide) (fun _ => ?_) (fun q => absurd q (by decide))
  refine g_iload_n F 1 dL_does_53 rfl rfl ?_
  refine g_iconst F dL_does_54 (v := 2) (by decide) ?_
  refine g_icmp_ne F (tgt := 69) dL_does_55 (by decide) (fun _ => ?_) (fun q => absurd q (by decide))
  refine g_iload_n F 1 dL_does_69 rfl rfl ?_
  refine g_iconst F dL_does_70 (v := 3) (by decide) ?_
  refine g_icmp_ne F (tgt := 87) dL_does_71 (by decide) (fun _ => ?_) (fun q => absurd q (by decide))
  refine g_iload_n F 1 dL_does_87 rfl rfl ?_
  refine g_iconst F dL_does_88 (v := 4) (by decide) ?_
  refine g_icmp_ne F (tgt := 100) dL_does_89 (by decide) (fun _ => ?_) (fun q => absurd q (by decide))
  refine g_iload_n F 1 dL_does_100 rfl rfl ?_
  refine g_iconst F dL_does_101 (v := 5) (by decide) ?_
  refine g_icmp_ne F (tgt := 114) dL_does_102 (by decide) (fun q => absurd rfl q) (fun _ => ?_)
  refine g_aload_n F 0 dL_does_105 rfl rfl ?_
  refine g_iload_n F 2 dL_does_106 rfl rfl ?_
  refine g_iload_n F 3 dL_does_107 rfl rfl ?_
  refine x_callVc F (C := RX5) (k := 10) (i := 0) (ci := 5) (T := TX5) (N := 4) (rest := []) [.int p0, .int p1] hM (cwV 2 F.1.2.2.2.2 gL_does_X5_setMode rfl rfl rfl (by decide +kernel) ⟨Nat.le_of_ble_eq_true rfl, Nat.le_of_ble_eq_true rfl⟩) rfl h10 he10 rfl rfl rfl (Nat.le_of_ble_eq_true rfl) dL_does_108 ⟨Nat.le_of_eq (Nat.zero_add _), Nat.le_of_eq (Nat.zero_add _)⟩ (fun E ce q9 hp hcl hv H1 locs1 ls1 hw1 hS1 hl1 hc1 => ?_) (fun v ad1 dm1 w2 hv => ?_)
  · rcases hpx E hp with rfl | rfl | rfl
    · refine c_catch F (hh := [(0, 163, 164, 52), (0, 163, 169, 54), (0, 163, 174, 56)]) htab [] ⟨0, 163, 164, 52⟩ [⟨0, 163, 169, 54⟩, ⟨0, 163, 174, 56⟩] rfl (fun z hz => absurd hz List.not_mem_nil) rfl (by decide) (by decide +kernel) (List.mem_of_getElem? (i := 3) rfl) hcl hv hw1 hS1 hl1 hc1 ?_
      refine g_astore F (lv1 := [(6, .ref q9), (0, .ref (ad 10 0)), (1, .int 5), (2, .int p0), (3, .int p1), (4, .int p2), (5, .int p3)]) dL_does_164 (by decide) rfl ?_
      refine g_bipush F dL_does_166 (v := -30) (by decide) ?_
      exact g_qi F hr hlocks (fun _ h => h) (.inr (.inl ⟨hp, rfl, rfl, rfl, rfl⟩)) (Nat.le_of_eq (Nat.zero_add _)) (Nat.le_of_eq (Nat.zero_add _)) dL_does_168
    · refine c_catch F (hh := [(0, 163, 164, 52), (0, 163, 169, 54), (0, 163, 174, 56)]) htab [⟨0, 163, 164, 52⟩] ⟨0, 163, 169, 54⟩ [⟨0, 163, 174, 56⟩] rfl (by intro z hz; simp only [List.mem_cons, List.not_mem_nil, or_false] at hz; subst hz; exact ⟨by decide, xIO, by decide +kernel, F.2.2.2.2.1.2.2.2.2.2.2.2.1⟩) rfl (by decide) (by decide +kernel) (List.mem_of_getElem? (i := 4) rfl) hcl hv hw1 hS1 hl1 hc1 ?_
      refine g_astore F (lv1 := [(6, .ref q9), (0, .ref (ad 10 0)), (1, .int 5), (2, .int p0), (3, .int p1), (4, .int p2), (5, .int p3)]) dL_does_169 (by decide) rfl ?_
      refine g_bipush F dL_does_171 (v := -20) (by decide) ?_
      exact g_qi F hr hlocks (fun _ h => h) (.inr (.inr (.inl ⟨hp, rfl, rfl, rfl, rfl⟩))) (Nat.le_of_eq (Nat.zero_add _)) (Nat.le_of_eq (Nat.zero_add _)) dL_does_173
    · refine c_catch F (hh := [(0, 163, 164, 52), (0, 163, 169, 54), (0, 163, 174, 56)]) htab [⟨0, 163, 164, 52⟩, ⟨0, 163, 169, 54⟩] ⟨0, 163, 174, 56⟩ [] rfl (by intro z hz; simp only [List.mem_cons, List.not_mem_nil, or_false] at hz; rcases hz with rfl | rfl; exact ⟨by decide, xIO, by decide +kernel, F.2.2.2.2.1.2.2.2.2.2.2.2.2.1⟩; exact ⟨by decide, xIA, by decide +kernel, F.2.2.2.2.1.2.2.2.2.2.2.2.2.2⟩) rfl (by decide) (by decide +kernel) (List.mem_of_getElem? (i := 5) rfl) hcl hv hw1 hS1 hl1 hc1 ?_
      refine g_astore F (lv1 := [(6, .ref q9), (0, .ref (ad 10 0)), (1, .int 5), (2, .int p0), (3, .int p1), (4, .int p2), (5, .int p3)]) dL_does_174 (by decide) rfl ?_
      refine g_bipush F dL_does_176 (v := -10) (by decide) ?_
      exact g_qi F hr hlocks (fun _ h => h) (.inr (.inr (.inr ⟨hp, rfl, rfl, rfl, rfl⟩))) (Nat.le_of_eq (Nat.zero_add _)) (Nat.le_of_eq (Nat.zero_add _)) dL_does_178
  · obtain ⟨x, rfl⟩ := hkeep _ _ _ _ hv
    refine g_st (st1 := [.int x]) rfl ?_
    refine g_goto F (tgt := 163) dL_does_111 (by decide) ?_
    exact g_qi F hr hlocks (fun _ h => h) (.inl hv) (Nat.le_of_eq (Nat.zero_add _)) (Nat.le_of_eq (Nat.zero_add _)) dL_does_163
set_option maxHeartbeats 4000000 in
set_option maxRecDepth 100000 in
theorem ld_setRoom (l : Launch) (D : va_G) (A : Nat → Prop) (cs : Nat → ClassId) (ad : Nat → Nat → Nat) (dm : Nat → Nat → Prop) (w : CF) (p0 p1 p2 p3 : Int32) {fs : List Value} {mc ms : Nat} {post : Option Value → (Nat → Nat → Nat) → (Nat → Nat → Prop) → CF → Prop} {px : String → Prop} (hM : vx_Met l yX5_setRoom wsX5_setRoom { frames := 7, cells := mc, slots := ms, locals := 112 } (va_Pc [.ref (ad 10 0), .int p0, .int p1] (PW D A (tysG cs) ad dm w)) (QW D A (tysG cs) post) (XW D A (tysG cs) ad dm w px) mc ms A) (h10 : dm 10 0) (he10 : w 10 0 = .inr (5, fs)) (hkeep : ∀ v ad1 dm1 w1, post v ad1 dm1 w1 → ∃ x : Int32, v = some (.int x)) (hpx : ∀ E, px E → E = xIO ∨ E = xIA ∨ E = xIS) : Met l yL_does wsL_does { frames := 8, cells := mc, slots := ms, locals := 136 } (va_Pc [.ref (ad 10 0), .int 6, .int p0, .int p1, .int p2, .int p3] (PW D A (tysG cs) ad dm w)) (QW D A (tysG cs) (fun rz ad1 dm1 w1 => post rz ad1 dm1 w1 ∨ (px xIO ∧ rz = some (.int (-30)) ∧ ad1 = ad ∧ dm1 = dm ∧ w1 = w) ∨ (px xIA ∧ rz = some (.int (-20)) ∧ ad1 = ad ∧ dm1 = dm ∧ w1 = w) ∨ (px xIS ∧ rz = some (.int (-10)) ∧ ad1 = ad ∧ dm1 = dm ∧ w1 = w))) mc ms A := by
  refine h_start (own := RL) (hh := [(0, 163, 164, 52), (0, 163, 169, 54), (0, 163, 174, 56)]) [.ref (ad 10 0), .int 6, .int p0, .int p1, .int p2, .int p3] (cc := cL_does) (maxL := 7) (ret := some .int) (lv0 := [(0, .ref (ad 10 0)), (1, .int 6), (2, .int p0), (3, .int p1), (4, .int p2), (5, .int p3)]) (by decide) rfl rfl (Nat.le_of_ble_eq_true rfl) rfl ?_
  intro p e s m below meth c F hr hlocks htab
  refine g_iload_n F 1 dL_does_0 rfl rfl ?_
  refine g_if_ne F (tgt := 26) dL_does_1 (by decide) (fun _ => ?_) (fun q => absurd q (by decide))
  refine g_iload_n F 1 dL_does_26 rfl rfl ?_
  refine g_iconst F dL_does_27 (v := 1) (by decide) ?_
  refine g_icmp_ne F (tgt := 53) dL_does_28 (by decide) (fun _ => ?_) (fun q => absurd q (by decide))
  refine g_iload_n F 1 dL_does_53 rfl rfl ?_
  refine g_iconst F dL_does_54 (v := 2) (by decide) ?_
  refine g_icmp_ne F (tgt := 69) dL_does_55 (by decide) (fun _ => ?_) (fun q => absurd q (by decide))
  refine g_iload_n F 1 dL_does_69 rfl rfl ?_
  refine g_iconst F dL_does_70 (v := 3) (by decide) ?_
  refine g_icmp_ne F (tgt := 87) dL_does_71 (by decide) (fun _ => ?_) (fun q => absurd q (by decide))
  refine g_iload_n F 1 dL_does_87 rfl rfl ?_
  refine g_iconst F dL_does_88 (v := 4) (by decide) ?_
  refine g_icmp_ne F (tgt := 100) dL_does_89 (by decide) (fun _ => ?_) (fun q => absurd q (by decide))
  refine g_iload_n F 1 dL_does_100 rfl rfl ?_
  refine g_iconst F dL_does_101 (v := 5) (by decide) ?_
  refine g_icmp_ne F (tgt := 114) dL_does_102 (by decide) (fun _ => ?_) (fun q => absurd q (by decide))
  refine g_iload_n F 1 dL_does_114 rfl rfl ?_
  refine g_bipush F dL_does_115 (v := 6) (by decide) ?_
  refine g_icmp_ne F (tgt := 129) dL_does_117 (by decide) (fun q => absurd rfl q) (fun _ => ?_)
  refine g_aload_n F 0 dL_does_120 rfl rfl ?_
  refine g_iload_n F 2 dL_does_121 rfl rfl ?_
  refine g_iload_n F 3 dL_does_122 rfl rfl ?_
  refine x_callVc F (C := RX5) (k := 10) (i := 0) (ci := 5) (T := TX5) (N := 4) (rest := []) [.int p0, .int p1] hM (cwV 2 F.1.2.2.2.2 gL_does_X5_setRoom rfl rfl rfl (by decide +kernel) ⟨Nat.le_of_ble_eq_true rfl, Nat.le_of_ble_eq_true rfl⟩) rfl h10 he10 rfl rfl rfl (Nat.le_of_ble_eq_true rfl) dL_does_123 ⟨Nat.le_of_eq (Nat.zero_add _), Nat.le_of_eq (Nat.zero_add _)⟩ (fun E ce q9 hp hcl hv H1 locs1 ls1 hw1 hS1 hl1 hc1 => ?_) (fun v ad1 dm1 w2 hv => ?_)
  · rcases hpx E hp with rfl | rfl | rfl
    · refine c_catch F (hh := [(0, 163, 164, 52), (0, 163, 169, 54), (0, 163, 174, 56)]) htab [] ⟨0, 163, 164, 52⟩ [⟨0, 163, 169, 54⟩, ⟨0, 163, 174, 56⟩] rfl (fun z hz => absurd hz List.not_mem_nil) rfl (by decide) (by decide +kernel) (List.mem_of_getElem? (i := 3) rfl) hcl hv hw1 hS1 hl1 hc1 ?_
      refine g_astore F (lv1 := [(6, .ref q9), (0, .ref (ad 10 0)), (1, .int 6), (2, .int p0), (3, .int p1), (4, .int p2), (5, .int p3)]) dL_does_164 (by decide) rfl ?_
      refine g_bipush F dL_does_166 (v := -30) (by decide) ?_
      exact g_qi F hr hlocks (fun _ h => h) (.inr (.inl ⟨hp, rfl, rfl, rfl, rfl⟩)) (Nat.le_of_eq (Nat.zero_add _)) (Nat.le_of_eq (Nat.zero_add _)) dL_does_168
    · refine c_catch F (hh := [(0, 163, 164, 52), (0, 163, 169, 54), (0, 163, 174, 56)]) htab [⟨0, 163, 164, 52⟩] ⟨0, 163, 169, 54⟩ [⟨0, 163, 174, 56⟩] rfl (by intro z hz; simp only [List.mem_cons, List.not_mem_nil, or_false] at hz; subst hz; exact ⟨by decide, xIO, by decide +kernel, F.2.2.2.2.1.2.2.2.2.2.2.2.1⟩) rfl (by decide) (by decide +kernel) (List.mem_of_getElem? (i := 4) rfl) hcl hv hw1 hS1 hl1 hc1 ?_
      refine g_astore F (lv1 := [(6, .ref q9), (0, .ref (ad 10 0)), (1, .int 6), (2, .int p0), (3, .int p1), (4, .int p2), (5, .int p3)]) dL_does_169 (by decide) rfl ?_
      refine g_bipush F dL_does_171 (v := -20) (by decide) ?_
      exact g_qi F hr hlocks (fun _ h => h) (.inr (.inr (.inl ⟨hp, rfl, rfl, rfl, rfl⟩))) (Nat.le_of_eq (Nat.zero_add _)) (Nat.le_of_eq (Nat.zero_add _)) dL_does_173
    · refine c_catch F (hh := [(0, 163, 164, 52), (0, 163, 169, 54), (0, 163, 174, 56)]) htab [⟨0, 163, 164, 52⟩, ⟨0, 163, 169, 54⟩] ⟨0, 163, 174, 56⟩ [] rfl (by intro z hz; simp only [List.mem_cons, List.not_mem_nil, or_false] at hz; rcases hz with rfl | rfl; exact ⟨by decide, xIO, by decide +kernel, F.2.2.2.2.1.2.2.2.2.2.2.2.2.1⟩; exact ⟨by decide, xIA, by decide +kernel, F.2.2.2.2.1.2.2.2.2.2.2.2.2.2⟩) rfl (by decide) (by decide +kernel) (List.mem_of_getElem? (i := 5) rfl) hcl hv hw1 hS1 hl1 hc1 ?_
      refine g_astore F (lv1 := [(6, .ref q9), (0, .ref (ad 10 0)), (1, .int 6), (2, .int p0), (3, .int p1), (4, .int p2), (5, .int p3)]) dL_does_174 (by decide) rfl ?_
      refine g_bipush F dL_does_176 (v := -10) (by decide) ?_
      exact g_qi F hr hlocks (fun _ h => h) (.inr (.inr (.inr ⟨hp, rfl, rfl, rfl, rfl⟩))) (Nat.le_of_eq (Nat.zero_add _)) (Nat.le_of_eq (Nat.zero_add _)) dL_does_178
  · obtain ⟨x, rfl⟩ := hkeep _ _ _ _ hv
    refine g_st (st1 := [.int x]) rfl ?_
    refine g_goto F (tgt := 163) dL_does_126 (by decide) ?_
    exact g_qi F hr hlocks (fun _ h => h) (.inl hv) (Nat.le_of_eq (Nat.zero_add _)) (Nat.le_of_eq (Nat.zero_add _)) dL_does_163
set_option maxHeartbeats 4000000 in
set_option maxRecDepth 100000 in
theorem ld_read (l : Launch) (D : va_G) (A : Nat → Prop) (cs : Nat → ClassId) (ad : Nat → Nat → Nat) (dm : Nat → Nat → Prop) (w : CF) (p0 p1 p2 p3 : Int32) {fs : List Value} {mc ms : Nat} {post : Option Value → (Nat → Nat → Nat) → (Nat → Nat → Prop) → CF → Prop} {px : String → Prop} (hM : vx_Met l yX5_read wsX5_read { frames := 7, cells := mc, slots := ms, locals := 112 } (va_Pc [.ref (ad 10 0), .int p0, .int p1] (PW D A (tysG cs) ad dm w)) (QW D A (tysG cs) post) (XW D A (tysG cs) ad dm w px) mc ms A) (h10 : dm 10 0) (he10 : w 10 0 = .inr (5, fs)) (hkeep : ∀ v ad1 dm1 w1, post v ad1 dm1 w1 → ∃ x : Int32, v = some (.int x)) (hpx : ∀ E, px E → E = xIO ∨ E = xIA ∨ E = xIS) : Met l yL_does wsL_does { frames := 8, cells := mc, slots := ms, locals := 135 } (va_Pc [.ref (ad 10 0), .int 7, .int p0, .int p1, .int p2, .int p3] (PW D A (tysG cs) ad dm w)) (QW D A (tysG cs) (fun rz ad1 dm1 w1 => post rz ad1 dm1 w1 ∨ (px xIO ∧ rz = some (.int (-30)) ∧ ad1 = ad ∧ dm1 = dm ∧ w1 = w) ∨ (px xIA ∧ rz = some (.int (-20)) ∧ ad1 = ad ∧ dm1 = dm ∧ w1 = w) ∨ (px xIS ∧ rz = some (.int (-10)) ∧ ad1 = ad ∧ dm1 = dm ∧ w1 = w))) mc ms A := by
  refine h_start (own := RL) (hh := [(0, 163, 164, 52), (0, 163, 169, 54), (0, 163, 174, 56)]) [.ref (ad 10 0), .int 7, .int p0, .int p1, .int p2, .int p3] (cc := cL_does) (maxL := 7) (ret := some .int) (lv0 := [(0, .ref (ad 10 0)), (1, .int 7), (2, .int p0), (3, .int p1), (4, .int p2), (5, .int p3)]) (by decide) rfl rfl (Nat.le_of_ble_eq_true rfl) rfl ?_
  intro p e s m below meth c F hr hlocks htab
  refine g_iload_n F 1 dL_does_0 rfl rfl ?_
  refine g_if_ne F (tgt := 26) dL_does_1 (by decide) (fun _ => ?_) (fun q => absurd q (by decide))
  refine g_iload_n F 1 dL_does_26 rfl rfl ?_
  refine g_iconst F dL_does_27 (v := 1) (by decide) ?_
  refine g_icmp_ne F (tgt := 53) dL_does_28 (by decide) (fun _ => ?_) (fun q => absurd q (by decide))
  refine g_iload_n F 1 dL_does_53 rfl rfl ?_
  refine g_iconst F dL_does_54 (v := 2) (by decide) ?_
  refine g_icmp_ne F (tgt := 69) dL_does_55 (by decide) (fun _ => ?_) (fun q => absurd q (by decide))
  refine g_iload_n F 1 dL_does_69 rfl rfl ?_
  refine g_iconst F dL_does_70 (v := 3) (by decide) ?_
  refine g_icmp_ne F (tgt := 87) dL_does_71 (by decide) (fun _ => ?_) (fun q => absurd q (by decide))
  refine g_iload_n F 1 dL_does_87 rfl rfl ?_
  refine g_iconst F dL_does_88 (v := 4) (by decide) ?_
  refine g_icmp_ne F (tgt := 100) dL_does_89 (by decide) (fun _ => ?_) (fun q => absurd q (by decide))
  refine g_iload_n F 1 dL_does_100 rfl rfl ?_
  refine g_iconst F dL_does_101 (v := 5) (by decide) ?_
  refine g_icmp_ne F (tgt := 114) dL_does_102 (by decide) (fun _ => ?_) (fun q => absurd q (by decide))
  refine g_iload_n F 1 dL_does_114 rfl rfl ?_
  refine g_bipush F dL_does_115 (v := 6) (by decide) ?_
  refine g_icmp_ne F (tgt := 129) dL_does_117 (by decide) (fun _ => ?_) (fun q => absurd q (by decide))
  refine g_iload_n F 1 dL_does_129 rfl rfl ?_
  refine g_bipush F dL_does_130 (v := 7) (by decide) ?_
  refine g_icmp_ne F (tgt := 144) dL_does_132 (by decide) (fun q => absurd rfl q) (fun _ => ?_)
  refine g_aload_n F 0 dL_does_135 rfl rfl ?_
  refine g_iload_n F 2 dL_does_136 rfl rfl ?_
  refine g_iload_n F 3 dL_does_137 rfl rfl ?_
  refine x_callVc F (C := RX5) (k := 10) (i := 0) (ci := 5) (T := TX5) (N := 4) (rest := []) [.int p0, .int p1] hM (cwV 2 F.1.2.2.2.2 gL_does_X5_read rfl rfl rfl (by decide +kernel) ⟨Nat.le_of_ble_eq_true rfl, Nat.le_of_ble_eq_true rfl⟩) rfl h10 he10 rfl rfl rfl (Nat.le_of_ble_eq_true rfl) dL_does_138 ⟨Nat.le_of_eq (Nat.zero_add _), Nat.le_of_eq (Nat.zero_add _)⟩ (fun E ce q9 hp hcl hv H1 locs1 ls1 hw1 hS1 hl1 hc1 => ?_) (fun v ad1 dm1 w2 hv => ?_)
  · rcases hpx E hp with rfl | rfl | rfl
    · refine c_catch F (hh := [(0, 163, 164, 52), (0, 163, 169, 54), (0, 163, 174, 56)]) htab [] ⟨0, 163, 164, 52⟩ [⟨0, 163, 169, 54⟩, ⟨0, 163, 174, 56⟩] rfl (fun z hz => absurd hz List.not_mem_nil) rfl (by decide) (by decide +kernel) (List.mem_of_getElem? (i := 3) rfl) hcl hv hw1 hS1 hl1 hc1 ?_
      refine g_astore F (lv1 := [(6, .ref q9), (0, .ref (ad 10 0)), (1, .int 7), (2, .int p0), (3, .int p1), (4, .int p2), (5, .int p3)]) dL_does_164 (by decide) rfl ?_
      refine g_bipush F dL_does_166 (v := -30) (by decide) ?_
      exact g_qi F hr hlocks (fun _ h => h) (.inr (.inl ⟨hp, rfl, rfl, rfl, rfl⟩)) (Nat.le_of_eq (Nat.zero_add _)) (Nat.le_of_eq (Nat.zero_add _)) dL_does_168
    · refine c_catch F (hh := [(0, 163, 164, 52), (0, 163, 169, 54), (0, 163, 174, 56)]) htab [⟨0, 163, 164, 52⟩] ⟨0, 163, 169, 54⟩ [⟨0, 163, 174, 56⟩] rfl (by intro z hz; simp only [List.mem_cons, List.not_mem_nil, or_false] at hz; subst hz; exact ⟨by decide, xIO, by decide +kernel, F.2.2.2.2.1.2.2.2.2.2.2.2.1⟩) rfl (by decide) (by decide +kernel) (List.mem_of_getElem? (i := 4) rfl) hcl hv hw1 hS1 hl1 hc1 ?_
      refine g_astore F (lv1 := [(6, .ref q9), (0, .ref (ad 10 0)), (1, .int 7), (2, .int p0), (3, .int p1), (4, .int p2), (5, .int p3)]) dL_does_169 (by decide) rfl ?_
      refine g_bipush F dL_does_171 (v := -20) (by decide) ?_
      exact g_qi F hr hlocks (fun _ h => h) (.inr (.inr (.inl ⟨hp, rfl, rfl, rfl, rfl⟩))) (Nat.le_of_eq (Nat.zero_add _)) (Nat.le_of_eq (Nat.zero_add _)) dL_does_173
    · refine c_catch F (hh := [(0, 163, 164, 52), (0, 163, 169, 54), (0, 163, 174, 56)]) htab [⟨0, 163, 164, 52⟩, ⟨0, 163, 169, 54⟩] ⟨0, 163, 174, 56⟩ [] rfl (by intro z hz; simp only [List.mem_cons, List.not_mem_nil, or_false] at hz; rcases hz with rfl | rfl; exact ⟨by decide, xIO, by decide +kernel, F.2.2.2.2.1.2.2.2.2.2.2.2.2.1⟩; exact ⟨by decide, xIA, by decide +kernel, F.2.2.2.2.1.2.2.2.2.2.2.2.2.2⟩) rfl (by decide) (by decide +kernel) (List.mem_of_getElem? (i := 5) rfl) hcl hv hw1 hS1 hl1 hc1 ?_
      refine g_astore F (lv1 := [(6, .ref q9), (0, .ref (ad 10 0)), (1, .int 7), (2, .int p0), (3, .int p1), (4, .int p2), (5, .int p3)]) dL_does_174 (by decide) rfl ?_
      refine g_bipush F dL_does_176 (v := -10) (by decide) ?_
      exact g_qi F hr hlocks (fun _ h => h) (.inr (.inr (.inr ⟨hp, rfl, rfl, rfl, rfl⟩))) (Nat.le_of_eq (Nat.zero_add _)) (Nat.le_of_eq (Nat.zero_add _)) dL_does_178
  · obtain ⟨x, rfl⟩ := hkeep _ _ _ _ hv
    refine g_st (st1 := [.int x]) rfl ?_
    refine g_goto F (tgt := 163) dL_does_141 (by decide) ?_
    exact g_qi F hr hlocks (fun _ h => h) (.inl hv) (Nat.le_of_eq (Nat.zero_add _)) (Nat.le_of_eq (Nat.zero_add _)) dL_does_163
set_option maxHeartbeats 4000000 in
set_option maxRecDepth 100000 in
theorem ld_pass (l : Launch) (D : va_G) (A : Nat → Prop) (cs : Nat → ClassId) (ad : Nat → Nat → Nat) (dm : Nat → Nat → Prop) (w : CF) (p0 p1 p2 p3 : Int32) {fs : List Value} {mc ms : Nat} {post : Option Value → (Nat → Nat → Nat) → (Nat → Nat → Prop) → CF → Prop} {px : String → Prop} (hM : vx_Met l yX5_pass wsX5_pass { frames := 10, cells := mc, slots := ms, locals := 306 } (va_Pc [.ref (ad 10 0), .int p0] (PW D A (tysG cs) ad dm w)) (QW D A (tysG cs) post) (XW D A (tysG cs) ad dm w px) mc ms A) (h10 : dm 10 0) (he10 : w 10 0 = .inr (5, fs)) (hkeep : ∀ v ad1 dm1 w1, post v ad1 dm1 w1 → ∃ x : Int32, v = some (.int x)) (hpx : ∀ E, px E → E = xIO ∨ E = xIA ∨ E = xIS) : Met l yL_does wsL_does { frames := 11, cells := mc, slots := ms, locals := 330 } (va_Pc [.ref (ad 10 0), .int 8, .int p0, .int p1, .int p2, .int p3] (PW D A (tysG cs) ad dm w)) (QW D A (tysG cs) (fun rz ad1 dm1 w1 => post rz ad1 dm1 w1 ∨ (px xIO ∧ rz = some (.int (-30)) ∧ ad1 = ad ∧ dm1 = dm ∧ w1 = w) ∨ (px xIA ∧ rz = some (.int (-20)) ∧ ad1 = ad ∧ dm1 = dm ∧ w1 = w) ∨ (px xIS ∧ rz = some (.int (-10)) ∧ ad1 = ad ∧ dm1 = dm ∧ w1 = w))) mc ms A := by
  refine h_start (own := RL) (hh := [(0, 163, 164, 52), (0, 163, 169, 54), (0, 163, 174, 56)]) [.ref (ad 10 0), .int 8, .int p0, .int p1, .int p2, .int p3] (cc := cL_does) (maxL := 7) (ret := some .int) (lv0 := [(0, .ref (ad 10 0)), (1, .int 8), (2, .int p0), (3, .int p1), (4, .int p2), (5, .int p3)]) (by decide) rfl rfl (Nat.le_of_ble_eq_true rfl) rfl ?_
  intro p e s m below meth c F hr hlocks htab
  refine g_iload_n F 1 dL_does_0 rfl rfl ?_
  refine g_if_ne F (tgt := 26) dL_does_1 (by decide) (fun _ => ?_) (fun q => absurd q (by decide))
  refine g_iload_n F 1 dL_does_26 rfl rfl ?_
  refine g_iconst F dL_does_27 (v := 1) (by decide) ?_
  refine g_icmp_ne F (tgt := 53) dL_does_28 (by decide) (fun _ => ?_) (fun q => absurd q (by decide))
  refine g_iload_n F 1 dL_does_53 rfl rfl ?_
  refine g_iconst F dL_does_54 (v := 2) (by decide) ?_
  refine g_icmp_ne F (tgt := 69) dL_does_55 (by decide) (fun _ => ?_) (fun q => absurd q (by decide))
  refine g_iload_n F 1 dL_does_69 rfl rfl ?_
  refine g_iconst F dL_does_70 (v := 3) (by decide) ?_
  refine g_icmp_ne F (tgt := 87) dL_does_71 (by decide) (fun _ => ?_) (fun q => absurd q (by decide))
  refine g_iload_n F 1 dL_does_87 rfl rfl ?_
  refine g_iconst F dL_does_88 (v := 4) (by decide) ?_
  refine g_icmp_ne F (tgt := 100) dL_does_89 (by decide) (fun _ => ?_) (fun q => absurd q (by decide))
  refine g_iload_n F 1 dL_does_100 rfl rfl ?_
  refine g_iconst F dL_does_101 (v := 5) (by decide) ?_
  refine g_icmp_ne F (tgt := 114) dL_does_102 (by decide) (fun _ => ?_) (fun q => absurd q (by decide))
  refine g_iload_n F 1 dL_does_114 rfl rfl ?_
  refine g_bipush F dL_does_115 (v := 6) (by decide) ?_
  refine g_icmp_ne F (tgt := 129) dL_does_117 (by decide) (fun _ => ?_) (fun q => absurd q (by decide))
  refine g_iload_n F 1 dL_does_129 rfl rfl ?_
  refine g_bipush F dL_does_130 (v := 7) (by decide) ?_
  refine g_icmp_ne F (tgt := 144) dL_does_132 (by decide) (fun _ => ?_) (fun q => absurd q (by decide))
  refine g_iload_n F 1 dL_does_144 rfl rfl ?_
  refine g_bipush F dL_does_145 (v := 8) (by decide) ?_
  refine g_icmp_ne F (tgt := 158) dL_does_147 (by decide) (fun q => absurd rfl q) (fun _ => ?_)
  refine g_aload_n F 0 dL_does_150 rfl rfl ?_
  refine g_iload_n F 2 dL_does_151 rfl rfl ?_
  refine x_callVc F (C := RX5) (k := 10) (i := 0) (ci := 5) (T := TX5) (N := 4) (rest := []) [.int p0] hM (cwV 1 F.1.2.2.2.2 gL_does_X5_pass rfl rfl rfl (by decide +kernel) ⟨Nat.le_of_ble_eq_true rfl, Nat.le_of_ble_eq_true rfl⟩) rfl h10 he10 rfl rfl rfl (Nat.le_of_ble_eq_true rfl) dL_does_152 ⟨Nat.le_of_eq (Nat.zero_add _), Nat.le_of_eq (Nat.zero_add _)⟩ (fun E ce q9 hp hcl hv H1 locs1 ls1 hw1 hS1 hl1 hc1 => ?_) (fun v ad1 dm1 w2 hv => ?_)
  · rcases hpx E hp with rfl | rfl | rfl
    · refine c_catch F (hh := [(0, 163, 164, 52), (0, 163, 169, 54), (0, 163, 174, 56)]) htab [] ⟨0, 163, 164, 52⟩ [⟨0, 163, 169, 54⟩, ⟨0, 163, 174, 56⟩] rfl (fun z hz => absurd hz List.not_mem_nil) rfl (by decide) (by decide +kernel) (List.mem_of_getElem? (i := 3) rfl) hcl hv hw1 hS1 hl1 hc1 ?_
      refine g_astore F (lv1 := [(6, .ref q9), (0, .ref (ad 10 0)), (1, .int 8), (2, .int p0), (3, .int p1), (4, .int p2), (5, .int p3)]) dL_does_164 (by decide) rfl ?_
      refine g_bipush F dL_does_166 (v := -30) (by decide) ?_
      exact g_qi F hr hlocks (fun _ h => h) (.inr (.inl ⟨hp, rfl, rfl, rfl, rfl⟩)) (Nat.le_of_eq (Nat.zero_add _)) (Nat.le_of_eq (Nat.zero_add _)) dL_does_168
    · refine c_catch F (hh := [(0, 163, 164, 52), (0, 163, 169, 54), (0, 163, 174, 56)]) htab [⟨0, 163, 164, 52⟩] ⟨0, 163, 169, 54⟩ [⟨0, 163, 174, 56⟩] rfl (by intro z hz; simp only [List.mem_cons, List.not_mem_nil, or_false] at hz; subst hz; exact ⟨by decide, xIO, by decide +kernel, F.2.2.2.2.1.2.2.2.2.2.2.2.1⟩) rfl (by decide) (by decide +kernel) (List.mem_of_getElem? (i := 4) rfl) hcl hv hw1 hS1 hl1 hc1 ?_
      refine g_astore F (lv1 := [(6, .ref q9), (0, .ref (ad 10 0)), (1, .int 8), (2, .int p0), (3, .int p1), (4, .int p2), (5, .int p3)]) dL_does_169 (by decide) rfl ?_
      refine g_bipush F dL_does_171 (v := -20) (by decide) ?_
      exact g_qi F hr hlocks (fun _ h => h) (.inr (.inr (.inl ⟨hp, rfl, rfl, rfl, rfl⟩))) (Nat.le_of_eq (Nat.zero_add _)) (Nat.le_of_eq (Nat.zero_add _)) dL_does_173
    · refine c_catch F (hh := [(0, 163, 164, 52), (0, 163, 169, 54), (0, 163, 174, 56)]) htab [⟨0, 163, 164, 52⟩, ⟨0, 163, 169, 54⟩] ⟨0, 163, 174, 56⟩ [] rfl (by intro z hz; simp only [List.mem_cons, List.not_mem_nil, or_false] at hz; rcases hz with rfl | rfl; exact ⟨by decide, xIO, by decide +kernel, F.2.2.2.2.1.2.2.2.2.2.2.2.2.1⟩; exact ⟨by decide, xIA, by decide +kernel, F.2.2.2.2.1.2.2.2.2.2.2.2.2.2⟩) rfl (by decide) (by decide +kernel) (List.mem_of_getElem? (i := 5) rfl) hcl hv hw1 hS1 hl1 hc1 ?_
      refine g_astore F (lv1 := [(6, .ref q9), (0, .ref (ad 10 0)), (1, .int 8), (2, .int p0), (3, .int p1), (4, .int p2), (5, .int p3)]) dL_does_174 (by decide) rfl ?_
      refine g_bipush F dL_does_176 (v := -10) (by decide) ?_
      exact g_qi F hr hlocks (fun _ h => h) (.inr (.inr (.inr ⟨hp, rfl, rfl, rfl, rfl⟩))) (Nat.le_of_eq (Nat.zero_add _)) (Nat.le_of_eq (Nat.zero_add _)) dL_does_178
  · obtain ⟨x, rfl⟩ := hkeep _ _ _ _ hv
    refine g_st (st1 := [.int x]) rfl ?_
    refine g_goto F (tgt := 163) dL_does_155 (by decide) ?_
    exact g_qi F hr hlocks (fun _ h => h) (.inl hv) (Nat.le_of_eq (Nat.zero_add _)) (Nat.le_of_eq (Nat.zero_add _)) dL_does_163
set_option maxHeartbeats 4000000 in
set_option maxRecDepth 100000 in
theorem ld_takeReceipt (l : Launch) (D : va_G) (A : Nat → Prop) (cs : Nat → ClassId) (ad : Nat → Nat → Nat) (dm : Nat → Nat → Prop) (w : CF) (p0 p1 p2 p3 : Int32) {fs : List Value} {mc ms : Nat} {post : Option Value → (Nat → Nat → Nat) → (Nat → Nat → Prop) → CF → Prop} {px : String → Prop} (hM : vx_Met l yX5_takeReceipt wsX5_takeReceipt { frames := 7, cells := mc, slots := ms, locals := 111 } (va_Pc [.ref (ad 10 0), .int p0] (PW D A (tysG cs) ad dm w)) (QW D A (tysG cs) post) (XW D A (tysG cs) ad dm w px) mc ms A) (h10 : dm 10 0) (he10 : w 10 0 = .inr (5, fs)) (hkeep : ∀ v ad1 dm1 w1, post v ad1 dm1 w1 → ∃ x : Int32, v = some (.int x)) (hpx : ∀ E, px E → E = xIO ∨ E = xIA ∨ E = xIS) : Met l yL_does wsL_does { frames := 8, cells := mc, slots := ms, locals := 134 } (va_Pc [.ref (ad 10 0), .int 9, .int p0, .int p1, .int p2, .int p3] (PW D A (tysG cs) ad dm w)) (QW D A (tysG cs) (fun rz ad1 dm1 w1 => post rz ad1 dm1 w1 ∨ (px xIO ∧ rz = some (.int (-30)) ∧ ad1 = ad ∧ dm1 = dm ∧ w1 = w) ∨ (px xIA ∧ rz = some (.int (-20)) ∧ ad1 = ad ∧ dm1 = dm ∧ w1 = w) ∨ (px xIS ∧ rz = some (.int (-10)) ∧ ad1 = ad ∧ dm1 = dm ∧ w1 = w))) mc ms A := by
  refine h_start (own := RL) (hh := [(0, 163, 164, 52), (0, 163, 169, 54), (0, 163, 174, 56)]) [.ref (ad 10 0), .int 9, .int p0, .int p1, .int p2, .int p3] (cc := cL_does) (maxL := 7) (ret := some .int) (lv0 := [(0, .ref (ad 10 0)), (1, .int 9), (2, .int p0), (3, .int p1), (4, .int p2), (5, .int p3)]) (by decide) rfl rfl (Nat.le_of_ble_eq_true rfl) rfl ?_
  intro p e s m below meth c F hr hlocks htab
  refine g_iload_n F 1 dL_does_0 rfl rfl ?_
  refine g_if_ne F (tgt := 26) dL_does_1 (by decide) (fun _ => ?_) (fun q => absurd q (by decide))
  refine g_iload_n F 1 dL_does_26 rfl rfl ?_
  refine g_iconst F dL_does_27 (v := 1) (by decide) ?_
  refine g_icmp_ne F (tgt := 53) dL_does_28 (by decide) (fun _ => ?_) (fun q => absurd q (by decide))
  refine g_iload_n F 1 dL_does_53 rfl rfl ?_
  refine g_iconst F dL_does_54 (v := 2) (by decide) ?_
  refine g_icmp_ne F (tgt := 69) dL_does_55 (by decide) (fun _ => ?_) (fun q => absurd q (by decide))
  refine g_iload_n F 1 dL_does_69 rfl rfl ?_
  refine g_iconst F dL_does_70 (v := 3) (by decide) ?_
  refine g_icmp_ne F (tgt := 87) dL_does_71 (by decide) (fun _ => ?_) (fun q => absurd q (by decide))
  refine g_iload_n F 1 dL_does_87 rfl rfl ?_
  refine g_iconst F dL_does_88 (v := 4) (by decide) ?_
  refine g_icmp_ne F (tgt := 100) dL_does_89 (by decide) (fun _ => ?_) (fun q => absurd q (by decide))
  refine g_iload_n F 1 dL_does_100 rfl rfl ?_
  refine g_iconst F dL_does_101 (v := 5) (by decide) ?_
  refine g_icmp_ne F (tgt := 114) dL_does_102 (by decide) (fun _ => ?_) (fun q => absurd q (by decide))
  refine g_iload_n F 1 dL_does_114 rfl rfl ?_
  refine g_bipush F dL_does_115 (v := 6) (by decide) ?_
  refine g_icmp_ne F (tgt := 129) dL_does_117 (by decide) (fun _ => ?_) (fun q => absurd q (by decide))
  refine g_iload_n F 1 dL_does_129 rfl rfl ?_
  refine g_bipush F dL_does_130 (v := 7) (by decide) ?_
  refine g_icmp_ne F (tgt := 144) dL_does_132 (by decide) (fun _ => ?_) (fun q => absurd q (by decide))
  refine g_iload_n F 1 dL_does_144 rfl rfl ?_
  refine g_bipush F dL_does_145 (v := 8) (by decide) ?_
  refine g_icmp_ne F (tgt := 158) dL_does_147 (by decide) (fun _ => ?_) (fun q => absurd q (by decide))
  refine g_aload_n F 0 dL_does_158 rfl rfl ?_
  refine g_iload_n F 2 dL_does_159 rfl rfl ?_
  refine x_callVc F (C := RX5) (k := 10) (i := 0) (ci := 5) (T := TX5) (N := 4) (rest := []) [.int p0] hM (cwV 1 F.1.2.2.2.2 gL_does_X5_takeReceipt rfl rfl rfl (by decide +kernel) ⟨Nat.le_of_ble_eq_true rfl, Nat.le_of_ble_eq_true rfl⟩) rfl h10 he10 rfl rfl rfl (Nat.le_of_ble_eq_true rfl) dL_does_160 ⟨Nat.le_of_eq (Nat.zero_add _), Nat.le_of_eq (Nat.zero_add _)⟩ (fun E ce q9 hp hcl hv H1 locs1 ls1 hw1 hS1 hl1 hc1 => ?_) (fun v ad1 dm1 w2 hv => ?_)
  · rcases hpx E hp with rfl | rfl | rfl
    · refine c_catch F (hh := [(0, 163, 164, 52), (0, 163, 169, 54), (0, 163, 174, 56)]) htab [] ⟨0, 163, 164, 52⟩ [⟨0, 163, 169, 54⟩, ⟨0, 163, 174, 56⟩] rfl (fun z hz => absurd hz List.not_mem_nil) rfl (by decide) (by decide +kernel) (List.mem_of_getElem? (i := 3) rfl) hcl hv hw1 hS1 hl1 hc1 ?_
      refine g_astore F (lv1 := [(6, .ref q9), (0, .ref (ad 10 0)), (1, .int 9), (2, .int p0), (3, .int p1), (4, .int p2), (5, .int p3)]) dL_does_164 (by decide) rfl ?_
      refine g_bipush F dL_does_166 (v := -30) (by decide) ?_
      exact g_qi F hr hlocks (fun _ h => h) (.inr (.inl ⟨hp, rfl, rfl, rfl, rfl⟩)) (Nat.le_of_eq (Nat.zero_add _)) (Nat.le_of_eq (Nat.zero_add _)) dL_does_168
    · refine c_catch F (hh := [(0, 163, 164, 52), (0, 163, 169, 54), (0, 163, 174, 56)]) htab [⟨0, 163, 164, 52⟩] ⟨0, 163, 169, 54⟩ [⟨0, 163, 174, 56⟩] rfl (by intro z hz; simp only [List.mem_cons, List.not_mem_nil, or_false] at hz; subst hz; exact ⟨by decide, xIO, by decide +kernel, F.2.2.2.2.1.2.2.2.2.2.2.2.1⟩) rfl (by decide) (by decide +kernel) (List.mem_of_getElem? (i := 4) rfl) hcl hv hw1 hS1 hl1 hc1 ?_
      refine g_astore F (lv1 := [(6, .ref q9), (0, .ref (ad 10 0)), (1, .int 9), (2, .int p0), (3, .int p1), (4, .int p2), (5, .int p3)]) dL_does_169 (by decide) rfl ?_
      refine g_bipush F dL_does_171 (v := -20) (by decide) ?_
      exact g_qi F hr hlocks (fun _ h => h) (.inr (.inr (.inl ⟨hp, rfl, rfl, rfl, rfl⟩))) (Nat.le_of_eq (Nat.zero_add _)) (Nat.le_of_eq (Nat.zero_add _)) dL_does_173
    · refine c_catch F (hh := [(0, 163, 164, 52), (0, 163, 169, 54), (0, 163, 174, 56)]) htab [⟨0, 163, 164, 52⟩, ⟨0, 163, 169, 54⟩] ⟨0, 163, 174, 56⟩ [] rfl (by intro z hz; simp only [List.mem_cons, List.not_mem_nil, or_false] at hz; rcases hz with rfl | rfl; exact ⟨by decide, xIO, by decide +kernel, F.2.2.2.2.1.2.2.2.2.2.2.2.2.1⟩; exact ⟨by decide, xIA, by decide +kernel, F.2.2.2.2.1.2.2.2.2.2.2.2.2.2⟩) rfl (by decide) (by decide +kernel) (List.mem_of_getElem? (i := 5) rfl) hcl hv hw1 hS1 hl1 hc1 ?_
      refine g_astore F (lv1 := [(6, .ref q9), (0, .ref (ad 10 0)), (1, .int 9), (2, .int p0), (3, .int p1), (4, .int p2), (5, .int p3)]) dL_does_174 (by decide) rfl ?_
      refine g_bipush F dL_does_176 (v := -10) (by decide) ?_
      exact g_qi F hr hlocks (fun _ h => h) (.inr (.inr (.inr ⟨hp, rfl, rfl, rfl, rfl⟩))) (Nat.le_of_eq (Nat.zero_add _)) (Nat.le_of_eq (Nat.zero_add _)) dL_does_178
  · obtain ⟨x, rfl⟩ := hkeep _ _ _ _ hv
    refine g_st (st1 := [.int x]) rfl ?_
    exact g_qi F hr hlocks (fun _ h => h) (.inl hv) (Nat.le_of_eq (Nat.zero_add _)) (Nat.le_of_eq (Nat.zero_add _)) dL_does_163
