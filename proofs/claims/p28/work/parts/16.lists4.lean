theorem cX_add {ad : Nat → Nat → Nat} (xs : List Nat) (j : Nat) : va_up (cX ad xs) xs.length (some (ad 17 j)) = cX ad (xs ++ [j]) := by
  funext k
  by_cases hk : k = xs.length
  · subst hk
    rw [va_up_self]
    unfold cX
    rw [List.getElem?_append_right (Nat.le_refl _), Nat.sub_self]
    rfl
  · rw [va_up_ne _ _ hk]
    unfold cX
    rcases Nat.lt_or_ge k xs.length with h | h
    · rw [List.getElem?_append_left h]
    · rw [List.getElem?_eq_none h, List.getElem?_eq_none (by rw [List.length_append]; show xs.length + 1 ≤ k; omega)]
theorem CD.grow {dm : Nat → Nat → Prop} {n tq i c2 : Nat} {cap : Nat → Nat} (h : CD dm n cap tq) : CD (fun a b => dm a b ∨ (a = 16 ∧ b = i)) n (va_up cap i c2) tq := by
  obtain ⟨h1, h2, h3, h4, h5, h6, h7, h8, h9⟩ := h
  refine ⟨.inl h1, .inl h2, .inl h3, fun k hk => .inl (h4 k hk), fun k hk => .inl (h5 k hk), fun k hk => .inl (h6 k hk), fun k hk hc => ?_, fun j hj => ⟨.inl (h8 j hj).1, .inl (h8 j hj).2.1, .inl (h8 j hj).2.2.1, .inl (h8 j hj).2.2.2⟩, fun t ht => .inl (h9 t ht)⟩
  by_cases hki : k = i
  · exact .inr ⟨rfl, hki⟩
  · rw [va_up_ne _ _ hki] at hc
    exact .inl (h7 k hk hc)
set_option maxHeartbeats 4000000 in
set_option maxRecDepth 100000 in
theorem ca_addTail {p : Program} {l : Launch} {e : Env} {R : Room} {s : State} {m : MethodId} {args : Array Value} {below : List Frame} {meth : Method} {c : Code} {cells slots : Nat} {D : va_G} {A : Nat → Prop} {cs : Nat → ClassId} {ad : Nat → Nat → Nat} {dm : Nat → Nat → Prop} {σ : SG} {Lx : Nat → List Nat} {cap : Nat → Nat} {mk : Nat → Int32} {ev : SG} {zl tx mt tn : Nat → Nat} {tc : SG} {w0 : CF} {n tq i j : Nat} {post : Option Value → (Nat → Nat → Nat) → (Nat → Nat → Prop) → CF → Prop} (F : FX p s m args c cJx4a65c_add_72be8 4 wsJx4a65c_add_72be8 RJx4a65c D A (tysG cs)) (hr : meth.sig.returnType = none) (hlocks : meth.locks = false) (hC : CD dm n cap tq) (h16 : dm 16 i) (hi : i < 11) (hj : j < n) (hlt : (Lx i).length < cap i) (h60 : cap i ≤ 60) (hc1 : cells ≤ 1) (hs1 : slots ≤ 60) (hp : post none ad dm (cw D ad cs σ (va_up Lx i (Lx i ++ [j])) cap mk ev zl tx mt tn tc w0)) :
    GG p l e R s m args below meth c D A ad dm 4 cells slots (MQ below (QW D A (tysG cs) post) args s 1 60 A) (cw D ad cs σ Lx cap mk ev zl tx mt tn tc w0) 11 [(0, .ref (ad 15 i)), (1, .ref (ad 17 j)), (2, .ref (ad 16 i)), (3, .int (nI (Lx i).length))] [] := by
  have hin : ∀ w ∈ wsJx4a65c0, w ∈ wsJx4a65c_add_72be8 := by decide +kernel
  refine g_aload_n F 2 dJx4a65c_add_72be8_11 rfl rfl ?_
  refine g_iload_n F 3 dJx4a65c_add_72be8_12 rfl rfl ?_
  refine g_aload_n F 1 dJx4a65c_add_72be8_13 rfl rfl ?_
  refine g_astO (k := 16) (i := i) (k2 := 17) (i2 := j) (n := cap i) (f := cX ad (Lx i)) (E := "java/lang/Object") (r := (RX3, TX3, 16)) (ci := 3) (cA := cs 5) (t0 := 5) F h16 rfl rfl F.2.2.2.2.1.2.2.2.2.2.1 (hC.2.2.2.2.2.2.2.1 j hj).1 rfl rfl (vp_in_nI hlt (by omega)) dJx4a65c_add_72be8_14 ?_
  refine g_aload_n F 0 dJx4a65c_add_72be8_15 rfl rfl ?_
  refine g_iload_n F 3 dJx4a65c_add_72be8_16 rfl rfl ?_
  refine g_iconst F dJx4a65c_add_72be8_17 (v := 1) (by decide) ?_
  refine g_iadd F dJx4a65c_add_72be8_18 ?_
  refine g_putf (k := 15) (i := i) (ci := 0) (C := RJx4a65c) (T := TJx4a65c) (N := 3) (fs := cL D ad Lx cap mk i) (fk := 2) (v := .int (nI (Lx i).length + 1)) (ty := .int) (tf := tyJx4a65c) F hin tyJx4a65c_ok nmJx4a65c (hC.2.2.2.2.2.1 i hi) ((up2_ne _ _ (fun h => absurd h.1 (by decide))).trans rfl) rfl (by decide) (by decide +kernel) rfl rfl (by decide +kernel) rfl rfl (show 2 < 3 by decide) dJx4a65c_add_72be8_19 ?_
  refine g_w (w1 := cw D ad cs σ (va_up Lx i (Lx i ++ [j])) cap mk ev zl tx mt tn tc w0) ?_ (g_qv F hr hlocks (fun _ h => h) hp hc1 hs1 dJx4a65c_add_72be8_22)
  refine (cw_ls (Lx i ++ [j]) ?_ ?_ ?_).symm
  · rw [up2_self]
    unfold cL
    simp only [va_up_self]
    rw [List.length_append, nI_1]
    rfl
  · rw [up2_ne _ _ (fun h => absurd h.1 (by decide)), up2_self, nI_clamp (by omega), cX_add]
  · intro x y hxy
    rw [up2_ne _ _ (fun h => hxy ⟨.inl h.1, h.2⟩), up2_ne _ _ (fun h => hxy ⟨.inr h.1, h.2⟩)]
set_option maxHeartbeats 4000000 in
set_option maxRecDepth 100000 in
theorem cl_add3 (l : Launch) (D : va_G) (A : Nat → Prop) (cs : Nat → ClassId) (ad : Nat → Nat → Nat) (dm : Nat → Nat → Prop) (σ : SG) (Lx : Nat → List Nat) (cap : Nat → Nat) (mk : Nat → Int32) (ev : SG) (zl tx mt tn : Nat → Nat) (tc : SG) (w0 : CF) (n tq : Nat) (hC : CD dm n cap tq) (i j : Nat) (hn22 : ¬ dm 22 0) (hi : i < 11) (hj : j < n) (hlc : (Lx i).length ≤ cap i) (hc60 : cap i ≤ 60) (h39 : (Lx i).length ≤ 39) (hLn : ∀ j ∈ Lx i, j < n) : Met l yJx4a65c_add_72be8 wsJx4a65c_add_72be8 ({ frames := 5, cells := 1, slots := 60, locals := 190 }) (va_Pc [.ref (ad 15 i), .ref (ad 17 j), .ref (cE D ad cap i), .int (nI (Lx i).length)] (PW D A (tysG cs) ad dm (cw D ad cs σ Lx cap mk ev zl tx mt tn tc w0))) (QW D A (tysG cs) (fun r ad1 dm1 w1 => ∃ q c2, r = none ∧ ad1 = up2 ad 16 i q ∧ dm1 = (fun a b => dm a b ∨ (a = 16 ∧ b = i)) ∧ (Lx i).length + 1 ≤ c2 ∧ c2 ≤ 60 ∧ w1 = cw D (up2 ad 16 i q) cs σ (va_up Lx i (Lx i ++ [j])) (va_up cap i c2) mk ev zl tx mt tn tc w0)) 1 60 A := by
  refine g_start (own := RJx4a65c) [.ref (ad 15 i), .ref (ad 17 j), .ref (cE D ad cap i), .int (nI (Lx i).length)] (cc := cJx4a65c_add_72be8) (maxL := 4) (ret := none) (lv0 := [(0, .ref (ad 15 i)), (1, .ref (ad 17 j)), (2, .ref (cE D ad cap i)), (3, .int (nI (Lx i).length))]) (by decide) rfl rfl (Nat.le_of_ble_eq_true rfl) rfl ?_
  intro p e s m below meth c F hr hlocks hname
  have hin : ∀ w ∈ wsJx4a65c0, w ∈ wsJx4a65c_add_72be8 := by decide +kernel
  refine g_iload_n F 3 dJx4a65c_add_72be8_0 rfl rfl ?_
  refine g_aload_n F 2 dJx4a65c_add_72be8_1 rfl rfl ?_
  refine ca_elen (i := i) F hC hi dJx4a65c_add_72be8_2 ?_
  refine g_icmp_ne F (tgt := 11) dJx4a65c_add_72be8_3 (by decide) (fun c1 => ?_) (fun c1 => ?_)
  · have hlt : (Lx i).length < cap i := by
      rcases Nat.lt_or_ge (Lx i).length (cap i) with h | h
      · exact h
      · exact absurd (by rw [show (Lx i).length = cap i by omega]) c1
    have h16 := hC.2.2.2.2.2.2.1 i hi (show 0 < cap i by omega)
    have hE : cE D ad cap i = ad 16 i := if_neg (by omega)
    have hdm : dm = (fun a b => dm a b ∨ (a = 16 ∧ b = i)) := by
      funext a b
      exact propext ⟨.inl, fun h => h.elim id (fun z => by rw [z.1, z.2]; exact h16)⟩
    have ht := ca_addTail (l := l) (e := e) (R := { frames := 5, cells := 1, slots := 60, locals := 190 }) (below := below) (cells := 0) (slots := 0) (ad := ad) (cap := cap) (i := i) (j := j) (σ := σ) (Lx := Lx) (mk := mk) (ev := ev) (zl := zl) (tx := tx) (mt := mt) (tn := tn) (tc := tc) (w0 := w0) (post := (fun r ad1 dm1 w1 => ∃ q c2, r = none ∧ ad1 = up2 ad 16 i q ∧ dm1 = (fun a b => dm a b ∨ (a = 16 ∧ b = i)) ∧ (Lx i).length + 1 ≤ c2 ∧ c2 ≤ 60 ∧ w1 = cw D (up2 ad 16 i q) cs σ (va_up Lx i (Lx i ++ [j])) (va_up cap i c2) mk ev zl tx mt tn tc w0)) F hr hlocks hC h16 hi hj hlt hc60 (Nat.zero_le _) (Nat.zero_le _) ⟨ad 16 i, cap i, rfl, (up2_id ad 16 i).symm, hdm, by omega, hc60, by rw [up2_id, vup_id]⟩
    rw [← hE] at ht
    exact ht
  · have hfull : (Lx i).length = cap i := (nI_eq (by omega) (by omega)).mp c1
    refine g_aload_n F 0 dJx4a65c_add_72be8_6 rfl rfl ?_
    refine q_callV F (C := RJx4a65c) (k := 15) (i := i) (ci := 0) (T := TJx4a65c) (N := 3) (rest := []) [] (cl_grow l D A cs ad dm σ Lx cap mk ev zl tx mt tn tc w0 n tq hC i hn22 hi hfull h39 hLn) (cwV 0 F.1.2.2.2.2 gJx4a65c_add_72be8_Jx4a65c_grow_d5877 rfl rfl rfl (by decide +kernel) ⟨Nat.le_of_ble_eq_true rfl, Nat.le_of_ble_eq_true rfl⟩) rfl (hC.2.2.2.2.2.1 i hi) rfl rfl rfl rfl (Nat.le_of_ble_eq_true rfl) dJx4a65c_add_72be8_7 ⟨Nat.le_of_ble_eq_true rfl, Nat.le_of_ble_eq_true rfl⟩ (fun _ _ _ _ hv => ?_)
    obtain ⟨q, c2, rfl, rfl, rfl, h1, h2, rfl⟩ := hv
    refine g_astore_n F (lv1 := [(2, .ref q), (0, .ref (ad 15 i)), (1, .ref (ad 17 j)), (3, .int (nI (Lx i).length))]) dJx4a65c_add_72be8_10 rfl (by decide) rfl ?_
    refine g_lv [1, 2, 0, 3] rfl ?_
    have ht := ca_addTail (l := l) (e := e) (R := { frames := 5, cells := 1, slots := 60, locals := 190 }) (below := below) (cells := 0 + 1) (slots := 0 + 60) (ad := up2 ad 16 i q) (cap := va_up cap i c2) (i := i) (j := j) (σ := σ) (Lx := Lx) (mk := mk) (ev := ev) (zl := zl) (tx := tx) (mt := mt) (tn := tn) (tc := tc) (w0 := w0) (post := (fun r ad1 dm1 w1 => ∃ q c2, r = none ∧ ad1 = up2 ad 16 i q ∧ dm1 = (fun a b => dm a b ∨ (a = 16 ∧ b = i)) ∧ (Lx i).length + 1 ≤ c2 ∧ c2 ≤ 60 ∧ w1 = cw D (up2 ad 16 i q) cs σ (va_up Lx i (Lx i ++ [j])) (va_up cap i c2) mk ev zl tx mt tn tc w0)) F hr hlocks hC.grow (.inr ⟨rfl, rfl⟩) hi hj (by rw [va_up_self]; omega) (by rw [va_up_self]; exact h2) (by decide) (by decide) ⟨q, c2, rfl, rfl, rfl, by omega, h2, rfl⟩
    rw [show up2 ad 16 i q 16 i = q from up2_self _ _ _ _] at ht
    exact ht
set_option maxHeartbeats 4000000 in
set_option maxRecDepth 100000 in
theorem cl_add (l : Launch) (D : va_G) (A : Nat → Prop) (cs : Nat → ClassId) (ad : Nat → Nat → Nat) (dm : Nat → Nat → Prop) (σ : SG) (Lx : Nat → List Nat) (cap : Nat → Nat) (mk : Nat → Int32) (ev : SG) (zl tx mt tn : Nat → Nat) (tc : SG) (w0 : CF) (n tq : Nat) (hC : CD dm n cap tq) (i j : Nat) (hn22 : ¬ dm 22 0) (hi : i < 11) (hj : j < n) (hlc : (Lx i).length ≤ cap i) (hc60 : cap i ≤ 60) (h39 : (Lx i).length ≤ 39) (hLn : ∀ j ∈ Lx i, j < n) : Met l yJx4a65c_add_9ea2d wsJx4a65c_add_9ea2d ({ frames := 6, cells := 1, slots := 60, locals := 220 }) (va_Pc [.ref (ad 15 i), .ref (ad 17 j)] (PW D A (tysG cs) ad dm (cw D ad cs σ Lx cap mk ev zl tx mt tn tc w0))) (QW D A (tysG cs) (fun r ad1 dm1 w1 => ∃ q c2, r = some (.int 1) ∧ ad1 = up2 ad 16 i q ∧ dm1 = (fun a b => dm a b ∨ (a = 16 ∧ b = i)) ∧ (Lx i).length + 1 ≤ c2 ∧ c2 ≤ 60 ∧ w1 = cw D (up2 ad 16 i q) cs σ (va_up Lx i (Lx i ++ [j])) (va_up cap i c2) (va_up mk i ((mk i) + 1)) ev zl tx mt tn tc w0)) 1 60 A := by
  refine g_start (own := RJx4a65c) [.ref (ad 15 i), .ref (ad 17 j)] (cc := cJx4a65c_add_9ea2d) (maxL := 2) (ret := (some .boolean)) (lv0 := [(0, .ref (ad 15 i)), (1, .ref (ad 17 j))]) (by decide) rfl rfl (Nat.le_of_ble_eq_true rfl) rfl ?_
  intro p e s m below meth c F hr hlocks hname
  have hin : ∀ w ∈ wsJx4a65c0, w ∈ wsJx4a65c_add_9ea2d := by decide +kernel
  refine g_aload_n F 0 dJx4a65c_add_9ea2d_0 rfl rfl ?_
  refine g_dup F dJx4a65c_add_9ea2d_1 rfl ?_
  refine g_getfS (k := 15) (i := i) (ci := 0) (C := RJx4a65c) (T := TJx4a65c) (N := 3) (fs := cL D ad Lx cap mk i) (fk := 0) (ref := "java/util/ArrayList") F hin (hC.2.2.2.2.2.1 i hi) rfl rfl (by decide) (by decide +kernel) (by decide +kernel) rfl dJx4a65c_add_9ea2d_2 ?_
  refine g_iconst F dJx4a65c_add_9ea2d_5 (v := 1) (by decide) ?_
  refine g_iadd F dJx4a65c_add_9ea2d_6 ?_
  refine g_putfS (k := 15) (i := i) (ci := 0) (C := RJx4a65c) (T := TJx4a65c) (N := 3) (fs := cL D ad Lx cap mk i) (fk := 0) (ref := "java/util/ArrayList") (v := .int ((mk i) + 1)) (ty := .int) (tf := tyJx4a65c) F hin tyJx4a65c_ok nmJx4a65c (hC.2.2.2.2.2.1 i hi) rfl rfl (by decide) (by decide +kernel) (by decide +kernel) rfl (by decide +kernel) rfl rfl (show 0 < 3 by decide) dJx4a65c_add_9ea2d_7 ?_
  refine g_w (w1 := (cw D ad cs σ Lx cap (va_up mk i ((mk i) + 1)) ev zl tx mt tn tc w0)) (cw_mk (i := i) ((mk i) + 1)).symm ?_
  refine g_aload_n F 0 dJx4a65c_add_9ea2d_10 rfl rfl ?_
  refine g_aload_n F 1 dJx4a65c_add_9ea2d_11 rfl rfl ?_
  refine g_aload_n F 0 dJx4a65c_add_9ea2d_12 rfl rfl ?_
  refine g_getf (k := 15) (i := i) (ci := 0) (C := RJx4a65c) (T := TJx4a65c) (N := 3) (fs := cL D ad Lx cap (va_up mk i ((mk i) + 1)) i) (fk := 1) F hin (hC.2.2.2.2.2.1 i hi) rfl rfl (by decide) (by decide +kernel) rfl rfl dJx4a65c_add_9ea2d_13 ?_
  refine g_aload_n F 0 dJx4a65c_add_9ea2d_16 rfl rfl ?_
  refine g_getf (k := 15) (i := i) (ci := 0) (C := RJx4a65c) (T := TJx4a65c) (N := 3) (fs := cL D ad Lx cap (va_up mk i ((mk i) + 1)) i) (fk := 2) F hin (hC.2.2.2.2.2.1 i hi) rfl rfl (by decide) (by decide +kernel) rfl rfl dJx4a65c_add_9ea2d_17 ?_
  refine q_callV F (C := RJx4a65c) (k := 15) (i := i) (ci := 0) (T := TJx4a65c) (N := 3) (rest := []) [.ref (ad 17 j), .ref (cE D ad cap i), .int (nI (Lx i).length)] (cl_add3 l D A cs ad dm σ Lx cap (va_up mk i ((mk i) + 1)) ev zl tx mt tn tc w0 n tq hC i j hn22 hi hj hlc hc60 h39 hLn) (cwV 3 F.1.2.2.2.2 gJx4a65c_add_9ea2d_Jx4a65c_add_72be8 rfl rfl rfl (by decide +kernel) ⟨Nat.le_of_ble_eq_true rfl, Nat.le_of_ble_eq_true rfl⟩) rfl (hC.2.2.2.2.2.1 i hi) rfl rfl rfl rfl (Nat.le_of_ble_eq_true rfl) dJx4a65c_add_9ea2d_20 ⟨Nat.le_of_ble_eq_true rfl, Nat.le_of_ble_eq_true rfl⟩ (fun _ _ _ _ hv => ?_)
  obtain ⟨q, c2, rfl, rfl, rfl, h1, h2, rfl⟩ := hv
  refine g_iconst F dJx4a65c_add_9ea2d_23 (v := 1) (by decide) ?_
  exact g_qz F hr rfl hlocks (fun H hH => hH) ⟨q, c2, rfl, rfl, rfl, h1, h2, rfl⟩ (by decide) (by decide) dJx4a65c_add_9ea2d_24

