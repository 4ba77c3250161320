set_option maxHeartbeats 8000000 in
set_option maxRecDepth 100000 in
theorem law_start {p : Program} {l : Launch} {e : Env} {s : State} {m : MethodId} {args : Array Value} {below : List Frame} {meth : Method} {c : Code} {cells slots : Nat} {Q : State → Prop} {D : va_G} {A : Nat → Prop} {cs : Nat → ClassId} {ad : Nat → Nat → Nat} {dm : Nat → Nat → Prop} (F : FX p s m args c cL_law 9 wsL_law RL D A (tysG cs)) {b L : Nat} {xs : Nat → Int32} (hX : va_X b L xs s s.heap) (hbl : b < s.heap.size) (hbA : ¬ A b) (hL9 : L ≤ 2560) (hfl : l.stackTraces = false)
    (hret : ∀ (ad : Nat → Nat → Nat) (dm : Nat → Nat → Prop) (w : CF) (lv : List (Nat × Value)), GG p l e room_1 s m args below meth c D A ad dm 9 601024 7293034 Q w 1652 lv [.int 1]) : GG p l e room_1 s m args below meth c D A (fun _ _ => 0) (fun _ _ => False) 9 0 0 Q (fun _ _ => .inr (0, [])) 0 [(0, .ref b)] [] := by
  refine g_new (ci := 5) (C := RX5) (T := TX5) (N := 4) (tf := tyX5) (fs := [.null, .null, .null, .int 0]) F 10 0 (fun q => q) inlX5 tyX5_ok lawW_0 lawW_1 lawW_2 rfl (fun j hj => by rcases (show j = 0 ∨ j = 1 ∨ j = 2 ∨ j = 3 by omega) with rfl | rfl | rfl | rfl <;> rfl) (Nat.le_of_ble_eq_true rfl) (Nat.le_of_ble_eq_true rfl) dL_law_0 (fun q1 => ?_)
  refine g_dup F dL_law_3 rfl ?_
  refine q_callI F (ret := none) (rest := [.ref q1]) (b := (up2 (fun _ _ => 0) 10 0 q1) 10 0) [] (ci_class l D A cs (up2 (fun _ _ => 0) 10 0 q1) (fun a b => False ∨ (a = 10 ∧ b = 0)) (up2 (fun _ _ => .inr (0, [])) 10 0 (.inr (5, [.null, .null, .null, .int 0]))) (fun a b h => .inr (h.elim False.elim id)) (.inr ⟨rfl, rfl⟩) (up2_self _ _ _ _)) (n_cwI 0 F.1.2.2.2.2 gL_law_X5_init rfl rfl rfl lawW_3 lawW_2 lawW_4 rfl (by decide +kernel) ⟨Nat.le_of_ble_eq_true rfl, Nat.le_of_ble_eq_true rfl⟩) rfl rfl (Nat.le_of_ble_eq_true rfl) dL_law_4 ⟨Nat.le_of_ble_eq_true rfl, Nat.le_of_ble_eq_true rfl⟩ (fun rz ad2 dm2 w2 hv => ?_)
  obtain ⟨rfl, hd2, rfl, rfl⟩ := hv
  have e10 : ad2 10 0 = q1 := (hd2 10 0 (.inr ⟨rfl, rfl⟩)).trans (up2_self _ _ _ _)
  refine g_st (st1 := [.ref q1]) rfl ?_
  refine g_astore_n F (lv1 := [(1, .ref q1), (0, .ref b)]) dL_law_7 rfl (by decide) rfl ?_
  refine g_new (ci := 6) (C := RX6) (T := TX6) (N := 33) (tf := tyX6) (fs := [.int 0, .null, .null, .null, .null, .null, .null, .null, .null, .null, .null, .int 0, .null, .null, .null, .null, .null, .null, .null, .null, .null, .null, .null, .null, .null, .null, .null, .null, .null, .null, .null, .null, .int 0]) F 0 0 (by unfold dI; simp) inlX6 tyX6_ok lawW_5 lawW_6 lawW_7 rfl (fun j hj => by rcases (show j = 0 ∨ j = 1 ∨ j = 2 ∨ j = 3 ∨ j = 4 ∨ j = 5 ∨ j = 6 ∨ j = 7 ∨ j = 8 ∨ j = 9 ∨ j = 10 ∨ j = 11 ∨ j = 12 ∨ j = 13 ∨ j = 14 ∨ j = 15 ∨ j = 16 ∨ j = 17 ∨ j = 18 ∨ j = 19 ∨ j = 20 ∨ j = 21 ∨ j = 22 ∨ j = 23 ∨ j = 24 ∨ j = 25 ∨ j = 26 ∨ j = 27 ∨ j = 28 ∨ j = 29 ∨ j = 30 ∨ j = 31 ∨ j = 32 by omega) with rfl | rfl | rfl | rfl | rfl | rfl | rfl | rfl | rfl | rfl | rfl | rfl | rfl | rfl | rfl | rfl | rfl | rfl | rfl | rfl | rfl | rfl | rfl | rfl | rfl | rfl | rfl | rfl | rfl | rfl | rfl | rfl | rfl <;> rfl) (Nat.le_of_ble_eq_true rfl) (Nat.le_of_ble_eq_true rfl) dL_law_8 (fun q3 => ?_)
  refine g_dup F dL_law_11 rfl ?_
  refine q_callI F (ret := none) (rest := [.ref q3]) (b := (up2 ad2 0 0 q3) 0 0) [] (mi_init l D A cs (up2 ad2 0 0 q3) _ _ (.inr ⟨rfl, rfl⟩) (fun b => by unfold dI; simp) (up2_self _ _ _ _)) (n_cwI 0 F.1.2.2.2.2 gL_law_X6_init rfl rfl rfl lawW_8 lawW_7 lawW_9 rfl (by decide +kernel) ⟨Nat.le_of_ble_eq_true rfl, Nat.le_of_ble_eq_true rfl⟩) rfl rfl (Nat.le_of_ble_eq_true rfl) dL_law_12 ⟨Nat.le_of_ble_eq_true rfl, Nat.le_of_ble_eq_true rfl⟩ (fun rz ad4 dm4 w4 hv => ?_)
  obtain ⟨rfl, hd4, rfl, rfl⟩ := hv
  refine g_st (st1 := [.ref q3]) rfl ?_
  refine g_astore_n F (lv1 := [(2, .ref q3), (1, .ref q1), (0, .ref b)]) dL_law_15 rfl (by decide) rfl ?_
  refine g_iconst F dL_law_16 (v := 1) (by decide) ?_
  refine g_newl F 2 0 2 (N' := 1) (by unfold dmp dI; simp) rfl lawW_10 (by decide) (by decide) (Nat.le_of_ble_eq_true rfl) (Nat.le_of_ble_eq_true rfl) dL_law_17 (fun q5 => ?_)
  refine g_astore_n F (lv1 := [(3, .ref q5), (2, .ref q3), (1, .ref q1), (0, .ref b)]) dL_law_19 rfl (by decide) rfl ?_
  refine g_iconst F dL_law_20 (v := 0) (by decide) ?_
  refine g_istore F (lv1 := [(4, .int 0), (3, .ref q5), (2, .ref q3), (1, .ref q1), (0, .ref b)]) dL_law_21 (by decide) rfl ?_
  obtain ⟨ae, hae, hae5⟩ := ad_pick ad2 (up2 ad4 2 0 q5)
  have hlow : ∀ k, k < 2 → ∀ i, ae k i = ad4 k i := fun k hk i => (hae5 k (by omega) i).trans (up2_ne _ _ (fun q => absurd q.1 (by omega)))
  have key : ∀ a b, 10 ≤ a → (dI (fun a b => False ∨ (a = 10 ∧ b = 0)) 4 6 True True a b ∨ (a = 0 ∧ b = 0)) → ae a b = ad4 a b := fun a b ha h => by
    rw [hae a ha, hd4 a b h, up2_ne _ _ (fun q => absurd q.1 (by omega))]
  refine g_forget (dm1 := fun a b => dmp (fun a b => dI (fun a b => False ∨ (a = 10 ∧ b = 0)) 4 6 True True a b ∨ (a = 0 ∧ b = 0)) 32 a b ∨ (a = 2 ∧ b = 0)) (ad1 := ae) (w1 := mw ae cs sgI (cw D ae cs sgI (fun _ => []) (fun _ => 0) (fun _ => 0) (fun _ _ => 0) (fun _ => 0) (fun i => i) (fun _ => 0) (fun _ => 1) (fun _ => upd (fun _ => 0) 0 1) (fun _ _ => .inl (cs 2, 1, .inr (.inl (fun _ => 0)))))) (fun _ _ h => h) (fun a b h => ?_) (fun a b h => ?_) ?_
  · rcases Nat.lt_or_ge a 10 with ha | ha
    · exact hae5 a ha b
    · rw [up2_ne _ _ (fun q => absurd q.1 (by omega))]
      refine key a b ha ?_
      rcases h with h | h
      · unfold dmp at h
        rcases h with h | h
        · exact h
        · exact absurd h.1 (by omega)
      · exact absurd h.1 (by omega)
  · have hm : mfs ae sgI = mfs ad4 sgI := by unfold mfs; simp only [hlow 1 (by decide)]
    rcases Nat.lt_or_ge a 2 with ha | ha
    · rw [up2_ne _ _ (fun q => absurd q.1 (by omega))]
      rcases (show a = 0 ∨ a = 1 by omega) with rfl | rfl
      · have hb : b = 0 := by
          unfold dmp dI at h
          simp only [and_true, false_or] at h
          omega
        subst hb
        unfold mw
        rw [hm]
        rfl
      · rfl
    · rw [mw_rest ae cs sgI _ ha]
      by_cases h2 : a = 2
      · subst h2
        have hb : b = 0 := by
          unfold dmp dI at h
          simp only [and_true, false_or] at h
          omega
        subst hb
        rw [up2_self, cw_lo (by decide)]
      · rw [up2_ne _ _ (fun q => h2 q.1), mw_rest ad4 cs sgI _ ha, up2_ne _ _ (fun q => absurd q.1 (by omega)), cw_adE hae]
        unfold cwZ
        have hk : (a = 10 ∧ b = 0) ∨ a = 11 ∨ a = 12 ∨ a = 13 ∨ a = 14 ∨ a = 15 ∨ a = 21 := by
          unfold dmp dI at h
          simp only [and_true, false_or] at h
          omega
        rcases hk with ⟨rfl, rfl⟩ | rfl | rfl | rfl | rfl | rfl | rfl <;> rfl
  · refine law_loop F hX hbl hbA hL9 hfl (LI_start (ad1 := ad2) (ad2 := ad2) (ad4 := ad4) (dm3 := fun _ _ => False) (w1 := fun _ _ => .inr (0, [])) (fun a b => ?_) ?_ ?_ ?_) rfl rfl ⟨Nat.le_of_ble_eq_true rfl, Nat.le_of_ble_eq_true rfl⟩ hret
    · unfold dmp dI
      simp only [and_true, false_or]
    · rw [hae 10 (by decide)]
      exact e10
    · rw [hlow 0 (by decide), hd4 0 0 (.inr ⟨rfl, rfl⟩), up2_self]
    · rw [hae5 2 (by decide), up2_self]
