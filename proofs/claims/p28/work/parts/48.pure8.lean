/-! receipts taken, messages submitted, drafts, the beginning -/
theorem tkF_10 {σ : SG} {a : Nat} : ∀ k i, tkF σ a k 10 ((40 * a) + i) = if i < k then σ 10 ((40 * a) + (i + 1)) else σ 10 ((40 * a) + i)
  | 0, i => by rw [if_neg (Nat.not_lt_zero _)]; rfl
  | k + 1, i => by
    have e1 := tkF_10 (σ := σ) (a := a) k (k + 1)
    rw [if_neg (by omega)] at e1
    have e2 := tkF_10 (σ := σ) (a := a) k i
    show up2 (tkF σ a k) 10 ((40 * a) + k) ((tkF σ a k) 10 ((40 * a) + (k + 1))) 10 ((40 * a) + i) = _
    by_cases e : i = k
    · rw [e, up2_self, if_pos (Nat.lt_succ_self _), e1]
    · rw [up2_ne _ _ (fun z => e (by omega)), e2]
      by_cases c : i < k
      · rw [if_pos c, if_pos (by omega)]
      · rw [if_neg c, if_neg (by omega)]
theorem tkF_o {σ : SG} {a y : Nat} : ∀ k, y < 40 * a ∨ 40 * a + k ≤ y → tkF σ a k 10 y = σ 10 y
  | 0, _ => rfl
  | k + 1, h => by
    show up2 (tkF σ a k) 10 ((40 * a) + k) _ 10 y = _
    rw [up2_ne _ _ (fun z => by omega)]
    exact tkF_o k (by omega)
theorem tkS_o {σ : SG} {a r f : Nat} (h1 : f ≠ 9) (h2 : f ≠ 10) (i : Nat) : tkS σ a r f i = σ f i := by
  unfold tkS
  rw [tkF_ne _ _ h2]
  exact up2_k h1 i
theorem IC.take {n : Nat} {σ : SG} {Lx : Nat → List Nat} (h : IC n σ Lx) (hn : n ≤ 40) {a x : Nat} {xs : List Nat} (ha : a < 4) (hx : Lx (1 + a) = x :: xs) : IC n (tkS σ a (xs.length + 1)) (va_up Lx (1 + a) xs) := by
  have s23 : ∀ i, tkS σ a (xs.length + 1) 23 i = σ 23 i := fun i => tkS_o (by decide) (by decide) i
  have hl := h.len0 ha
  rw [hx] at hl
  have hl2 : xs.length + 1 ≤ n := hl
  intro b hb
  by_cases e : b = a
  · subst e
    rw [va_up_self]
    have g := h b hb
    rw [hx] at g
    obtain ⟨g1, g2, g3, g4⟩ := g
    refine ⟨?_, (List.nodup_cons.mp g2).2, fun j hj => ?_, fun k hk => ?_⟩
    · unfold tkS
      rw [tkF_ne _ _ (by decide), up2_self, g1]
      exact pk_sub (a := xs.length + 1) (b := 1) (by omega)
    · rw [s23]; exact g3 j (List.mem_cons_of_mem _ hj)
    · rw [s23]
      have g5 := g4 (k + 1) (Nat.succ_lt_succ hk)
      unfold tkS
      rw [show xs.length + 1 - 1 = xs.length by omega, tkF_10, if_pos hk, up2_k (by decide)]
      exact g5
  · rw [va_up_ne _ _ (by omega)]
    have hlb := h.len0 hb
    obtain ⟨g1, g2, g3, g4⟩ := h b hb
    refine ⟨?_, g2, fun j hj => by rw [s23]; exact g3 j hj, fun k hk => ?_⟩
    · unfold tkS
      rw [tkF_ne _ _ (by decide), up2_ne _ _ (fun z => e z.2)]
      exact g1
    · rw [s23]
      unfold tkS
      rw [tkF_o _ (by omega), up2_k (by decide)]
      exact g4 k hk
theorem INV.take {n tq t : Nat} {σ : SG} {Lx : Nat → List Nat} {ev : SG} {zl tx mt tn : Nat → Nat} {tc : SG} (h : INV n tq t σ Lx ev zl tx mt tn tc) {a x : Nat} {xs : List Nat} (ha : a < 4) (hx : Lx (1 + a) = x :: xs) : INV n tq t (tkS σ a (xs.length + 1)) (va_up Lx (1 + a) xs) ev zl tx mt tn tc := by
  have k : ∀ f, f ≠ 9 → f ≠ 10 → ∀ i, tkS σ a (xs.length + 1) f i = σ f i := fun f h1 h2 i => tkS_o h1 h2 i
  obtain ⟨h1, h2, ⟨_, ⟨b1, b2, b3, b4, b5⟩, c, d, e⟩, h4⟩ := h
  refine ⟨h1, by rw [k 11 (by decide) (by decide)]; exact h2, ⟨AG.id _, ⟨⟨?_, fun r hr => ?_⟩, b2.take h1 ha hx, fun i hi => ?_, by rw [k 0 (by decide) (by decide)]; exact b4, fun j hj => ?_⟩, fun j hj => ?_, fun r hr => okR_c (fun f hf => k f (by omega) (by omega) r) (d r hr), fun j hj => okM_c (fun f hf => k f (by omega) (by omega) j) (e j hj)⟩, h4.c (fun f hf i => k f (by omega) (by omega) i)⟩
  · show va_up Lx (1 + a) xs 0 = _
    rw [va_up_ne _ _ (by omega)]; exact b1.1
  · show va_up Lx (1 + a) xs (5 + r) = _
    rw [va_up_ne _ _ (by omega), show Lx (5 + r) = qf σ n r from b1.2 r hr]
    exact qf_c (fun j _ => by rw [k 23 (by decide) (by decide), k 13 (by decide) (by decide)])
  · have q := b3 i hi
    rw [k 23 (by decide) (by decide), k 24 (by decide) (by decide), k 25 (by decide) (by decide)]
    exact ⟨q.1, q.2.1, q.2.2.1, fun y hy => by rw [k 27 (by decide) (by decide)]; exact q.2.2.2 y hy⟩
  · have q := b5 j hj
    unfold ITj at *
    rw [k 16 (by decide) (by decide), k 23 (by decide) (by decide), k 25 (by decide) (by decide), k 15 (by decide) (by decide)]
    refine ⟨q.1, q.2.1, fun z => ?_⟩
    obtain ⟨g1, g2, g3, g4, g5⟩ := q.2.2 z
    have e16 : t - ix (tkS σ a (xs.length + 1) 16 j) = t - ix (σ 16 j) := by rw [k 16 (by decide) (by decide)]
    exact ⟨g1, Nat.le_trans g2 (Nat.le_of_eq e16.symm), Nat.lt_of_le_of_lt (Nat.le_of_eq e16) g3, g4, fun y hy => by rw [k 27 (by decide) (by decide)]; exact g5 y hy⟩
  · exact IGj_c (c j hj) (k 23 (by decide) (by decide) j) (k 24 (by decide) (by decide) j) (ptM_c (fun f hf => k f (by omega) (by omega) j)) (k 15 (by decide) (by decide) j) (fun _ => rfl) rfl
/-- a new message -/
theorem nwS_AG {σ τ τ2 : SG} {a n : Nat} {v to rank ticks : Int32} (h : AG τ τ2) : AG (nwS τ σ a n v to rank ticks) (nwS τ2 σ a n v to rank ticks) := by
  unfold nwS
  exact ((((((((((((h.up _ _ _).up _ _ _).up _ _ _).up _ _ _).up _ _ _).up _ _ _).up _ _ _).up _ _ _).up _ _ _).up _ _ _).up _ _ _).up _ _ _).up _ _ _
theorem RLr.new {n tq t : Nat} {σ τ : SG} {Lx : Nat → List Nat} {ev : SG} {zl tx mt tn : Nat → Nat} {tc : SG} (h : INV n tq t σ Lx ev zl tx mt tn tc) (ht : t < 2000000) (hag : AG τ σ) (hτ : ∀ f, f ≠ 32 → ∀ i, τ f i = σ f i) {a b : Nat} (ha : a < 4) (hb : b < 6) {rank ticks : Int32} (hv : ticks = nI (ix ticks) ∧ 1 ≤ ix ticks ∧ ix ticks ≤ 500) : RLr (n + 1) t (fun j => t - ix (nwS τ σ a n (nI a) (nI b) rank ticks 16 j)) (nwS τ σ a n (nI a) (nI b) rank ticks) (nwS σ σ a n (nI a) (nI b) rank ticks, sbL Lx b n, va_up ev n (fun _ => 0), va_up zl n 1) := by
  obtain ⟨h1, h2, ⟨_, ⟨b1, b2, b3, b4, b5⟩, c, d, e⟩, h4⟩ := h
  obtain ⟨n12, n13, n14, n15, n16, n26, n17, n18, n19, n20, n21, n22, n11⟩ := @nwS_n τ σ a n (nI a) (nI b) rank ticks
  have kf : ∀ f, ¬ (f = 11 ∨ (12 ≤ f ∧ f ≤ 22) ∨ f = 26) → f ≠ 32 → ∀ i, nwS τ σ a n (nI a) (nI b) rank ticks f i = σ f i := fun f hf h9 i => by rw [nwS_f hf, hτ f h9]
  have ko : ∀ f, f ≠ 11 → f ≠ 32 → ∀ i, i ≠ n → nwS τ σ a n (nI a) (nI b) rank ticks f i = σ f i := fun f hf h9 i hi => by rw [nwS_o hf hi, hτ f h9]
  have hA := (h4.1 a ha).1
  have pM : ∀ j, j ≠ n → ptM (nwS τ σ a n (nI a) (nI b) rank ticks) j = ptM σ j := fun j hj => ptM_c (fun f hf => ko f (by omega) (by omega) j hj)
  have pn : ptM (nwS τ σ a n (nI a) (nI b) rank ticks) n = ptA σ a := by
    unfold ptM ptA
    simp only [n17, n18, n19]
  have qn : ∀ r, qf (nwS τ σ a n (nI a) (nI b) rank ticks) n r = qf σ n r := fun r => qf_c (fun j hj => by rw [kf 23 (by omega) (by decide), ko 13 (by decide) (by decide) j (by omega)])
  have z23 : nwS τ σ a n (nI a) (nI b) rank ticks 23 n = 0 := by rw [kf 23 (by omega) (by decide)]; exact (b3 n (Nat.le_refl _)).1
  refine ⟨nwS_AG hag, ⟨⟨sbL_0 Lx b n b1.1, fun r hr => ?_⟩, fun y hy => ?_, fun i hi => ?_, by rw [kf 0 (by omega) (by decide)]; exact b4, fun j hj => ?_⟩, fun j hj => ?_, fun r hr => okR_c (fun f hf => kf f (by omega) (by omega) r) (d r hr), fun j hj => ?_⟩
  · show sbL Lx b n (5 + r) = _
    rw [qf_s, qn, z23, n13, ix_nI (by omega)]
    unfold sbL
    by_cases er : r = b
    · rw [er, va_up_self, va_up_ne _ _ (by omega), if_pos ⟨rfl, rfl⟩, show Lx (5 + b) = qf σ n b from b1.2 b hb]
    · rw [va_up_ne _ _ (by omega), va_up_ne _ _ (by omega), if_neg (fun q => er q.2.symm), List.append_nil, show Lx (5 + r) = qf σ n r from b1.2 r hr]
  · show ICa (n + 1) _ y (sbL Lx b n (1 + y))
    have e1 : sbL Lx b n (1 + y) = Lx (1 + y) := by
      unfold sbL
      rw [va_up_ne _ _ (by omega), va_up_ne _ _ (by omega)]
    rw [e1]
    obtain ⟨g1, g2, g3, g4⟩ := b2 y hy
    refine ⟨by rw [kf 9 (by omega) (by decide)]; exact g1, g2, fun j hj => ⟨Nat.lt_succ_of_lt (g3 j hj).1, by rw [kf 23 (by omega) (by decide)]; exact (g3 j hj).2⟩, fun k hk => ?_⟩
    rw [kf 10 (by omega) (by decide), kf 23 (by omega) (by decide)]
    exact g4 k hk
  · have q := b3 i (by omega)
    rw [kf 23 (by omega) (by decide), kf 24 (by omega) (by decide), kf 25 (by omega) (by decide)]
    exact ⟨q.1, q.2.1, q.2.2.1, fun x hx => by rw [kf 27 (by omega) (by decide)]; exact q.2.2.2 x hx⟩
  · by_cases ej : j = n
    · subst ej
      have q := b3 j (Nat.le_refl _)
      have e0 : ix (σ 0 0) = t := by rw [b4]; exact ix_nI (by omega)
      unfold ITj
      rw [n16, n15, kf 25 (by omega) (by decide), q.2.2.1, e0]
      refine ⟨b4, Nat.le_refl _, fun _ => ⟨by decide, Nat.zero_le _, ?_, ?_, fun x hx => ⟨0, Nat.zero_le _, by rw [kf 27 (by omega) (by decide), q.2.2.2 x hx]; rfl⟩⟩⟩
      · show t - ix (nwS τ σ a j (nI a) (nI b) rank ticks 16 j) < _
        rw [n16, e0]
        omega
      · show va_up zl j 1 j ≤ _
        rw [va_up_self]
        exact Nat.le_add_right _ _
    · have q := b5 j (by omega)
      unfold ITj at *
      rw [ko 16 (by decide) (by decide) j ej, ko 23 (by decide) (by decide) j ej, ko 25 (by decide) (by decide) j ej, ko 15 (by decide) (by decide) j ej]
      refine ⟨q.1, q.2.1, fun z => ?_⟩
      obtain ⟨g1, g2, g3, g4, g5⟩ := q.2.2 z
      show _ ∧ _ ∧ _ ∧ va_up zl n 1 j ≤ _ ∧ ∀ x, x < 3 → ∃ q, q ≤ va_up zl n 1 j ∧ _
      rw [va_up_ne _ _ ej]
      have e16 : t - ix (nwS τ σ a n (nI a) (nI b) rank ticks 16 j) = t - ix (σ 16 j) := by rw [ko 16 (by decide) (by decide) j ej]
      exact ⟨g1, Nat.le_trans g2 (Nat.le_of_eq e16.symm), Nat.lt_of_le_of_lt (Nat.le_of_eq e16) g3, g4, fun y hy => by rw [kf 27 (by omega) (by decide)]; exact g5 y hy⟩
  · by_cases ej : j = n
    · subst ej
      have q := b3 j (Nat.le_refl _)
      show IGj _ (va_up ev j (fun _ => 0)) (va_up zl j 1) j
      unfold IGj elen
      rw [pn, z23, kf 24 (by omega) (by decide), q.2.1, n15, va_up_self, va_up_self]
      have hp : 0 < ptA σ a := pts_pos _ _ _ hA.2.2.1.2.2 hA.2.2.1.2.1
      exact ⟨rfl, rfl, ⟨0, rfl, Nat.zero_le _, fun z => absurd z (by decide), fun z => by omega⟩, by omega⟩
    · exact IGj_c (c j (by omega)) (kf 23 (by omega) (by decide) j) (kf 24 (by omega) (by decide) j) (pM j ej) (ko 15 (by decide) (by decide) j ej) (fun k => by show va_up ev n (fun _ => 0) j k = ev j k; rw [va_up_ne _ _ ej]) (va_up_ne _ _ ej)
  · by_cases ej : j = n
    · subst ej
      unfold okM roOK txOK
      rw [n12, n13, n15, n17, n18, n19, ix_nI (by omega), ix_nI (by omega)]
      exact ⟨⟨rfl, ha⟩, ⟨rfl, hb⟩, ⟨hA.2.2.1.1, hA.2.2.1.2.2, hA.2.2.2.1, hA.2.2.2.2, hA.1⟩, hv⟩
    · exact okM_c (fun f hf => ko f (by omega) (by omega) j ej) (e j (by omega))

