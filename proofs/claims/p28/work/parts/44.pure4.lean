/-! whose turn it is -/
theorem nI_n1 {j : Nat} (h : j < 1000) : ¬ nI j = (-1) := by
  intro q
  have h2 := congrArg Int32.toInt q
  rw [nI_toInt (by omega)] at h2
  have h3 : (-1 : Int32).toInt = -1 := by decide
  rw [h3] at h2
  omega
theorem frL_app (σ : SG) (t : Int32) (xs ys : List Nat) : frL σ t (xs ++ ys) = ys.foldl (frT σ t) (frL σ t xs) := by
  unfold frL
  rw [List.foldl_append]
theorem frL_AG {σ τ : SG} (h : AG σ τ) (t : Int32) (xs : List Nat) : frL τ t xs = frL σ t xs := by
  have e : frT τ t = frT σ t := by
    funext b k
    unfold frT
    simp only [gbP, h 26 (cf (by omega)), h 14 (cf (by omega))]
  unfold frL
  rw [e]
theorem waits_q {σ : SG} {r k : Nat} (h : roOK σ k) (hr : r < 6) : waitsP σ k (nI r) ↔ (σ 23 k = 0 ∧ ix (σ 13 k) = r) := by
  unfold waitsP
  constructor
  · intro q
    exact ⟨q.1, by rw [q.2]; exact ix_nI (by omega)⟩
  · intro q
    exact ⟨q.1, by rw [h.1, q.2]⟩
theorem gb_eq {σ : SG} {k j : Nat} : gbP σ k j ↔ ((σ 14 j) < (σ 14 k) ∨ ((σ 14 k) = (σ 14 j) ∧ ¬ (σ 26 j) ≤ (σ 26 k))) := by
  unfold gbP
  constructor
  · rintro (q | q)
    · exact .inl (Int32.not_le.mp q.2)
    · exact .inr q
  · rintro (q | q)
    · exact .inl ⟨fun e => by rw [e] at q; exact absurd q Int32.lt_irrefl, Int32.not_le.mpr q⟩
    · exact .inr q
theorem fr_eq {σ : SG} {r : Nat} {t : Int32} (hr : r < 6) : ∀ n, n ≤ 40 → (∀ j, j < n → roOK σ j) → frF σ (nI r) t n = ovN (frL σ t (qf σ n r))
  | 0, _, _ => rfl
  | k + 1, hk, h13 => by
    have ih := fr_eq (t := t) hr k (by omega) (fun j hj => h13 j (by omega))
    have hw := waits_q (h13 k (by omega)) hr
    rw [qf_s, frL_app]
    unfold frF
    by_cases c : σ 23 k = 0 ∧ ix (σ 13 k) = r
    · rw [if_pos c]
      show _ = ovN (frT σ t (frL σ t (qf σ k r)) k)
      unfold frT
      by_cases ct : t < (σ 26 k)
      · have c2 : ¬ frC σ (nI r) t k := fun q => q.2 ct
        rw [if_neg c2, if_pos ct, ih]
      · have c2 : frC σ (nI r) t k := ⟨hw.mpr c, ct⟩
        rw [if_pos c2, if_neg ct, ih]
        rcases hq : frL σ t (qf σ k r) with _ | j
        · rw [if_pos (show ovN none = -1 from rfl)]; rfl
        · have hj : j < k := (qf_mem.mp (frL_mem hq)).1
          have hne : ¬ ovN (some j) = (-1) := nI_n1 (by omega)
          have hix : ix (ovN (some j)) = j := ix_nI (by omega)
          rw [if_neg hne]
          have ea : frA σ (nI r) t k (ovN (some j)) ↔ gbP σ k j := by
            unfold frA
            rw [hix, gb_eq]
            exact ⟨fun q => q.2.2, fun q => ⟨c2, hne, q⟩⟩
          show _ = ovN (if gbP σ k j then some k else some j)
          by_cases g : gbP σ k j
          · rw [if_pos (ea.mpr g), if_pos g]; rfl
          · rw [if_neg (fun q => g (ea.mp q)), if_neg g]
    · have c2 : ¬ frC σ (nI r) t k := fun q => c (hw.mp q.1)
      rw [if_neg c, if_neg c2, ih]
      rfl
theorem RLr.mono {n t : Nat} {B B2 : Nat → Nat} {σ : SG} {s : CSt} (h : RLr n t B σ s) (h1 : ∀ j, B j ≤ B2 j) (h2 : ∀ j, j < n → σ 23 j = 0 → B2 j < ix (σ 15 j)) : RLr n t B2 σ s := by
  obtain ⟨a, ⟨b1, b2, b3, b4, b5⟩, c, d, e⟩ := h
  refine ⟨a, ⟨b1, b2, b3, b4, fun j hj => ⟨(b5 j hj).1, (b5 j hj).2.1, fun z => ?_⟩⟩, c, d, e⟩
  obtain ⟨g1, g2, g3, g4, g5⟩ := (b5 j hj).2.2 z
  exact ⟨g1, Nat.le_trans g2 (h1 j), h2 j hj z, g4, g5⟩
/-- changes of σ that leave lists and receipts alone -/
theorem DY.keep {n t : Nat} {B B2 : Nat → Nat} {σ τ : SG} {Lx : Nat → List Nat} {zl zl2 : Nat → Nat} (h : DY n t B σ Lx zl) (hk : ∀ f, f = 0 ∨ f = 9 ∨ f = 10 ∨ f = 13 ∨ f = 23 → ∀ i, τ f i = σ f i) (hz : ∀ i, n ≤ i → τ 24 i = σ 24 i ∧ τ 25 i = σ 25 i ∧ ∀ x, x < 3 → τ 27 ((3 * i) + x) = σ 27 ((3 * i) + x)) (ht : ∀ j, j < n → ITj t B2 τ zl2 j) : DY n t B2 τ Lx zl2 := by
  obtain ⟨h1, h2, h3, h4, h5⟩ := h
  refine ⟨⟨h1.1, fun r hr => ?_⟩, fun a ha => ?_, fun i hi => ?_, by rw [hk 0 (by omega)]; exact h4, ht⟩
  · rw [h1.2 r hr]
    exact qf_c (fun j _ => by rw [hk 23 (by omega), hk 13 (by omega)])
  · obtain ⟨g1, g2, g3, g4⟩ := h2 a ha
    refine ⟨by rw [hk 9 (by omega)]; exact g1, g2, fun j hj => ⟨(g3 j hj).1, by rw [hk 23 (by omega)]; exact (g3 j hj).2⟩, fun k hk2 => ?_⟩
    rw [hk 10 (by omega), hk 23 (by omega)]
    exact g4 k hk2
  · have q := h3 i hi
    have z := hz i hi
    rw [hk 23 (by omega), z.1, z.2.1]
    exact ⟨q.1, q.2.1, q.2.2.1, fun x hx => by rw [z.2.2 x hx]; exact q.2.2.2 x hx⟩
/-- one try more -/
theorem tr0_f {σ : SG} {j f : Nat} (hf : f ≠ 25) (i : Nat) : tr0 σ j f i = σ f i := up2_ne _ _ (fun q => hf q.1)
theorem tr0_i {σ : SG} {j f i : Nat} (hi : i ≠ j) : tr0 σ j f i = σ f i := up2_ne _ _ (fun q => hi q.2)
theorem RLr.t1 {n t : Nat} {B B2 : Nat → Nat} {σ : SG} {s : CSt} (h : RLr n t B σ s) {j : Nat} (hj : j < n) (hw : σ 23 j = 0) (h1 : ∀ i, B i ≤ B2 i) (h1j : B j + 1 ≤ B2 j) (h2 : ∀ i, i < n → σ 23 i = 0 → B2 i < ix (σ 15 i)) : RLr n t B2 (tr0 σ j) (t1T j s) ∧ s.2.2.2 j ≤ ix (tr0 σ j 25 j) := by
  obtain ⟨a, b, c, d, e⟩ := h
  have q5 := b.2.2.2.2
  obtain ⟨g1, g2, g3, g4, g5⟩ := (q5 j hj).2.2 hw
  have hv := h2 j hj hw
  have h500 : ix (σ 15 j) ≤ 500 := (e j hj).2.2.2.2.2
  have e25 : tr0 σ j 25 j = nI (ix (σ 25 j) + 1) := by
    unfold tr0
    rw [up2_self, g1, nI_1, ix_nI (by omega)]
  have i25 : ix (tr0 σ j 25 j) = ix (σ 25 j) + 1 := by rw [e25]; exact ix_nI (by omega)
  have ag : AG (tr0 σ j) (t1T j s).1 := by
    show AG (up2 σ 25 j (σ 25 j + 1)) (up2 s.1 25 j (s.1 25 j + 1))
    rw [a 25 (cf (by omega)) j]
    exact a.up 25 j _
  refine ⟨⟨ag, ?_, fun i hi => ?_, fun r hr => okR_c (fun f hf => tr0_f (by omega) r) (d r hr), fun i hi => okM_c (fun f hf => tr0_f (by omega) i) (e i hi)⟩, by rw [i25]; omega⟩
  · refine b.keep (fun f hf i => tr0_f (by omega) i) (fun i hi => ⟨tr0_f (by decide) i, tr0_i (by omega), fun x _ => tr0_f (by decide) _⟩) (fun i hi => ?_)
    have q := q5 i hi
    unfold ITj at *
    rw [tr0_f (f := 16) (by decide), tr0_f (f := 23) (by decide), tr0_f (f := 15) (by decide)]
    refine ⟨q.1, q.2.1, fun z => ?_⟩
    obtain ⟨k1, k2, k3, k4, k5⟩ := q.2.2 z
    by_cases ei : i = j
    · subst ei
      rw [i25, e25]
      exact ⟨rfl, by omega, hv, by show s.2.2.2 i ≤ _; omega, fun x hx => by rw [tr0_f (by decide)]; exact k5 x hx⟩
    · rw [tr0_i ei]
      exact ⟨k1, Nat.le_trans k2 (h1 i), h2 i hi z, k4, fun x hx => by rw [tr0_f (by decide)]; exact k5 x hx⟩
  · exact IGj_c (c i hi) (tr0_f (by decide) i) (tr0_f (by decide) i) (ptM_c (fun f hf => tr0_f (by omega) i)) (tr0_f (by decide) i) (fun _ => rfl) rfl

