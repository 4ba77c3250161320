/-! an end: both sides -/
theorem enS_o {σ : SG} {j : Nat} {v how : Int32} {f : Nat} (hf : f ≠ 23 ∧ f ≠ 10 ∧ f ≠ 9) (i : Nat) : enS σ j v how f i = σ f i := by
  unfold enS
  split
  · rw [up2_ne _ _ (fun h => hf.1 h.1)]
  · rw [up2_ne _ _ (fun h => hf.2.2 h.1), up2_ne _ _ (fun h => hf.2.1 h.1), up2_ne _ _ (fun h => hf.1 h.1)]
theorem enS_23 {σ : SG} {j : Nat} {v how : Int32} (i : Nat) : enS σ j v how 23 i = if i = j then how else σ 23 i := by
  unfold enS
  by_cases h : i = j
  · subst h
    rw [if_pos rfl]
    split
    · rw [up2_self]
    · rw [up2_ne _ _ (fun h => absurd h.1 (by decide)), up2_ne _ _ (fun h => absurd h.1 (by decide)), up2_self]
  · rw [if_neg h]
    split
    · rw [up2_ne _ _ (fun q => h q.2)]
    · rw [up2_ne _ _ (fun h => absurd h.1 (by decide)), up2_ne _ _ (fun h => absurd h.1 (by decide)), up2_ne _ _ (fun q => h q.2)]
theorem enS_AG {σ τ : SG} (h : AG σ τ) (j : Nat) (v how : Int32) : AG (enS σ j v how) (up2 τ 23 j how) := by
  have h1 := h.up 23 j how
  unfold enS
  split
  · exact h1
  · exact (h1.upl (by unfold cfd; omega) _ _).upl (by unfold cfd; omega) _ _
theorem okM_c {σ τ : SG} {j : Nat} (h : ∀ f, (f = 12 ∨ f = 13 ∨ f = 15 ∨ f = 17 ∨ f = 18 ∨ f = 19) → τ f j = σ f j) (hm : okM σ j) : okM τ j := by
  unfold okM roOK txOK at *
  rw [h 12 (by omega), h 13 (by omega), h 15 (by omega), h 17 (by omega), h 18 (by omega), h 19 (by omega)]
  exact hm
theorem ptM_c {σ τ : SG} {j : Nat} (h : ∀ f, (f = 17 ∨ f = 18 ∨ f = 19) → τ f j = σ f j) : ptM τ j = ptM σ j := by
  unfold ptM
  simp only [h 17 (by omega), h 18 (by omega), h 19 (by omega)]
theorem fiL_q {σ : SG} {Lx : Nat → List Nat} {j r : Nat} (ha : ix (σ 12 j) < 4) : fiL σ Lx j (5 + r) = if r = ix (σ 13 j) then (Lx (5 + r)).eraseIdx (psn (Lx (5 + r)) j) else Lx (5 + r) := by
  have e : fiL σ Lx j (5 + r) = fiQ σ Lx j (5 + r) := by
    unfold fiL
    split
    · rfl
    · rw [va_up_ne _ _ (by omega)]
  rw [e]
  unfold fiQ
  by_cases h : r = ix (σ 13 j)
  · rw [if_pos h, ← h, va_up_self]
  · rw [if_neg h, va_up_ne _ _ (by omega)]
theorem fiL_c {σ : SG} {Lx : Nat → List Nat} {j a : Nat} (ha : a < 4) (hj : ix (σ 12 j) < 4) : fiL σ Lx j (1 + a) = if ¬ (σ 22 j) = 0 ∧ a = ix (σ 12 j) then Lx (1 + a) ++ [j] else Lx (1 + a) := by
  have e : ∀ b, b < 4 → fiQ σ Lx j (1 + b) = Lx (1 + b) := fun b hb => by
    unfold fiQ
    rw [va_up_ne _ _ (by omega)]
  unfold fiL
  by_cases h : (σ 22 j) = 0
  · rw [if_pos h, if_neg (fun q => q.1 h), e a ha]
  · rw [if_neg h]
    by_cases h2 : a = ix (σ 12 j)
    · rw [if_pos ⟨h, h2⟩, ← h2, va_up_self, e a ha]
    · rw [if_neg (fun q => h2 q.2), va_up_ne _ _ (by omega), e a ha]
theorem fiL_AG {σ τ : SG} (h : AG σ τ) (Lx : Nat → List Nat) (j : Nat) : fiL τ Lx j = fiL σ Lx j := by
  unfold fiL fiQ
  rw [h 22 (by unfold cfd; omega), h 12 (by unfold cfd; omega), h 13 (by unfold cfd; omega)]
/-- receipts behind an end -/
theorem IC.fin {n : Nat} {σ : SG} {Lx : Nat → List Nat} (h : IC n σ Lx) (hn : n ≤ 40) {j : Nat} {how : Int32} (hm : okM σ j) (hj : j < n) (hw : σ 23 j = 0) (hh : ¬ how = 0) : IC n (enS σ j (nI j) how) (fiL σ Lx j) := by
  intro a ha
  have ho := h a ha
  have hl := h.len hn ha hj hw
  have he := h.en hn hm hj hw
  have hl2 := h.len hn hm.1.2 hj hw
  have s23 : ∀ i, i ∈ Lx (1 + a) → enS σ j (nI j) how 23 i = σ 23 i := fun i hi => by
    rw [enS_23, if_neg (fun e => (ho.2.2.1 i hi).2 (by rw [e]; exact hw))]
  have gd : ∀ k, k < (Lx (1 + a)).length → (Lx (1 + a)).getD k 0 ∈ Lx (1 + a) := fun k hk => getD_mem9 hk
  rw [fiL_c ha hm.1.2]
  by_cases hc : ¬ (σ 22 j) = 0 ∧ a = ix (σ 12 j)
  · rw [if_pos hc]
    have e9 : enS σ j (nI j) how 9 a = σ 9 a + 1 := by
      unfold enS
      rw [if_neg hc.1, show rcA σ j = a from hc.2.symm, up2_self]
    have e10 : ∀ k, k ≤ (Lx (1 + a)).length → enS σ j (nI j) how 10 ((40 * a) + k) = if k = (Lx (1 + a)).length then (10 * nI j) + how else σ 10 ((40 * a) + k) := fun k hk => by
      unfold enS
      rw [if_neg hc.1, show rcA σ j = a from hc.2.symm, up2_ne _ _ (fun q => absurd q.1 (by decide)), he.2, ← hc.2]
      by_cases e : k = (Lx (1 + a)).length
      · rw [if_pos e, e, up2_self]
      · rw [if_neg e, up2_ne _ _ (fun q => e (by omega)), up2_ne _ _ (fun q => absurd q.1 (by decide))]
    refine ⟨?_, ?_, ?_, ?_⟩
    · rw [e9, ho.1, List.length_append, nI_1]; rfl
    · rw [List.nodup_append]
      refine ⟨ho.2.1, (List.nodup_cons.mpr ⟨List.not_mem_nil, List.Pairwise.nil⟩), fun x hx y hy => ?_⟩
      rw [List.mem_singleton.mp hy]
      intro e
      exact (ho.2.2.1 x hx).2 (by rw [e]; exact hw)
    · intro i hi
      rcases List.mem_append.mp hi with q | q
      · exact ⟨(ho.2.2.1 i q).1, by rw [s23 i q]; exact (ho.2.2.1 i q).2⟩
      · rw [List.mem_singleton.mp q]
        exact ⟨hj, by rw [enS_23, if_pos rfl]; exact hh⟩
    · intro k hk
      rw [List.length_append, List.length_singleton] at hk
      rw [e10 k (by omega)]
      by_cases e : k = (Lx (1 + a)).length
      · rw [if_pos e]
        have g : (Lx (1 + a) ++ [j]).getD k 0 = j := by
          rw [List.getD_eq_getElem?_getD, List.getElem?_append_right (by omega), e, Nat.sub_self]
          rfl
        rw [g, enS_23, if_pos rfl]
      · rw [if_neg e]
        have g : (Lx (1 + a) ++ [j]).getD k 0 = (Lx (1 + a)).getD k 0 := by
          rw [List.getD_eq_getElem?_getD, List.getElem?_append_left (by omega), ← List.getD_eq_getElem?_getD]
        rw [g, s23 _ (gd k (by omega))]
        exact ho.2.2.2 k (by omega)
  · rw [if_neg hc]
    have e9 : enS σ j (nI j) how 9 a = σ 9 a := by
      unfold enS
      split
      · rw [up2_ne _ _ (fun q => absurd q.1 (by decide))]
      · next z => rw [up2_ne _ _ (show ¬ (9 = 9 ∧ a = rcA σ j) from fun q => hc ⟨z, q.2⟩), up2_k (show 9 ≠ 10 by decide), up2_k (show 9 ≠ 23 by decide)]
    have e10 : ∀ k, k < 40 → enS σ j (nI j) how 10 ((40 * a) + k) = σ 10 ((40 * a) + k) := fun k hk => by
      unfold enS
      split
      · rw [up2_ne _ _ (fun q => absurd q.1 (by decide))]
      · next z =>
        have hne : a ≠ rcA σ j := fun q => hc ⟨z, q⟩
        have hlt : rcN σ j < 40 := he.1.2.2.2
        rw [up2_ne _ _ (fun q => absurd q.1 (by decide)), up2_ne _ _ (fun q => by omega), up2_ne _ _ (fun q => absurd q.1 (by decide))]
    refine ⟨by rw [e9]; exact ho.1, ho.2.1, fun i hi => ⟨(ho.2.2.1 i hi).1, by rw [s23 i hi]; exact (ho.2.2.1 i hi).2⟩, fun k hk => ?_⟩
    rw [e10 k (by omega), s23 _ (gd k hk)]
    exact ho.2.2.2 k hk
theorem IQ.fin {n : Nat} {σ : SG} {Lx : Nat → List Nat} (h : IQ n σ Lx) {j : Nat} {v how : Int32} (hm : okM σ j) (hh : ¬ how = 0) : IQ n (enS σ j v how) (fiL σ Lx j) := by
  have h13 : ∀ i, enS σ j v how 13 i = σ 13 i := fun i => enS_o (by decide) i
  have h23 : ∀ i, i ≠ j → enS σ j v how 23 i = σ 23 i := fun i hi => by rw [enS_23, if_neg hi]
  have hj : ¬ enS σ j v how 23 j = 0 := by rw [enS_23, if_pos rfl]; exact hh
  refine ⟨by rw [fiL_0]; exact h.1, fun r hr => ?_⟩
  rw [fiL_q hm.1.2, h.2 r hr]
  by_cases e : r = ix (σ 13 j)
  · rw [if_pos e]
    exact qf_rm hj h23 h13
  · rw [if_neg e]
    refine qf_c (fun i _ => ?_)
    by_cases e2 : i = j
    · subst e2
      rw [h13]
      exact ⟨fun q => absurd q.2.symm e, fun q => absurd q.2.symm e⟩
    · rw [h23 i e2, h13]
theorem DY.fin {n t : Nat} {B : Nat → Nat} {σ : SG} {Lx : Nat → List Nat} {zl zl2 : Nat → Nat} (h : DY n t B σ Lx zl) (hn : n ≤ 40) {j : Nat} {how : Int32} (hm : okM σ j) (hj : j < n) (hw : σ 23 j = 0) (hh : ¬ how = 0) (hz : ∀ i, i ≠ j → zl2 i = zl i) : DY n t B (enS σ j (nI j) how) (fiL σ Lx j) zl2 := by
  obtain ⟨h1, h2, h3, h4, h5⟩ := h
  refine ⟨h1.fin hm hh, h2.fin hn hm hj hw hh, fun i hi => ?_, by rw [enS_o (by decide)]; exact h4, fun i hi => ?_⟩
  · have q := h3 i hi
    rw [enS_23, if_neg (by omega), enS_o (by decide), enS_o (by decide)]
    exact ⟨q.1, q.2.1, q.2.2.1, fun x hx => by rw [enS_o (by decide)]; exact q.2.2.2 x hx⟩
  · have q := h5 i hi
    unfold ITj at *
    rw [enS_o (f := 16) (by decide), enS_o (f := 25) (by decide), enS_o (f := 15) (by decide), enS_23]
    refine ⟨q.1, q.2.1, fun z => ?_⟩
    by_cases e : i = j
    · rw [if_pos e] at z; exact absurd z hh
    · rw [if_neg e] at z
      obtain ⟨g1, g2, g3, g4, g5⟩ := q.2.2 z
      refine ⟨g1, g2, g3, by rw [hz i e]; exact g4, fun x hx => ?_⟩
      obtain ⟨y, hy, hy2⟩ := g5 x hx
      exact ⟨y, by rw [hz i e]; exact hy, by rw [enS_o (by decide)]; exact hy2⟩

