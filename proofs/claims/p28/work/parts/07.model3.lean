theorem cd_okn {P Q : Prop} [Decidable P] [Decidable Q] : (if P then (if Q then (2 : Int32) else 0) else 1) ≤ 0 ↔ P ∧ ¬ Q := by
  by_cases hp : P <;> by_cases hq : Q <;> simp [hp, hq] <;> decide
theorem ix_msg {σ : SG} {v : Int32} {n : Nat} (hn : (σ 11 0) = nI n) (hn40 : n ≤ 40) (h : inR v 0 ((σ 11 0) - 1)) : v = nI (ix v) ∧ ix v < n := by
  rw [hn] at h
  obtain ⟨h0, h1⟩ := h
  rcases Nat.eq_zero_or_pos n with q | q
  · subst q
    exact absurd (by
      have : (v : Int32) < 0 ∨ 0 ≤ v := by rcases Int32.lt_or_le v 0 with a | a <;> simp [a]
      rcases this with a | a
      · exact absurd a h0
      · exact Int32.lt_of_lt_of_le (show nI 0 - 1 < 0 by decide) a) h1
  · obtain ⟨k, hk⟩ : ∃ k, n = k + 1 := ⟨n - 1, by omega⟩
    subst hk
    rw [nI_pred] at h1
    obtain ⟨j, hj, rfl⟩ := nI_of h0
    rw [nI_ltI (by omega) (by omega)] at h1
    rw [ix_nI (by omega)]
    exact ⟨rfl, by omega⟩
def txOK (σ : SG) (j : Nat) : Prop := (σ 17 j) = nI (ix (σ 17 j)) ∧ ix (σ 17 j) ≤ 500 ∧ (σ 18 j) = nI (ix (σ 18 j)) ∧ ix (σ 18 j) ≤ 50 ∧ (σ 19 j) = bi ((σ 19 j) = 1)
def ptM (σ : SG) (j : Nat) : Nat := pts ((σ 19 j) = 1) (ix (σ 18 j)) (ix (σ 17 j))
def loM (σ : SG) (j q : Nat) : Nat := lof ((σ 19 j) = 1) (ix (σ 18 j)) (ix (σ 17 j)) q
theorem ptM_le {σ : SG} {j : Nat} (h : txOK σ j) : ptM σ j ≤ 8 := (pts_spec _ _ _ h.2.1).1
def wtF (σ : SG) (v : Int32) : Nat → Int32
  | 0 => 0
  | k + 1 => wtF σ v k + bi (waitsP σ k v)

