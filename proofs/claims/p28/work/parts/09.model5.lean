def tkS (σ : SG) (a r : Nat) : SG := tkF (up2 σ 9 a ((σ 9 a) - 1)) a (r - 1)
theorem nI_m1 {r : Nat} (h : 0 < r) : nI r - 1 = nI (r - 1) := by
  obtain ⟨k, hk⟩ : ∃ k, r = k + 1 := ⟨r - 1, by omega⟩
  subst hk
  rw [nI_pred, Nat.add_sub_cancel]
