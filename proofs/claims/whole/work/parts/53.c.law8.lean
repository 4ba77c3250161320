theorem sd_all : (List.range 41).all (fun a => (List.range 41).all (fun b => decide (FP.f2d (shV a b) &&& 0x7fffffffffffffff ≤ 0x7ff0000000000000 ∧ Op.cmpValue (FP.dcmp (FP.f2d (shV a b)) (FP.f2d (shV a b))) .l = 0))) = true := by decide +kernel
theorem sh_dbl {a b : Nat} (ha : a ≤ 40) (hb : b ≤ 40) : vf_n64 (FP.f2d (shV a b)) ∧ Op.cmpValue (FP.dcmp (FP.f2d (shV a b)) (FP.f2d (shV a b))) .l = 0 := by
  unfold vf_n64
  exact of_decide_eq_true (List.all_eq_true.mp (List.all_eq_true.mp sd_all a (List.mem_range.mpr (by omega))) b (List.mem_range.mpr (by omega)))
theorem ed_le (σ : SG) (n : Nat) (hn : n ≤ 40) : dvN σ n ≤ 40 ∧ edN σ n ≤ 40 := by
  have h : ∀ k, dvN σ k ≤ k ∧ edN σ k ≤ k := fun k => by
    induction k with
    | zero => exact ⟨Nat.le_refl _, Nat.le_refl _⟩
    | succ k ih =>
      rw [dvN_s, edN_s]
      constructor
      · by_cases q : σ 23 k = 1
        · rw [if_pos q]; omega
        · rw [if_neg q]; omega
      · by_cases q : σ 23 k = 0
        · rw [if_pos q]; omega
        · rw [if_neg q]; omega
  have := h n
  omega
