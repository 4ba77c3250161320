/-! the reference's words -/
abbrev inR (v a b : Int32) : Prop := ¬ v < a ∧ ¬ b < v
abbrev accP (v : Int32) : Prop := inR v 0 3
abbrev recP (v : Int32) : Prop := inR v 0 5
def ix (v : Int32) : Nat := v.toNatClampNeg
theorem ix_nI {n : Nat} (h : n < 2 ^ 31) : ix (nI n) = n := nI_clamp h
theorem ix_in {v b : Int32} {n : Nat} (hb : b.toInt = n) (h : inR v 0 b) : v = nI (ix v) ∧ ix v < n + 1 := by
  have h2 : v ≤ b := Int32.not_lt.mp h.2
  obtain ⟨j, hj, rfl⟩ := nI_of2 hb h.1 h2
  have hn : n < 2 ^ 31 := by
    have := b.toInt_lt
    omega
  rw [ix_nI (by omega)]
  exact ⟨rfl, by omega⟩
theorem ix_acc {v : Int32} (h : accP v) : v = nI (ix v) ∧ ix v < 4 := ix_in (n := 3) rfl h
theorem ix_rec {v : Int32} (h : recP v) : v = nI (ix v) ∧ ix v < 6 := ix_in (n := 5) rfl h
theorem cd_ok {P Q : Prop} [Decidable P] [Decidable Q] : (if P then (if Q then (0 : Int32) else 2) else 1) ≤ 0 ↔ P ∧ Q := by
  by_cases hp : P <;> by_cases hq : Q <;> simp [hp, hq] <;> decide
theorem cd_ok1 {P : Prop} [Decidable P] : (bi (¬ P)) ≤ 0 ↔ P := by
  by_cases hp : P <;> simp [bi, hp] <;> decide
abbrev waitsP (σ : SG) (j : Nat) (r : Int32) : Prop := σ 23 j = 0 ∧ σ 13 j = r
