abbrev knP (σ : SG) (a : Nat) (v to : Int32) (k : Nat) : Prop := (σ 12 k) = v ∧ (σ 13 k) = to ∧ (σ 21 k) = (σ 5 a) ∧ ¬ 30 ≤ ((σ 0 0) - (σ 16 k))
def knF (σ : SG) (a : Nat) (v to : Int32) : Nat → Int32
  | 0 => -1
  | k + 1 => if knP σ a v to k then nI k else knF σ a v to k
def knG (σ : SG) (a : Nat) (v to : Int32) (k : Nat) : Int32 := if (σ 5 a) = (-1) then -1 else knF σ a v to k
theorem knG_0 (σ : SG) (a : Nat) (v to : Int32) : knG σ a v to 0 = -1 := by unfold knG; split <;> rfl
theorem knG_none {σ : SG} {a : Nat} (v to : Int32) (k : Nat) (h : (σ 5 a) = (-1)) : knG σ a v to k = -1 := if_pos h
theorem knG_s {σ : SG} {a : Nat} (v to : Int32) (k : Nat) (h : ¬ (σ 5 a) = (-1)) : knG σ a v to (k + 1) = if knP σ a v to k then nI k else knG σ a v to k := by
  unfold knG; rw [if_neg h, if_neg h]; rfl
abbrev thP (σ : SG) (a : Nat) (v : Int32) (k : Nat) : Prop := (σ 12 k) = v ∧ ¬ (σ 8 a) ≤ ((σ 0 0) - (σ 16 k))
def thF (σ : SG) (a : Nat) (v : Int32) : Nat → Int32
  | 0 => 0
  | k + 1 => thF σ a v k + bi (thP σ a v k)
abbrev frC (σ : SG) (v t : Int32) (k : Nat) : Prop := waitsP σ k v ∧ ¬ t < (σ 26 k)
abbrev frA (σ : SG) (v t : Int32) (k : Nat) (b : Int32) : Prop := frC σ v t k ∧ ¬ b = (-1) ∧ ((σ 14 (ix b)) < (σ 14 k) ∨ ((σ 14 k) = (σ 14 (ix b)) ∧ ¬ (σ 26 (ix b)) ≤ (σ 26 k)))
def frF (σ : SG) (v t : Int32) : Nat → Int32
  | 0 => -1
  | k + 1 => if frC σ v t k then (if frF σ v t k = (-1) then nI k else (if frA σ v t k (frF σ v t k) then nI k else frF σ v t k)) else frF σ v t k
theorem frF_ix {σ : SG} {v t : Int32} : ∀ {k : Nat}, k ≤ 40 → ¬ frF σ v t k = (-1) → frF σ v t k = nI (ix (frF σ v t k)) ∧ ix (frF σ v t k) < k
  | 0, _, h => absurd rfl h
  | k + 1, hk, h => by
    have hnew : ∀ x : Int32, x = nI k → x = nI (ix x) ∧ ix x < k + 1 := by
      intro x hx
      rw [hx, ix_nI (by omega)]
      exact ⟨rfl, by omega⟩
    have hold : ¬ frF σ v t k = (-1) → frF σ v t k = nI (ix (frF σ v t k)) ∧ ix (frF σ v t k) < k + 1 := fun q => ⟨(frF_ix (by omega) q).1, by have := (frF_ix (by omega) q).2; omega⟩
    unfold frF at h ⊢
    split
    · next h1 =>
      rw [if_pos h1] at h
      split
      · exact hnew _ rfl
      · next h2 =>
        rw [if_neg h2] at h
        split
        · exact hnew _ rfl
        · exact hold h2
    · next h1 =>
      rw [if_neg h1] at h
      exact hold h
def duF (σ : SG) (v : Int32) : Nat → SG
  | 0 => σ
  | k + 1 => up2 (duF σ v k) 26 k (if waitsP (duF σ v k) k v then (if (duF σ v k) 26 k ≤ (duF σ v k) 0 0 then (duF σ v k) 26 k else (duF σ v k) 0 0) else (duF σ v k) 26 k)
theorem duF_ne (σ : SG) (v : Int32) {f : Nat} (hf : f ≠ 26) (i : Nat) : ∀ k, duF σ v k f i = σ f i
  | 0 => rfl
  | k + 1 => by
    unfold duF
    rw [up2_ne _ _ (fun h => hf h.1)]
    exact duF_ne σ v hf i k
def wkS (σ : SG) (a : Nat) (v mk : Int32) (n : Nat) : SG := if ((σ 31 a) &&& mk) = mk then duF (up2 σ 31 a ((σ 31 a) - mk)) v n else σ
theorem wkS_ne (σ : SG) (a : Nat) (v mk : Int32) (n : Nat) {f : Nat} (h1 : f ≠ 26) (h2 : f ≠ 31) (i : Nat) : wkS σ a v mk n f i = σ f i := by
  unfold wkS
  split
  · rw [duF_ne _ _ h1, up2_ne _ _ (fun h => h2 h.1)]
  · rfl
def lkS (σ : SG) (a : Nat) (v : Int32) (n : Nat) : SG := if ¬ (σ 29 a) ≤ (σ 30 a) then wkS σ a v 2 n else σ
theorem lkS_ne (σ : SG) (a : Nat) (v : Int32) (n : Nat) {f : Nat} (h1 : f ≠ 26) (h2 : f ≠ 31) (i : Nat) : lkS σ a v n f i = σ f i := by
  unfold lkS
  split
  · exact wkS_ne σ a v 2 n h1 h2 i
  · rfl
def rcA (σ : SG) (j : Nat) : Nat := ix (σ 12 j)
def rcN (σ : SG) (j : Nat) : Nat := ix (σ 9 (rcA σ j))
def enS (σ : SG) (j : Nat) (v how : Int32) : SG := if (σ 22 j) = 0 then up2 σ 23 j how else up2 (up2 (up2 σ 23 j how) 10 ((40 * rcA σ j) + rcN σ j) ((10 * v) + how)) 9 (rcA σ j) ((σ 9 (rcA σ j)) + 1)
def enOK (σ : SG) (j : Nat) : Prop := (σ 12 j) = nI (rcA σ j) ∧ rcA σ j < 4 ∧ (σ 9 (rcA σ j)) = nI (rcN σ j) ∧ rcN σ j < 40
