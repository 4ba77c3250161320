theorem cd_sub {P Q K Z M : Prop} [Decidable P] [Decidable Q] [Decidable K] [Decidable Z] [Decidable M] : (if P then (if Q then (if K then (if Z then (if M then (3 : Int32) else 0) else 3) else 0) else 2) else 1) ≤ 0 ↔ (P ∧ Q) ∧ (K → (Z ∧ ¬ M)) := by
  by_cases hp : P <;> by_cases hq : Q <;> by_cases hk : K <;> by_cases hz : Z <;> by_cases hm : M <;> simp [hp, hq, hk, hz, hm] <;> decide
abbrev dlP (σ : SG) (a : Nat) (v to : Int32) (j : Nat) : Prop := (σ 23 j) = 0 ∧ (σ 12 j) = v ∧ (σ 13 j) = to ∧ (σ 20 j) = (σ 4 a) ∧ (σ 24 j) = 0
def dlF (σ : SG) (a : Nat) (v to : Int32) : Nat → SG
  | 0 => σ
  | k + 1 => if dlP (dlF σ a v to k) a v to k then enS (dlF σ a v to k) k (nI k) 3 else dlF σ a v to k
def dlG (σ : SG) (a : Nat) (v to : Int32) (k : Nat) : SG := if (σ 4 a) = 0 then σ else dlF σ a v to k
theorem enS_ne (σ : SG) (j : Nat) (v how : Int32) {f : Nat} (h1 : f ≠ 23) (h2 : f ≠ 10) (h3 : f ≠ 9) (i : Nat) : enS σ j v how f i = σ f i := by
  unfold enS
  split
  · rw [up2_ne _ _ (fun h => h1 h.1)]
  · rw [up2_ne _ _ (fun h => h3 h.1), up2_ne _ _ (fun h => h2 h.1), up2_ne _ _ (fun h => h1 h.1)]
theorem dlF_ne (σ : SG) (a : Nat) (v to : Int32) {f : Nat} (h1 : f ≠ 23) (h2 : f ≠ 10) (h3 : f ≠ 9) (i : Nat) : ∀ k, dlF σ a v to k f i = σ f i
  | 0 => rfl
  | k + 1 => by
    unfold dlF
    split
    · rw [enS_ne _ _ _ _ h1 h2 h3]; exact dlF_ne σ a v to h1 h2 h3 i k
    · exact dlF_ne σ a v to h1 h2 h3 i k
theorem dlG_ne (σ : SG) (a : Nat) (v to : Int32) {f : Nat} (h1 : f ≠ 23) (h2 : f ≠ 10) (h3 : f ≠ 9) (i k : Nat) : dlG σ a v to k f i = σ f i := by
  unfold dlG
  split
  · rfl
  · exact dlF_ne σ a v to h1 h2 h3 i k
theorem dlG_0 (σ : SG) (a : Nat) (v to : Int32) : dlG σ a v to 0 = σ := by unfold dlG; split <;> rfl
theorem dlG_none {σ : SG} {a : Nat} (v to : Int32) (k : Nat) (h : (σ 4 a) = 0) : dlG σ a v to k = σ := if_pos h
theorem dlG_y {σ : SG} {a : Nat} (v to : Int32) (k : Nat) (h : ¬ (σ 4 a) = 0) (h2 : dlP (dlG σ a v to k) a v to k) : dlG σ a v to (k + 1) = enS (dlG σ a v to k) k (nI k) 3 := by
  have e : dlG σ a v to k = dlF σ a v to k := if_neg h
  rw [e] at h2 ⊢
  unfold dlG
  rw [if_neg h]
  conv => lhs; unfold dlF
  rw [if_pos h2]
theorem dlG_n {σ : SG} {a : Nat} (v to : Int32) (k : Nat) (h : ¬ (σ 4 a) = 0) (h2 : ¬ dlP (dlG σ a v to k) a v to k) : dlG σ a v to (k + 1) = dlG σ a v to k := by
  have e : dlG σ a v to k = dlF σ a v to k := if_neg h
  rw [e] at h2 ⊢
  unfold dlG
  rw [if_neg h]
  conv => lhs; unfold dlF
  rw [if_neg h2]
def nwS (τ σ : SG) (a n : Nat) (v to rank ticks : Int32) : SG := (up2 (up2 (up2 (up2 (up2 (up2 (up2 (up2 (up2 (up2 (up2 (up2 (up2 τ 12 n v) 13 n to) 14 n rank) 15 n ticks) 16 n (σ 0 0)) 26 n (σ 0 0)) 17 n (σ 1 a)) 18 n (σ 2 a)) 19 n (σ 3 a)) 20 n (σ 4 a)) 21 n (σ 5 a)) 22 n (σ 6 a)) 11 0 ((nI n) + 1))
def pt1 (σ : SG) : SG := up2 σ 0 0 ((σ 0 0) + 1)
abbrev exP (σ : SG) (k : Nat) : Prop := (σ 23 k) = 0 ∧ ¬ ((σ 0 0) - (σ 16 k)) < (σ 15 k)
def exF (σ : SG) : Nat → SG
  | 0 => σ
  | k + 1 => if exP (exF σ k) k then enS (exF σ k) k (nI k) 2 else exF σ k
theorem exF_ne (σ : SG) {f : Nat} (h1 : f ≠ 23) (h2 : f ≠ 10) (h3 : f ≠ 9) (i : Nat) : ∀ k, exF σ k f i = σ f i
  | 0 => rfl
  | k + 1 => by
    unfold exF
    split
    · rw [enS_ne _ _ _ _ h1 h2 h3]; exact exF_ne σ h1 h2 h3 i k
    · exact exF_ne σ h1 h2 h3 i k
def atB (σ : SG) (n r : Nat) : Int32 := frF σ (nI r) (σ 0 0) n
def atF (σ : SG) (n : Nat) : Nat → SG
  | 0 => σ
  | r + 1 => if atB (atF σ n r) n r = (-1) then atF σ n r else trS (atF σ n r) (ix (atB (atF σ n r) n r)) (atB (atF σ n r) n r)
def atN (σ : SG) (n : Nat) (x : Int32) : Nat → Int32
  | 0 => x
  | r + 1 => (atN σ n x r + (if atB (atF σ n r) n r = (-1) then 0 else trR (atF σ n r) (ix (atB (atF σ n r) n r))))
theorem atN_y {σ : SG} {n : Nat} (x : Int32) {r : Nat} (h : atB (atF σ n r) n r = (-1)) : atN σ n x (r + 1) = (atN σ n x r + 0) := by
  show (_ + (if _ then _ else _)) = _
  rw [if_pos h]
theorem atN_n {σ : SG} {n : Nat} (x : Int32) {r : Nat} (h : ¬ atB (atF σ n r) n r = (-1)) : atN σ n x (r + 1) = (atN σ n x r + trR (atF σ n r) (ix (atB (atF σ n r) n r))) := by
  show (_ + (if _ then _ else _)) = _
  rw [if_neg h]
def psF (σ : SG) (n : Nat) : Nat → SG
  | 0 => σ
  | t + 1 => atF (exF (pt1 (psF σ n t)) n) n 6
def psN (σ : SG) (n : Nat) : Nat → Int32
  | 0 => 0
  | t + 1 => atN (exF (pt1 (psF σ n t)) n) n (psN σ n t) 6
theorem faS_ne (σ : SG) (j : Nat) (cz : Int32) (c : Nat) {f : Nat} (h1 : f ≠ 27) (h2 : f ≠ 26) (h3 : f ≠ 31) (i : Nat) : faS σ j cz c f i = σ f i := by
  unfold faS
  rw [up2_ne _ _ (fun h => h3 h.1), up2_ne _ _ (fun h => h2 h.1), up2_ne _ _ (fun h => h1 h.1)]
theorem tr1_ne (σ : SG) (j : Nat) {f : Nat} (h1 : f ≠ 27) (h2 : f ≠ 26) (h3 : f ≠ 24) (h4 : f ≠ 30) (h5 : f ≠ 25) (i : Nat) : tr1 σ j f i = σ f i := by
  unfold tr1 tr0
  rw [clF_ne _ _ h1, up2_ne _ _ (fun h => h2 h.1), up2_ne _ _ (fun h => h3 h.1), up2_ne _ _ (fun h => h4 h.1), up2_ne _ _ (fun h => h5 h.1)]
/-- what an attempt leaves as it is -/
theorem trS_ne (σ : SG) (j : Nat) (v : Int32) {f : Nat} (h : f ≠ 27 ∧ f ≠ 26 ∧ f ≠ 31 ∧ f ≠ 24 ∧ f ≠ 30 ∧ f ≠ 25 ∧ f ≠ 23 ∧ f ≠ 10 ∧ f ≠ 9) (i : Nat) : trS σ j v f i = σ f i := by
  obtain ⟨h1, h2, h3, h4, h5, h6, h7, h8, h9⟩ := h
  have e0 : tr0 σ j f i = σ f i := up2_ne _ _ (fun q => h6 q.1)
  unfold trS
  split
  · rw [enS_ne _ _ _ _ h7 h8 h9, e0]
  · split
    · rw [faS_ne _ _ _ _ h1 h2 h3, e0]
    · split
      · rw [enS_ne _ _ _ _ h7 h8 h9, tr1_ne _ _ h1 h2 h4 h5 h6]
      · rw [tr1_ne _ _ h1 h2 h4 h5 h6]
theorem atF_ne (σ : SG) (n : Nat) {f : Nat} (h : f ≠ 27 ∧ f ≠ 26 ∧ f ≠ 31 ∧ f ≠ 24 ∧ f ≠ 30 ∧ f ≠ 25 ∧ f ≠ 23 ∧ f ≠ 10 ∧ f ≠ 9) (i : Nat) : ∀ r, atF σ n r f i = σ f i
  | 0 => rfl
  | r + 1 => by
    unfold atF
    split
    · exact atF_ne σ n h i r
    · rw [trS_ne _ _ _ h]; exact atF_ne σ n h i r
theorem psF_ne (σ : SG) (n : Nat) {f : Nat} (h : f ≠ 27 ∧ f ≠ 26 ∧ f ≠ 31 ∧ f ≠ 24 ∧ f ≠ 30 ∧ f ≠ 25 ∧ f ≠ 23 ∧ f ≠ 10 ∧ f ≠ 9) (h0 : f ≠ 0) (i : Nat) : ∀ t, psF σ n t f i = σ f i
  | 0 => rfl
  | t + 1 => by
    unfold psF
    rw [atF_ne _ _ h, exF_ne _ h.2.2.2.2.2.2.1 h.2.2.2.2.2.2.2.1 h.2.2.2.2.2.2.2.2, pt1, up2_ne _ _ (fun q => h0 q.1)]
    exact psF_ne σ n h h0 i t
/-- what an attempt wants of the state -/
def tryOK (σ : SG) (j : Nat) : Prop := enOK σ j ∧ roOK σ j ∧ txOK σ j ∧ moOK σ (ix (σ 13 j))
