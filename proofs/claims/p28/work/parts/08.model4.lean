def faC (σ : SG) (j : Nat) (cz : Int32) (c : Nat) : Int32 := (σ 0 0) + ((if cz = 2 then 2 else (if cz = 1 then 5 else 10) : Int32) * (if (σ 27 ((3 * j) + c)) ≤ 2 then (1 <<< ((σ 27 ((3 * j) + c)) &&& 31)) else 8))
def faS (σ : SG) (j : Nat) (cz : Int32) (c : Nat) : SG := (up2 (up2 (up2 σ 27 ((3 * j) + c) ((σ 27 ((3 * j) + c)) + 1)) 26 j (faC σ j cz c)) 31 (ix (σ 13 j)) ((σ 31 (ix (σ 13 j))) ||| (if cz = 2 then 0 else (if cz = 1 then 1 else 2))))
def roOK (σ : SG) (j : Nat) : Prop := (σ 13 j) = nI (ix (σ 13 j)) ∧ ix (σ 13 j) < 6
def clF (σ : SG) (j : Nat) : Nat → SG
  | 0 => σ
  | k + 1 => up2 (clF σ j k) 27 ((3 * j) + k) 0
theorem clF_ne (σ : SG) (j : Nat) {f : Nat} (hf : f ≠ 27) (i : Nat) : ∀ k, clF σ j k f i = σ f i
  | 0 => rfl
  | k + 1 => by unfold clF; rw [up2_ne _ _ (fun h => hf h.1)]; exact clF_ne σ j hf i k
def trC (σ : SG) (j : Nat) : Int32 := (if (σ 28 (ix (σ 13 j))) = 0 then 0 else (σ 28 (ix (σ 13 j))))
def tr0 (σ : SG) (j : Nat) : SG := (up2 σ 25 j ((σ 25 j) + 1))
def tr1 (σ : SG) (j : Nat) : SG := (clF (up2 (up2 (up2 (tr0 σ j) 30 (ix (σ 13 j)) ((σ 30 (ix (σ 13 j))) + 1)) 24 j ((σ 24 j) + 1)) 26 j (σ 0 0)) j 3)
abbrev trF (σ : SG) (j : Nat) : Prop := ¬ (σ 28 (ix (σ 13 j))) = 0 ∨ ¬ (σ 30 (ix (σ 13 j))) < (σ 29 (ix (σ 13 j)))
def trS (σ : SG) (j : Nat) (v : Int32) : SG := if (σ 28 (ix (σ 13 j))) = 3 then enS (tr0 σ j) j v 4 else if trF σ j then faS (tr0 σ j) j (trC σ j) (ix (trC σ j)) else if ((σ 24 j) + 1) = nI (ptM σ j) then enS (tr1 σ j) j v 1 else tr1 σ j
def trR (σ : SG) (j : Nat) : Int32 := if (σ 28 (ix (σ 13 j))) = 3 then 0 else if trF σ j then 0 else 1
def moOK (σ : SG) (r : Nat) : Prop := (σ 28 r) = nI (ix (σ 28 r)) ∧ ix (σ 28 r) < 4
theorem trC_ok {σ : SG} {j : Nat} (h : moOK σ (ix (σ 13 j))) (h3 : ¬ (σ 28 (ix (σ 13 j))) = 3) : trC σ j = nI (ix (trC σ j)) ∧ ix (trC σ j) < 3 := by
  unfold trC
  split
  · exact ⟨rfl, by decide⟩
  · refine ⟨h.1, ?_⟩
    have := h.2
    rcases Nat.lt_or_ge (ix (σ 28 (ix (σ 13 j)))) 3 with q | q
    · exact q
    · exact absurd (by rw [h.1, show ix (σ 28 (ix (σ 13 j))) = 3 by omega]; rfl) h3
def tkF (σ : SG) (a : Nat) : Nat → SG
  | 0 => σ
  | i + 1 => up2 (tkF σ a i) 10 ((40 * a) + i) ((tkF σ a i) 10 (((40 * a) + i) + 1))
theorem tkF_ne (σ : SG) (a : Nat) {f : Nat} (hf : f ≠ 10) (i : Nat) : ∀ k, tkF σ a k f i = σ f i
  | 0 => rfl
  | k + 1 => by unfold tkF; rw [up2_ne _ _ (fun h => hf h.1)]; exact tkF_ne σ a hf i k

