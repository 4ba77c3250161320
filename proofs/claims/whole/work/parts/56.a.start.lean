theorem cw_adE {D : va_G} {ad ae : Nat → Nat → Nat} {cs : Nat → ClassId} {σ : SG} {Lx : Nat → List Nat} {cap : Nat → Nat} {mk : Nat → Int32} {ev : SG} {zl tx mt tn : Nat → Nat} {tc : SG} {w0 : CF} (h : ∀ k, 10 ≤ k → ∀ i, ae k i = ad k i) : cw D ae cs σ Lx cap mk ev zl tx mt tn tc w0 = cw D ad cs σ Lx cap mk ev zl tx mt tn tc w0 := by
  have e17 : ae 17 = ad 17 := funext (h 17 (by decide))
  funext k i
  unfold cw cO cA cR cL cM cX cE
  simp only [e17, h 11 (by decide), h 12 (by decide), h 13 (by decide), h 14 (by decide), h 15 (by decide), h 16 (by decide), h 17 (by decide), h 18 (by decide), h 19 (by decide), h 20 (by decide), h 21 (by decide)]
theorem mlen_31 {f : Nat} (h : 0 < mlen f) : f < 32 := by
  rcases Nat.lt_or_ge f 32 with q | q
  · exact q
  · unfold mlen at h
    rw [if_neg (by omega), if_neg (by omega), if_neg (by omega), if_neg (by omega), if_neg (by omega), if_neg (by omega)] at h
    exact absurd h (Nat.lt_irrefl 0)
theorem ad_pick (ad2 ad5 : Nat → Nat → Nat) : ∃ ae : Nat → Nat → Nat, (∀ k, 10 ≤ k → ∀ i, ae k i = ad2 k i) ∧ ∀ k, k < 10 → ∀ i, ae k i = ad5 k i :=
  ⟨fun k i => if 10 ≤ k then ad2 k i else ad5 k i, fun k hk i => if_pos hk, fun k hk i => if_neg (by omega)⟩
theorem LI_start {D : va_G} {cs : Nat → ClassId} {ad1 ad2 ad4 ae : Nat → Nat → Nat} {dm3 : Nat → Nat → Prop} {w1 : CF} {q1 q3 q5 : Nat} {dm5 : Nat → Nat → Prop} (hd : ∀ a b, dm5 a b ↔ ((((a = 10 ∧ b = 0) ∨ (a = 11 ∧ b = 0) ∨ (a = 12 ∧ b = 0) ∨ (a = 13 ∧ b < 4) ∨ (a = 14 ∧ b < 6) ∨ (a = 15 ∧ ((1 ≤ b ∧ b < 1 + 4) ∨ (5 ≤ b ∧ b < 5 + 6) ∨ (b = 0))) ∨ (a = 21 ∧ b < 4)) ∨ (a = 0 ∧ b = 0)) ∨ (a = 1 ∧ b < 32 ∧ 0 < mlen b)) ∨ (a = 2 ∧ b = 0)) (h1 : ae 10 0 = q1) (h3 : ae 0 0 = q3) (h5 : ae 2 0 = q5) : LI D cs q1 q3 q5 0 sgI ae dm5 (mw ae cs sgI (cw D ae cs sgI (fun _ => []) (fun _ => 0) (fun _ => 0) (fun _ _ => 0) (fun _ => 0) (fun i => i) (fun _ => 0) (fun _ => 1) (fun _ => upd (fun _ => 0) 0 1) (fun _ _ => .inl (cs 2, 1, .inr (.inl (fun _ => 0)))))) := by
  refine ⟨0, 4, (fun _ => []), (fun _ => 0), (fun _ => 0), (fun _ _ => 0), (fun _ => 0), (fun i => i), (fun _ => 0), (fun _ => 1), (fun _ => upd (fun _ => 0) 0 1), (fun _ _ => .inl (cs 2, 1, .inr (.inl (fun _ => 0)))), (fun _ => 0), ⟨?_, ?_, ?_, fun i hi => ?_, fun i hi => ?_, fun i hi => ?_, fun i hi hc => absurd hc (Nat.lt_irrefl 0), fun j hj => absurd hj (Nat.not_lt_zero j), fun t ht => ?_⟩, fun i hi => ⟨Nat.le_refl _, Nat.zero_le _, fun j hj => absurd hj List.not_mem_nil⟩, ⟨?_, fun f hf => ?_⟩, ?_, ⟨h1, h3, h5⟩, INV.start, rfl, rfl⟩ <;> rw [hd]
  · omega
  · omega
  · omega
  · omega
  · omega
  · omega
  · omega
  · omega
  · have := mlen_31 hf
    omega
  · omega
