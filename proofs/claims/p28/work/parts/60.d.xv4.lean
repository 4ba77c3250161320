/-! the letters of a text's parts -/
def lsum (f : Nat → Nat) : Nat → Nat
  | 0 => 0
  | k + 1 => lsum f k + f k
theorem lsum_c {f g : Nat → Nat} : ∀ {n : Nat}, (∀ k, k < n → f k = g k) → lsum f n = lsum g n
  | 0, _ => rfl
  | n + 1, h => by
    unfold lsum
    rw [h n (by omega), lsum_c (fun k hk => h k (by omega))]
theorem lsum_stt (wd : Prop) [Decidable wd] (ev al : Nat) (h : ¬ plcs wd ev al ≤ (if wd then 70 else 160)) : ∀ k, lsum (lof wd ev al) k = stt wd ev al k
  | 0 => rfl
  | k + 1 => by
    unfold lsum stt
    rw [lsum_stt wd ev al h k, lof_more wd ev al k h]
theorem lsum_lof (wd : Prop) [Decidable wd] (ev al : Nat) (hal : al ≤ 500) (h0 : 0 < al) : lsum (lof wd ev al) (pts wd ev al) = al := by
  by_cases c : plcs wd ev al ≤ (if wd then 70 else 160)
  · rw [pts_first wd ev al c hal h0]
    show 0 + lof wd ev al 0 = al
    rw [Nat.zero_add]
    unfold lof
    rw [if_pos c, if_pos rfl]
  · rw [lsum_stt wd ev al c]
    have h1 := (pts_spec wd ev al hal).2.1
    have h2 := stt_lt wd ev al (pts wd ev al) c
    have h3 := stt_le wd ev al (pts wd ev al)
    have h4 : ¬ stt wd ev al (pts wd ev al) < al := fun q => absurd (h2.mpr q) (by omega)
    omega
theorem lsum_le (wd : Prop) [Decidable wd] (ev al : Nat) (hal : al ≤ 500) (h0 : 0 < al) : ∀ k, k ≤ pts wd ev al → lsum (lof wd ev al) k ≤ 500 := by
  intro k hk
  have mono : ∀ d, lsum (lof wd ev al) k ≤ lsum (lof wd ev al) (k + d) := fun d => by
    induction d with
    | zero => exact Nat.le_refl _
    | succ d ih => exact Nat.le_trans ih (Nat.le_add_right _ _)
  have h := mono (pts wd ev al - k)
  rw [show k + (pts wd ev al - k) = pts wd ev al by omega, lsum_lof wd ev al hal h0] at h
  omega
theorem pts_small (wd : Prop) [Decidable wd] (ev al : Nat) (hal : al ≤ 70) (h0 : 0 < al) : pts wd ev al = 1 := by
  refine pts_first wd ev al ?_ (by omega) h0
  unfold plcs
  by_cases c : wd
  · rw [if_pos c, if_pos c]; exact hal
  · rw [if_neg c, if_neg c]
    have := Nat.div_le_self al ev
    split <;> omega
