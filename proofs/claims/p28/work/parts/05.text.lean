/-! texts: wd: a wide one; ev: every so manieth letter takes 2 places; al: its letters -/
def nx (wd : Prop) [Decidable wd] (ev f : Nat) : Nat := if ¬ wd ∧ 0 < ev ∧ (f + 1) % ev = 0 then 2 else 1
def lim (wd : Prop) [Decidable wd] : Nat := if wd then 67 else 153
def tk (wd : Prop) [Decidable wd] (ev al : Nat) : Nat → Nat → Nat → Nat
  | 0, _, _ => 0
  | n + 1, f, t => if f < al ∧ t + nx wd ev f ≤ lim wd then tk wd ev al n (f + 1) (t + nx wd ev f) + 1 else 0
def sz (wd : Prop) [Decidable wd] (ev al f : Nat) : Nat := tk wd ev al (al - f) f 0
def stt (wd : Prop) [Decidable wd] (ev al : Nat) : Nat → Nat
  | 0 => 0
  | k + 1 => stt wd ev al k + sz wd ev al (stt wd ev al k)
def szp (wd : Prop) [Decidable wd] (ev al : Nat) : Nat → Nat
  | 0 => 0
  | k + 1 => sz wd ev al (stt wd ev al k)
def plcs (wd : Prop) [Decidable wd] (ev al : Nat) : Nat := if wd then al else al + (if ev = 0 then 0 else al / ev)
def lof (wd : Prop) [Decidable wd] (ev al q : Nat) : Nat := if plcs wd ev al ≤ (if wd then 70 else 160) then (if q = 0 then al else 0) else sz wd ev al (stt wd ev al q)
theorem nx_le (wd : Prop) [Decidable wd] (ev f : Nat) : 1 ≤ nx wd ev f ∧ nx wd ev f ≤ 2 ∧ (wd → nx wd ev f = 1) := by
  unfold nx
  split
  · next h => exact ⟨by omega, by omega, fun w => absurd w h.1⟩
  · exact ⟨by omega, by omega, fun _ => rfl⟩
theorem lim_le (wd : Prop) [Decidable wd] : 67 ≤ lim wd ∧ lim wd ≤ 153 := by unfold lim; split <;> omega
theorem tk_0 (wd : Prop) [Decidable wd] (ev al : Nat) : ∀ n f t, al ≤ f → tk wd ev al n f t = 0
  | 0, _, _, _ => rfl
  | n + 1, f, t, h => by unfold tk; rw [if_neg (by omega)]
theorem tk_le (wd : Prop) [Decidable wd] (ev al : Nat) : ∀ n f t, f ≤ al → f + tk wd ev al n f t ≤ al
  | 0, f, t, h => by unfold tk; omega
  | n + 1, f, t, h => by
    unfold tk
    split
    · next h2 => have := tk_le wd ev al n (f + 1) (t + nx wd ev f) h2.1; omega
    · omega
theorem tk_fuel (wd : Prop) [Decidable wd] (ev al : Nat) : ∀ n f t, al - f ≤ n → tk wd ev al n f t = tk wd ev al (al - f) f t
  | 0, f, t, h => by rw [show al - f = 0 by omega]
  | n + 1, f, t, h => by
    by_cases hf : f < al
    · obtain ⟨k, hk⟩ : ∃ k, al - f = k + 1 := ⟨al - f - 1, by omega⟩
      rw [hk]
      unfold tk
      split
      · rw [tk_fuel wd ev al n (f + 1) _ (by omega), show al - (f + 1) = k by omega]
      · rfl
    · rw [tk_0 _ _ _ _ _ _ (by omega), tk_0 _ _ _ _ _ _ (by omega)]
/-- while 'need' places for i letters are left, i letters are taken -/
theorem tk_least (wd : Prop) [Decidable wd] (ev al : Nat) : ∀ n f t i, i ≤ n → f + i ≤ al → t + (if wd then 1 else 2) * i ≤ lim wd → i ≤ tk wd ev al n f t
  | _, f, t, 0, _, _, _ => Nat.zero_le _
  | 0, f, t, i + 1, h, _, _ => by omega
  | n + 1, f, t, i + 1, h, h2, h3 => by
    have hn := nx_le wd ev f
    have hm : nx wd ev f ≤ (if wd then 1 else 2) := by
      by_cases w : wd
      · rw [if_pos w, hn.2.2 w]; exact Nat.le_refl 1
      · rw [if_neg w]; exact hn.2.1
    have hq : (if wd then 1 else 2) * (i + 1) = (if wd then 1 else 2) * i + (if wd then 1 else 2) := Nat.mul_succ _ _
    unfold tk
    rw [if_pos ⟨by omega, by omega⟩]
    have := tk_least wd ev al n (f + 1) (t + nx wd ev f) i (by omega) (by omega) (by omega)
    omega
theorem sz_least (wd : Prop) [Decidable wd] (ev al f : Nat) : min 67 (al - f) ≤ sz wd ev al f := by
  rcases Nat.lt_or_ge al f with hf | hf
  · rw [show al - f = 0 by omega]; exact Nat.le_trans (Nat.min_le_right _ _) (Nat.zero_le _)
  unfold sz
  refine tk_least wd ev al _ f 0 _ (Nat.min_le_right _ _) (by omega) ?_
  unfold lim
  by_cases w : wd
  · rw [if_pos w, if_pos w]; omega
  · rw [if_neg w, if_neg w]; omega
theorem sz_le (wd : Prop) [Decidable wd] (ev al f : Nat) (h : f ≤ al) : f + sz wd ev al f ≤ al := tk_le wd ev al _ f 0 h
theorem stt_le (wd : Prop) [Decidable wd] (ev al : Nat) : ∀ k, stt wd ev al k ≤ al
  | 0 => Nat.zero_le _
  | k + 1 => sz_le wd ev al _ (stt_le wd ev al k)
theorem stt_ge (wd : Prop) [Decidable wd] (ev al : Nat) : ∀ k, min (67 * k) al ≤ stt wd ev al k
  | 0 => by omega
  | k + 1 => by
    have h1 := stt_ge wd ev al k
    have h2 := sz_least wd ev al (stt wd ev al k)
    have h3 := stt_le wd ev al k
    show _ ≤ stt wd ev al k + sz wd ev al (stt wd ev al k)
    omega
theorem sz_pos (wd : Prop) [Decidable wd] (ev al f : Nat) : 0 < sz wd ev al f ↔ f < al := by
  have h := sz_least wd ev al f
  constructor
  · intro h0
    rcases Nat.lt_or_ge f al with q | q
    · exact q
    · unfold sz at h0
      rw [tk_0 _ _ _ _ _ _ q] at h0
      omega
  · intro h0; omega
theorem lof_le (wd : Prop) [Decidable wd] (ev al q : Nat) : lof wd ev al q ≤ al := by
  unfold lof
  by_cases h : plcs wd ev al ≤ (if wd then 70 else 160)
  · rw [if_pos h]; by_cases h0 : q = 0
    · rw [if_pos h0]; exact Nat.le_refl _
    · rw [if_neg h0]; exact Nat.zero_le _
  · rw [if_neg h]
    have := sz_le wd ev al _ (stt_le wd ev al q)
    omega
theorem lof_8 (wd : Prop) [Decidable wd] (ev al q : Nat) (hal : al ≤ 500) (hq : 8 ≤ q) : lof wd ev al q = 0 := by
  unfold lof
  by_cases h : plcs wd ev al ≤ (if wd then 70 else 160)
  · rw [if_pos h, if_neg (by omega)]
  · rw [if_neg h]
    have h1 := stt_ge wd ev al q
    have h2 := sz_pos wd ev al (stt wd ev al q)
    have h3 := stt_le wd ev al q
    omega
/-- how many parts: the first place without letters -/
def ptsF (wd : Prop) [Decidable wd] (ev al : Nat) : Nat → Nat → Nat
  | 0, k => k
  | n + 1, k => if 0 < lof wd ev al k then ptsF wd ev al n (k + 1) else k
def pts (wd : Prop) [Decidable wd] (ev al : Nat) : Nat := ptsF wd ev al 8 0
theorem ptsF_spec (wd : Prop) [Decidable wd] (ev al : Nat) (hal : al ≤ 500) : ∀ n k, k + n = 8 → (∀ j, j < k → 0 < lof wd ev al j) → ptsF wd ev al n k ≤ 8 ∧ lof wd ev al (ptsF wd ev al n k) = 0 ∧ ∀ j, j < ptsF wd ev al n k → 0 < lof wd ev al j
  | 0, k, h, hj => by
    unfold ptsF
    exact ⟨by omega, lof_8 wd ev al k hal (by omega), hj⟩
  | n + 1, k, h, hj => by
    unfold ptsF
    split
    · next h0 =>
      refine ptsF_spec wd ev al hal n (k + 1) (by omega) (fun j hjk => ?_)
      rcases Nat.lt_or_ge j k with q | q
      · exact hj j q
      · rw [show j = k by omega]; exact h0
    · next h0 => exact ⟨by omega, by omega, hj⟩
theorem pts_spec (wd : Prop) [Decidable wd] (ev al : Nat) (hal : al ≤ 500) : pts wd ev al ≤ 8 ∧ lof wd ev al (pts wd ev al) = 0 ∧ ∀ j, j < pts wd ev al → 0 < lof wd ev al j := ptsF_spec wd ev al hal 8 0 rfl (fun j h => absurd h (Nat.not_lt_zero j))
theorem pts_pos (wd : Prop) [Decidable wd] (ev al : Nat) (hal : al ≤ 500) (h0 : 0 < al) : 0 < pts wd ev al := by
  have h := (pts_spec wd ev al hal).2.1
  rcases Nat.eq_zero_or_pos (pts wd ev al) with q | q
  · rw [q] at h
    unfold lof at h
    by_cases h9 : plcs wd ev al ≤ (if wd then 70 else 160)
    · rw [if_pos h9, if_pos rfl] at h; omega
    · rw [if_neg h9] at h
      have := (sz_pos wd ev al (stt wd ev al 0)).mpr (show stt wd ev al 0 < al from h0)
      omega
  · exact q
theorem nI_plcs (wd : Prop) [Decidable wd] (ev al : Nat) (ha : al ≤ 500) (he : ev ≤ 50) : nI (plcs wd ev al) = (if wd then nI al else (if nI ev = 0 then (nI al + 0) else (nI al + (nI al / nI ev)))) ∧ plcs wd ev al ≤ 1000 := by
  unfold plcs
  by_cases w : wd
  · rw [if_pos w, if_pos w]; exact ⟨rfl, by omega⟩
  · rw [if_neg w, if_neg w]
    by_cases h0 : ev = 0
    · subst h0
      rw [if_pos rfl, if_pos (show nI 0 = 0 from rfl)]
      exact ⟨by rw [Nat.add_zero, Int32.add_zero], by omega⟩
    · have hd := Nat.div_le_self al ev
      rw [if_neg h0, if_neg (nI_ne0 (by omega) (by omega)), pk_div (by omega) (by omega) (by omega), nI_add]
      exact ⟨rfl, by omega⟩
theorem ev_pos {ev : Nat} (h : ¬ nI ev ≤ 0) (hv : ev ≤ 50) : 0 < ev := by
  rcases Nat.eq_zero_or_pos ev with q | q
  · subst q; exact absurd (by decide) h
  · exact q
theorem nI_nx (wd : Prop) [Decidable wd] (ev f : Nat) (hev : ev ≤ 50) (hf : f < 2 ^ 20) : nI (nx wd ev f) = (if wd then 1 else (if nI ev ≤ 0 then 1 else (if ((nI f + 1) - (nI f + 1) / nI ev * nI ev) = 0 then 2 else 1))) := by
  unfold nx
  by_cases w : wd
  · rw [if_pos w, if_neg (fun h => h.1 w)]; rfl
  · rw [if_neg w]
    by_cases h0 : ev = 0
    · subst h0
      rw [if_pos (show nI 0 ≤ 0 by decide), if_neg (fun h => by omega)]; rfl
    · rw [if_neg (nI_nle (by omega) (by omega)), nI_1, pk_rem (by omega) (by omega) (by omega)]
      by_cases hr : (f + 1) % ev = 0
      · rw [if_pos ⟨w, by omega, hr⟩, hr, if_pos (show nI 0 = 0 from rfl)]; rfl
      · have := Nat.mod_le (f + 1) ev
        rw [if_neg (fun h => hr h.2.2), if_neg (nI_ne0 (by omega) (by omega))]; rfl
theorem nI_lim (wd : Prop) [Decidable wd] (a b : Nat) (ha : a ≤ 1000) (hb : b ≤ 2) : ((if wd then (67 : Int32) else 153) < (nI a + nI b)) ↔ ¬ a + b ≤ lim wd := by
  rw [nI_add]
  unfold lim
  by_cases w : wd
  · rw [if_pos w, if_pos w, show (67 : Int32) = nI 67 from rfl, nI_ltI (by omega) (by omega)]; omega
  · rw [if_neg w, if_neg w, show (153 : Int32) = nI 153 from rfl, nI_ltI (by omega) (by omega)]; omega
theorem nI_pl1 (wd : Prop) [Decidable wd] (a : Nat) (ha : a ≤ 1000) : ((if wd then (70 : Int32) else 160) < nI a) ↔ ¬ a ≤ (if wd then 70 else 160) := by
  by_cases w : wd
  · rw [if_pos w, if_pos w, show (70 : Int32) = nI 70 from rfl, nI_ltI (by omega) (by omega)]; omega
  · rw [if_neg w, if_neg w, show (160 : Int32) = nI 160 from rfl, nI_ltI (by omega) (by omega)]; omega
theorem tk_step (wd : Prop) [Decidable wd] (ev al : Nat) {f z t : Nat} {g : Bool} {c : Nat} (hal : al ≤ 500) (hg : g = true) (hf : ¬ nI al ≤ nI (f + z)) (hl : ¬ (if wd then (67 : Int32) else 153) < (nI t + nI (nx wd ev (f + z)))) (hb : f + z ≤ al) (ht : t ≤ 153) (hs : z + (if g = true then tk wd ev al (al - (f + z)) (f + z) t else 0) = c) : f + (z + 1) ≤ al ∧ t + nx wd ev (f + z) ≤ 153 ∧ z + 1 + (if true = true then tk wd ev al (al - (f + (z + 1))) (f + (z + 1)) (t + nx wd ev (f + z)) else 0) = c ∧ 2 * (al - (f + (z + 1))) + (if true = true then 1 else 0) < 2 * (al - (f + z)) + (if g = true then 1 else 0) := by
  have hx := nx_le wd ev (f + z)
  have hm := lim_le wd
  rw [nI_lim wd t _ (by omega) hx.2.1, Classical.not_not] at hl
  rw [nI_leI (by omega) (by omega)] at hf
  rw [if_pos hg] at hs
  obtain ⟨k, hk⟩ : ∃ k, al - (f + z) = k + 1 := ⟨al - (f + z) - 1, by omega⟩
  rw [hk] at hs
  unfold tk at hs
  rw [if_pos ⟨by omega, hl⟩] at hs
  rw [if_pos rfl, if_pos rfl, if_pos hg, show al - (f + (z + 1)) = k by omega, show f + (z + 1) = f + z + 1 by omega]
  exact ⟨by omega, by omega, by omega, by omega⟩
theorem tk_stop (wd : Prop) [Decidable wd] (ev al : Nat) {f z t : Nat} {g : Bool} {c : Nat} (hal : al ≤ 500) (hg : g = true) (hl : (if wd then (67 : Int32) else 153) < (nI t + nI (nx wd ev (f + z)))) (ht : t ≤ 153) (hs : z + (if g = true then tk wd ev al (al - (f + z)) (f + z) t else 0) = c) : z + (if false = true then tk wd ev al (al - (f + z)) (f + z) t else 0) = c ∧ 2 * (al - (f + z)) + (if false = true then 1 else 0) < 2 * (al - (f + z)) + (if g = true then 1 else 0) := by
  have hx := nx_le wd ev (f + z)
  rw [nI_lim wd t _ (by omega) hx.2.1] at hl
  rw [if_pos hg] at hs ⊢
  rw [if_neg (by decide)]
  refine ⟨?_, by rw [if_neg (by decide)]; omega⟩
  rw [← hs]
  congr 1
  cases h : al - (f + z) with
  | zero => rfl
  | succ k =>
    unfold tk
    rw [if_neg (fun q => hl q.2)]
theorem tk_end (wd : Prop) [Decidable wd] (ev al : Nat) {f z t : Nat} {g : Bool} {c : Nat} (hs : z + (if g = true then tk wd ev al (al - (f + z)) (f + z) t else 0) = c) (h : ¬ g = true ∨ al ≤ f + z) : z = c := by
  rcases h with h | h
  · rw [if_neg h] at hs; omega
  · rw [tk_0 _ _ _ _ _ _ h] at hs
    split at hs <;> omega
theorem nI_lof1 (wd : Prop) [Decidable wd] (ev al q : Nat) (hal : al ≤ 500) (hev : ev ≤ 50) (hq : q ≤ 40) (h : ¬ (if wd then (70 : Int32) else 160) < nI (plcs wd ev al)) : (if nI q = 0 then nI al else 0) = nI (lof wd ev al q) := by
  rw [nI_pl1 wd _ (nI_plcs wd ev al hal hev).2, Classical.not_not] at h
  unfold lof
  rw [if_pos h]
  by_cases h0 : q = 0
  · subst h0; rfl
  · rw [if_neg h0, if_neg (nI_ne0 (by omega) (by omega))]; rfl
theorem nI_lof2 (wd : Prop) [Decidable wd] (ev al q : Nat) (hal : al ≤ 500) (hev : ev ≤ 50) (h : (if wd then (70 : Int32) else 160) < nI (plcs wd ev al)) : nI (szp wd ev al (q + 1)) = nI (lof wd ev al q) := by
  rw [nI_pl1 wd _ (nI_plcs wd ev al hal hev).2] at h
  unfold lof
  rw [if_neg h]
  rfl
