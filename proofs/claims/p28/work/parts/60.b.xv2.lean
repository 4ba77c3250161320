/-! attempts keep it -/
theorem finT_o {j : Nat} {how : Int32} {s : CSt} {f : Nat} (hf : f ≠ 23) (y : Nat) : (finT j how s).1 f y = s.1 f y := up2_k hf y
theorem tkT_o {s : CSt} {f : Nat} (hf : f ≠ 0) (y : Nat) : (tkT s).1 f y = s.1 f y := up2_k hf y
theorem XV.t1 {n t : Nat} {T : Nat → Int32} {tk rd : Nat → Nat} {s : CSt} (h : XV n t T tk rd s.1 s.2.1) {j : Nat} (hj : j < n) (hw : s.1 23 j = 0) (hb : ix (s.1 25 j) + 1 ≤ 500) : XV n t T tk rd (t1T j s).1 (t1T j s).2.1 ∧ ∃ d q, (t1T j s).1 24 j = nI d ∧ (t1T j s).1 25 j = nI q ∧ d < q ∧ q ≤ 500 := by
  have e1 : (t1T j s).1 = up2 s.1 25 j (s.1 25 j + 1) := rfl
  have e2 : (t1T j s).2.1 = s.2.1 := rfl
  rw [e1, e2]
  have k : ∀ f, f ≠ 25 → ∀ i, up2 s.1 25 j (s.1 25 j + 1) f i = s.1 f i := fun f hf i => up2_k hf i
  obtain ⟨h1, h2, h3, d0, d, q, u, g1, g2, g3, g4, g5, g6, g7, g8, g9⟩ := h.1 j hj
  have hq : ix (s.1 25 j) = q := by rw [g3]; exact ix_nI (by omega)
  have e25 : up2 s.1 25 j (s.1 25 j + 1) 25 j = nI (q + 1) := by rw [up2_self, g3, nI_1]
  refine ⟨⟨fun i hi => ?_, fun r hr => (h.2.1 r hr).c (fun f hf => k f (by omega) r) (sumd_c (fun y _ => ⟨k 13 (by decide) y, k 24 (by decide) y⟩)), fun a ha => (h.2.2 a ha).c rfl (fun i => ⟨k 12 (by decide) i, k 22 (by decide) i⟩) (fun i _ => k 23 (by decide) i)⟩, d, q + 1, by rw [k 24 (by decide)]; exact g2, e25, by omega, by omega⟩
  by_cases c : i = j
  · subst c
    unfold XJ
    rw [e25, k 22 (by decide), k 23 (by decide), k 24 (by decide), k 26 (by decide)]
    refine ⟨h1, h2, h3, d0, d, q + 1, u, g1, g2, rfl, g4, g5, by omega, by omega, g8, fun z => ?_⟩
    have := g9 z
    omega
  · exact (h.1 i hi).c (Nat.le_refl _) (fun f hf => up2_ne _ _ (fun z => c z.2))
theorem arS_f {s : CSt} {j : Nat} {t : Int32} {f : Nat} (h1 : f ≠ 27) (h2 : f ≠ 26) (h3 : f ≠ 24) (h4 : f ≠ 30) (i : Nat) : arS s j t f i = s.1 f i := by
  unfold arS
  rw [flF_ne _ _ h1, up2_k h2, up2_k h3, up2_k h4]
theorem arS_24 {s : CSt} {j : Nat} {t : Int32} (i : Nat) : arS s j t 24 i = if i = j then s.1 24 j + 1 else s.1 24 i := by
  unfold arS
  rw [flF_ne _ _ (by decide), up2_k (by decide)]
  by_cases c : i = j
  · rw [if_pos c, c, up2_self]
  · rw [if_neg c, up2_ne _ _ (fun z => c z.2), up2_k (by decide)]
theorem arS_26 {s : CSt} {j : Nat} {t : Int32} (i : Nat) : arS s j t 26 i = if i = j then t else s.1 26 i := by
  unfold arS
  rw [flF_ne _ _ (by decide)]
  by_cases c : i = j
  · rw [if_pos c, c, up2_self]
  · rw [if_neg c, up2_ne _ _ (fun z => c z.2), up2_k (by decide), up2_k (by decide)]
theorem arS_30 {s : CSt} {j : Nat} {t : Int32} (i : Nat) : arS s j t 30 i = if i = ix (s.1 13 j) then s.1 30 (ix (s.1 13 j)) + 1 else s.1 30 i := by
  unfold arS
  rw [flF_ne _ _ (by decide), up2_k (by decide), up2_k (by decide)]
  by_cases c : i = ix (s.1 13 j)
  · rw [if_pos c, c, up2_self]
  · rw [if_neg c, up2_ne _ _ (fun z => c z.2)]
theorem XV.ar {n t : Nat} {T : Nat → Int32} {tk rd : Nat → Nat} {s : CSt} (h : XV n t T tk rd s.1 s.2.1) {j r : Nat} (hj : j < n) (hw : s.1 23 j = 0) (hdq : ∃ d q, s.1 24 j = nI d ∧ s.1 25 j = nI q ∧ d < q ∧ q ≤ 500) (hr : r < 6) (er : ix (s.1 13 j) = r) (hl : s.1 30 r < s.1 29 r) : XV n t T tk rd (arT j (nI t) s).1 (arT j (nI t) s).2.1 ∧ totd (arT j (nI t) s).1 n = totd s.1 n + 1 := by
  have e1 : (arT j (nI t) s).1 = arS s j (nI t) := rfl
  have e2 : (arT j (nI t) s).2.1 = s.2.1 := rfl
  rw [e1, e2]
  have k : ∀ f, f ≠ 27 → f ≠ 26 → f ≠ 24 → f ≠ 30 → ∀ i, arS s j (nI t) f i = s.1 f i := fun f h1 h2 h3 h4 i => arS_f h1 h2 h3 h4 i
  obtain ⟨h1, h2, h3, d0, d, q, u, g1, g2, g3, g4, g5, g6, g7, g8, g9⟩ := h.1 j hj
  obtain ⟨d', q', y1, y2, y3, y4⟩ := hdq
  have z1 : d = d' := (nI_eq (by omega) (by omega)).mp (g2.symm.trans y1)
  have z2 : q = q' := (nI_eq (by omega) (by omega)).mp (g3.symm.trans y2)
  have d24 : arS s j (nI t) 24 j = nI (d + 1) := by rw [arS_24, if_pos rfl, g2, nI_1]
  have i24 : ix (arS s j (nI t) 24 j) = ix (s.1 24 j) + 1 := by rw [d24, g2, ix_nI (by omega), ix_nI (by omega)]
  have o24 : ∀ y, y < n → y ≠ j → arS s j (nI t) 24 y = s.1 24 y := fun y _ hy => by rw [arS_24, if_neg hy]
  refine ⟨⟨fun i hi => ?_, fun x hx => ?_, fun a ha => (h.2.2 a ha).c rfl (fun i => ⟨k 12 (by decide) (by decide) (by decide) (by decide) i, k 22 (by decide) (by decide) (by decide) (by decide) i⟩) (fun i _ => k 23 (by decide) (by decide) (by decide) (by decide) i)⟩, totd_1 hj o24 i24⟩
  · by_cases c : i = j
    · subst c
      unfold XJ
      rw [d24, k 22 (by decide) (by decide) (by decide) (by decide), k 23 (by decide) (by decide) (by decide) (by decide), k 25 (by decide) (by decide) (by decide) (by decide), arS_26, if_pos rfl]
      refine ⟨h1, h2, h3, d0, d + 1, q, t, g1, rfl, g3, rfl, by omega, by omega, g7, by omega, fun z => absurd (hw.symm.trans z) (by decide)⟩
    · refine (h.1 i hi).c (Nat.le_refl _) (fun f hf => ?_)
      by_cases f4 : f = 24
      · subst f4; exact o24 i hi c
      · by_cases f6 : f = 26
        · subst f6; rw [arS_26, if_neg c]
        · exact k f (by omega) f6 f4 (by omega) i
  · obtain ⟨m, kk, ii, p1, p2, p3, p4, p5, p6, p7, p8, p9⟩ := h.2.1 x hx
    have hs := sumd_1 (σ := s.1) (τ := arS s j (nI t)) (r := x) hj (fun y _ => k 13 (by decide) (by decide) (by decide) (by decide) y) o24 i24
    rw [er] at hs
    by_cases c : x = r
    · subst c
      rw [if_pos rfl] at hs
      have hlt : ii < kk := by rw [p6, p5] at hl; exact (nI_ltI (by omega) (by omega)).mp hl
      refine ⟨m, kk, ii + 1, p1, p2, by omega, ?_, ?_, ?_, fun z => ?_, fun z => ?_, ?_⟩
      · rw [k 31 (by decide) (by decide) (by decide) (by decide)]; exact p4
      · rw [k 29 (by decide) (by decide) (by decide) (by decide)]; exact p5
      · rw [arS_30, er, if_pos rfl, p6, nI_1]
      · have := p7 z; omega
      · rw [k 28 (by decide) (by decide) (by decide) (by decide)]; exact p8 z
      · rw [hs]; omega
    · rw [if_neg (fun z => c z.symm)] at hs
      refine ⟨m, kk, ii, p1, p2, p3, ?_, ?_, ?_, p7, fun z => ?_, ?_⟩
      · rw [k 31 (by decide) (by decide) (by decide) (by decide)]; exact p4
      · rw [k 29 (by decide) (by decide) (by decide) (by decide)]; exact p5
      · rw [arS_30, er, if_neg c]; exact p6
      · rw [k 28 (by decide) (by decide) (by decide) (by decide)]; exact p8 z
      · rw [hs]; omega
theorem XV.arr {n t : Nat} {T : Nat → Int32} {tk rd : Nat → Nat} {s : CSt} (h : XV n t T tk rd s.1 s.2.1) {j r : Nat} (hj : j < n) (hw : s.1 23 j = 0) (hdq : ∃ d q, s.1 24 j = nI d ∧ s.1 25 j = nI q ∧ d < q ∧ q ≤ 500) (hr : r < 6) (er : ix (s.1 13 j) = r) (hl : s.1 30 r < s.1 29 r) (h12 : ix (s.1 12 j) < 4) (p : Int32) : XV n t T tk rd (arrT p j (nI t) s).1 (arrT p j (nI t) s).2.1 ∧ totd (arrT p j (nI t) s).1 n = totd s.1 n + 1 := by
  obtain ⟨a1, a2⟩ := h.ar hj hw hdq hr er hl
  unfold arrT
  split
  · exact ⟨a1, a2⟩
  · have w1 : (arT j (nI t) s).1 23 j = 0 := (arS_f (s := s) (j := j) (t := nI t) (by decide) (by decide) (by decide) (by decide) j).trans hw
    have w2 : ix ((arT j (nI t) s).1 12 j) < 4 := by
      rw [show (arT j (nI t) s).1 12 j = s.1 12 j from arS_f (s := s) (j := j) (t := nI t) (f := 12) (by decide) (by decide) (by decide) (by decide) j]
      exact h12
    have b := XV.fin (e := 1) a1 hj w1 ⟨by decide, by decide⟩ (fun z => absurd z (by decide)) w2
    refine ⟨b, ?_⟩
    rw [← a2]
    exact totd_c (fun y _ => finT_o (f := 24) (by decide) y)
/-- delays are at most 80 ticks -/
theorem dlA_le {fd v : Int32} (hfd : fd = 2 ∨ fd = 5 ∨ fd = 10) : ∃ u, dlA fd v = nI u ∧ u ≤ 80 := by
  unfold dlA
  generalize hx : (if (3 : Int32) < v - 1 then (3 : Int32) else v - 1) = x
  have h3 : x ≤ 3 := by
    rw [← hx]
    split
    · exact Int32.le_refl _
    · next z => exact Int32.not_lt.mp z
  have key : ∀ y : Int32, y = 0 ∨ y = 1 ∨ y = 2 ∨ y = 3 → ∃ u, (fd <<< (y &&& 31)) = nI u ∧ u ≤ 80 := by
    intro y hy
    rcases hfd with rfl | rfl | rfl <;> rcases hy with rfl | rfl | rfl | rfl
    · exact ⟨2, by decide, by decide⟩
    · exact ⟨4, by decide, by decide⟩
    · exact ⟨8, by decide, by decide⟩
    · exact ⟨16, by decide, by decide⟩
    · exact ⟨5, by decide, by decide⟩
    · exact ⟨10, by decide, by decide⟩
    · exact ⟨20, by decide, by decide⟩
    · exact ⟨40, by decide, by decide⟩
    · exact ⟨10, by decide, by decide⟩
    · exact ⟨20, by decide, by decide⟩
    · exact ⟨40, by decide, by decide⟩
    · exact ⟨80, by decide, by decide⟩
  refine key _ ?_
  by_cases c : (0 : Int32) < x
  · rw [if_pos c]
    obtain ⟨y, hy, rfl⟩ := nI_of2 (x := x) (M := 3) (n := 3) rfl (fun z => Int32.lt_irrefl (Int32.lt_trans c z)) h3
    have hy4 : y = 0 ∨ y = 1 ∨ y = 2 ∨ y = 3 := by omega
    rcases hy4 with rfl | rfl | rfl | rfl
    · exact .inl rfl
    · exact .inr (.inl rfl)
    · exact .inr (.inr (.inl rfl))
    · exact .inr (.inr (.inr rfl))
  · rw [if_neg c]
    exact .inl rfl
theorem XV.fa {n t : Nat} {T : Nat → Int32} {tk rd : Nat → Nat} {s : CSt} (h : XV n t T tk rd s.1 s.2.1) {j r i : Nat} (hj : j < n) (hw : s.1 23 j = 0) (hr : r < 6) (hi : i < 3) (ha : i = 1 → ¬ s.1 28 r = 0) (hf : i = 2 → s.1 29 r ≤ s.1 30 r) : XV n t T tk rd (mkT r (fmT i) (faT i (fdT i) (fxT i) j (nI t) s)).1 (mkT r (fmT i) (faT i (fdT i) (fxT i) j (nI t) s)).2.1 ∧ totd (mkT r (fmT i) (faT i (fdT i) (fxT i) j (nI t) s)).1 n = totd s.1 n := by
  have hfd : fdT i = 2 ∨ fdT i = 5 ∨ fdT i = 10 := by
    have : i = 0 ∨ i = 1 ∨ i = 2 := by omega
    rcases this with rfl | rfl | rfl
    · exact .inl rfl
    · exact .inr (.inl rfl)
    · exact .inr (.inr rfl)
  obtain ⟨v, hv1, hv2⟩ := dlA_le (v := s.1 27 ((3 * j) + (2 - i)) + 1) hfd
  generalize hτ : (mkT r (fmT i) (faT i (fdT i) (fxT i) j (nI t) s)).1 = τ
  have hL : (mkT r (fmT i) (faT i (fdT i) (fxT i) j (nI t) s)).2.1 = s.2.1 := rfl
  rw [hL]
  have eτ : τ = up2 (up2 (up2 s.1 27 ((3 * j) + (2 - i)) (s.1 27 ((3 * j) + (2 - i)) + 1)) 26 j (nI t + nI v)) 31 r (s.1 31 r ||| fmT i) := by
    rw [← hτ, ← hv1]
    rfl
  have k : ∀ f, f ≠ 27 → f ≠ 26 → f ≠ 31 → ∀ y, τ f y = s.1 f y := fun f h1 h2 h3 y => by rw [eτ, up2_k h3, up2_k h2, up2_k h1]
  have k26 : ∀ y, τ 26 y = if y = j then nI (t + v) else s.1 26 y := fun y => by
    rw [eτ, up2_k (by decide)]
    by_cases c : y = j
    · rw [if_pos c, c, up2_self, nI_add]
    · rw [if_neg c, up2_ne _ _ (fun z => c z.2), up2_k (by decide)]
  have k31 : ∀ y, τ 31 y = if y = r then s.1 31 r ||| fmT i else s.1 31 y := fun y => by
    rw [eτ]
    by_cases c : y = r
    · rw [if_pos c, c, up2_self]
    · rw [if_neg c, up2_ne _ _ (fun z => c z.2), up2_k (by decide), up2_k (by decide)]
  refine ⟨⟨fun y hy => ?_, fun x hx => ?_, fun a ha => (h.2.2 a ha).c rfl (fun y => ⟨k 12 (by decide) (by decide) (by decide) y, k 22 (by decide) (by decide) (by decide) y⟩) (fun y _ => k 23 (by decide) (by decide) (by decide) y)⟩, totd_c (fun y _ => k 24 (by decide) (by decide) (by decide) y)⟩
  · by_cases c : y = j
    · subst c
      obtain ⟨h1, h2, h3, d0, d, q, u, g1, g2, g3, g4, g5, g6, g7, g8, g9⟩ := h.1 y hy
      unfold XJ
      rw [k 22 (by decide) (by decide) (by decide), k 23 (by decide) (by decide) (by decide), k 24 (by decide) (by decide) (by decide), k 25 (by decide) (by decide) (by decide), k26, if_pos rfl]
      exact ⟨h1, h2, h3, d0, d, q, t + v, g1, g2, g3, rfl, g5, g6, g7, by omega, g9⟩
    · refine (h.1 y hy).c (Nat.le_refl _) (fun f hf => ?_)
      by_cases f6 : f = 26
      · subst f6; rw [k26, if_neg c]
      · exact k f (by omega) f6 (by omega) y
  · have hs := sumd_c (σ := s.1) (τ := τ) (r := x) (n := n) (fun y _ => ⟨k 13 (by decide) (by decide) (by decide) y, k 24 (by decide) (by decide) (by decide) y⟩)
    by_cases c : x = r
    · subst c
      obtain ⟨m, kk, ii, p1, p2, p3, p4, p5, p6, p7, p8, p9⟩ := h.2.1 x hx
      have hm : ∃ m', m' < 4 ∧ nI m ||| fmT i = nI m' ∧ (2 ≤ m' → 2 ≤ m ∨ i = 2) ∧ (m' % 2 = 1 → m % 2 = 1 ∨ i = 1) := by
        have c1 : m = 0 ∨ m = 1 ∨ m = 2 ∨ m = 3 := by omega
        have c2 : i = 0 ∨ i = 1 ∨ i = 2 := by omega
        rcases c1 with rfl | rfl | rfl | rfl <;> rcases c2 with rfl | rfl | rfl
        · exact ⟨0, by decide, by decide, by decide, by decide⟩
        · exact ⟨1, by decide, by decide, by decide, by decide⟩
        · exact ⟨2, by decide, by decide, by decide, by decide⟩
        · exact ⟨1, by decide, by decide, by decide, by decide⟩
        · exact ⟨1, by decide, by decide, by decide, by decide⟩
        · exact ⟨3, by decide, by decide, by decide, by decide⟩
        · exact ⟨2, by decide, by decide, by decide, by decide⟩
        · exact ⟨3, by decide, by decide, by decide, by decide⟩
        · exact ⟨2, by decide, by decide, by decide, by decide⟩
        · exact ⟨3, by decide, by decide, by decide, by decide⟩
        · exact ⟨3, by decide, by decide, by decide, by decide⟩
        · exact ⟨3, by decide, by decide, by decide, by decide⟩
      obtain ⟨m', q1, q2, q3, q4⟩ := hm
      refine ⟨m', kk, ii, q1, p2, p3, by rw [k31, if_pos rfl, p4, q2], by rw [k 29 (by decide) (by decide) (by decide)]; exact p5, by rw [k 30 (by decide) (by decide) (by decide)]; exact p6, fun z => ?_, fun z => ?_, by rw [hs]; exact p9⟩
      · rcases q3 z with y | y
        · exact p7 y
        · have := hf y
          rw [p5, p6] at this
          exact (nI_leI (by omega) (by omega)).mp this
      · rw [k 28 (by decide) (by decide) (by decide)]
        rcases q4 z with y | y
        · exact p8 y
        · exact ha y
    · refine (h.2.1 x hx).c (fun f hf => ?_) hs
      by_cases f1 : f = 31
      · subst f1; rw [k31, if_neg c]
      · exact k f (by omega) (by omega) f1 x
theorem XV.at1 {n t : Nat} {B : Nat → Nat} {σ : SG} {s : CSt} {T : Nat → Int32} {tk rd : Nat → Nat} (h : XV n t T tk rd s.1 s.2.1) (hR : RLr n t B σ s) {r : Nat} (hr : r < 6) (p : Nat → Int32) : XV n t T tk rd (att p r s).1.1 (att p r s).1.2.1 ∧ ∃ c, c ≤ 1 ∧ (att p r s).2.2 = nI c ∧ totd (att p r s).1.1 n = totd s.1 n + c := by
  have e0 : s.1 0 0 = nI t := (hR.1 0 (cf (by omega)) 0).trans hR.2.1.2.2.2.1
  rcases hq : frL s.1 (s.1 0 0) (s.2.1 (5 + r)) with _ | j
  · rw [att_0 hq]
    exact ⟨h, 0, by decide, rfl, rfl⟩
  · have hm0 := frL_mem hq
    rw [hR.2.1.1.2 r hr] at hm0
    obtain ⟨hj, hwσ, her⟩ := qf_mem.mp hm0
    have hw : s.1 23 j = 0 := (hR.1 23 (cf (by omega)) j).trans hwσ
    have er : ix (s.1 13 j) = r := by rw [hR.1 13 (cf (by omega)) j]; exact her
    have h12 : ix (s.1 12 j) < 4 := by rw [hR.1 12 (cf (by omega)) j]; exact (hR.2.2.2.2 j hj).1.2
    have hb : ix (s.1 25 j) + 1 ≤ 500 := by
      rw [hR.1 25 (cf (by omega)) j]
      have z := (hR.2.1.2.2.2.2 j hj).2.2 hwσ
      have z1 := z.2.1
      have z2 := z.2.2.1
      have z3 := (hR.2.2.2.2 j hj).2.2.2.2.2
      omega
    obtain ⟨a1, a2⟩ := h.t1 hj hw hb
    have k : ∀ f, f ≠ 25 → ∀ i, (t1T j s).1 f i = s.1 f i := fun f hf i => up2_k hf i
    have tot : totd (t1T j s).1 n = totd s.1 n := totd_c (fun y _ => k 24 (by decide) y)
    have w1 : (t1T j s).1 23 j = 0 := (k 23 (by decide) j).trans hw
    by_cases c3 : s.1 28 r = 3
    · rw [att_1 hq c3]
      refine ⟨XV.fin (e := 4) a1 hj w1 ⟨by decide, by decide⟩ (fun _ => a2) (by rw [k 12 (by decide)]; exact h12), 0, by decide, rfl, ?_⟩
      rw [Nat.add_zero, ← tot]
      exact totd_c (fun y _ => finT_o (f := 24) (by decide) y)
    · rcases hc : caF s.1 r with _ | i
      · rw [att_2 hq c3 hc, e0]
        have hl : s.1 30 r < s.1 29 r := by
          unfold caF at hc
          by_cases z2 : s.1 28 r = 2
          · rw [if_pos z2] at hc; cases hc
          · rw [if_neg z2] at hc
            by_cases z1 : s.1 28 r = 1
            · rw [if_pos z1] at hc; cases hc
            · rw [if_neg z1] at hc
              by_cases z0 : s.1 29 r ≤ s.1 30 r
              · rw [if_pos z0] at hc; cases hc
              · exact Int32.not_le.mp z0
        obtain ⟨b1, b2⟩ := XV.arr a1 hj w1 a2 hr (by rw [k 13 (by decide)]; exact er) (by rw [k 30 (by decide), k 29 (by decide)]; exact hl) (by rw [k 12 (by decide)]; exact h12) (p j)
        exact ⟨b1, 1, Nat.le_refl _, rfl, by rw [b2, tot]⟩
      · rw [att_3 hq c3 hc, e0]
        have hi : i < 3 ∧ (i = 1 → ¬ s.1 28 r = 0) ∧ (i = 2 → s.1 29 r ≤ s.1 30 r) := by
          unfold caF at hc
          by_cases z2 : s.1 28 r = 2
          · rw [if_pos z2] at hc; cases hc; exact ⟨by decide, fun z => absurd z (by decide), fun z => absurd z (by decide)⟩
          · rw [if_neg z2] at hc
            by_cases z1 : s.1 28 r = 1
            · rw [if_pos z1] at hc; cases hc; exact ⟨by decide, fun _ => by rw [z1]; decide, fun z => absurd z (by decide)⟩
            · rw [if_neg z1] at hc
              by_cases z0 : s.1 29 r ≤ s.1 30 r
              · rw [if_pos z0] at hc; cases hc; exact ⟨by decide, fun z => absurd z (by decide), fun _ => z0⟩
              · rw [if_neg z0] at hc; cases hc
        obtain ⟨b1, b2⟩ := XV.fa a1 hj w1 hr hi.1 (fun z => by rw [k 28 (by decide)]; exact hi.2.1 z) (fun z => by rw [k 29 (by decide), k 30 (by decide)]; exact hi.2.2 z)
        exact ⟨b1, 0, by decide, rfl, by rw [b2, tot, Nat.add_zero]⟩
theorem XV.aR6 {n t : Nat} {τ : Nat → SG} {B : Nat → Nat → Nat} {s : CSt} {T : Nat → Int32} {tk rd : Nat → Nat} {p : Nat → Int32} {x : Int32} (h : XV n t T tk rd s.1 s.2.1) (hR : ∀ r, r ≤ 6 → RLr n t (B r) (τ r) (atR p x s r).1) : ∀ r, r ≤ 6 → XV n t T tk rd (atR p x s r).1.1 (atR p x s r).1.2.1 ∧ ∃ c, c ≤ r ∧ (atR p x s r).2.2 = x + nI c ∧ totd (atR p x s r).1.1 n = totd s.1 n + c
  | 0, _ => ⟨h, 0, Nat.le_refl _, (by show x = x + 0; exact (Int32.add_zero x).symm), rfl⟩
  | r + 1, hr => by
    obtain ⟨i1, c, i2, i3, i4⟩ := XV.aR6 h hR r (by omega)
    obtain ⟨b1, c', b2, b3, b4⟩ := XV.at1 (r := r) i1 (hR r (by omega)) (by omega) p
    refine ⟨b1, c + c', by omega, ?_, ?_⟩
    · show (atR p x s r).2.2 + (att p r (atR p x s r).1).2.2 = _
      rw [i3, b3, Int32.add_assoc, nI_add]
    · show totd (att p r (atR p x s r).1).1.1 n = _
      rw [b4, i4]; omega
theorem XV.ex {n t : Nat} {s : CSt} {T : Nat → Int32} {tk rd : Nat → Nat} (h : XV n t T tk rd s.1 s.2.1) (h12 : ∀ k, k ≤ n → ∀ j, j < n → ix ((exT s k).1.1 12 j) < 4) : ∀ k, k ≤ n → XV n t T tk rd (exT s k).1.1 (exT s k).1.2.1 ∧ totd (exT s k).1.1 n = totd s.1 n
  | 0, _ => ⟨h, rfl⟩
  | k + 1, hk => by
    obtain ⟨i1, i2⟩ := XV.ex h h12 k (by omega)
    unfold exT
    split
    · next c =>
      refine ⟨XV.fin (e := 2) i1 (by omega) c.1 ⟨by decide, by decide⟩ (fun z => absurd z (by decide)) (h12 k (by omega) k (by omega)), ?_⟩
      rw [← i2]
      exact totd_c (fun y _ => finT_o (f := 24) (by decide) y)
    · exact ⟨i1, i2⟩
theorem XV.ps {n t : Nat} {σ : SG} {s : CSt} {p : Nat → Int32} {T : Nat → Int32} {tk rd : Nat → Nat} (h : XV n t T tk rd s.1 s.2.1) (hV : LV n t σ s) (hn : n ≤ 40) (hp : ∀ j, j < n → p j = nI (ptM σ j)) : ∀ k, t + k < 1000000 → XV n (t + k) T tk rd (psT p n s k).1.1 (psT p n s k).1.2.1 ∧ ∃ c, c ≤ 6 * k ∧ (psT p n s k).2.2 = nI c ∧ totd (psT p n s k).1.1 n = totd s.1 n + c
  | 0, _ => ⟨h, 0, Nat.le_refl _, rfl, rfl⟩
  | k + 1, hk => by
    obtain ⟨i1, c, i2, i3, i4⟩ := XV.ps h hV hn hp k (by omega)
    obtain ⟨v1, -, -⟩ := LV.ps hV hn hp k (by omega)
    have z := v1.tick (p := p) (x := (psT p n s k).2.2) hn (by omega) (fun j hj => (hp j hj).trans (congrArg nI (ptM_c (σ := σ) (τ := psF σ n k) (fun f hf => psF_f (by omega) j k)).symm))
    have a0 : XV n (t + k + 1) T tk rd (tkT (psT p n s k).1).1 (tkT (psT p n s k).1).2.1 := i1.c (by omega) (fun f hf i => tkT_o (by unfold xfd at hf; omega) i) (fun _ _ => rfl)
    have t0 : totd (tkT (psT p n s k).1).1 n = totd (psT p n s k).1.1 n := totd_c (fun y _ => tkT_o (f := 24) (by decide) y)
    obtain ⟨a1, t1⟩ := XV.ex a0 (fun y hy j hj => by
      have q := z.2.2.1 y hy
      rw [q.1 12 (cf (by omega)) j]
      exact (q.2.2.2.2 j hj).1.2) n (Nat.le_refl _)
    obtain ⟨a2, c', t2, t3, t4⟩ := XV.aR6 (p := p) (x := (psT p n s k).2.2) a1 (fun r hr => z.2.2.2.1 r hr) 6 (Nat.le_refl _)
    refine ⟨?_, c + c', by omega, ?_, ?_⟩
    · unfold psT
      exact a2
    · unfold psT
      show (atR p (psT p n s k).2.2 (exT (tkT (psT p n s k).1) n).1 6).2.2 = _
      rw [t3, i3, nI_add]
    · unfold psT
      show totd (atR p (psT p n s k).2.2 (exT (tkT (psT p n s k).1) n).1 6).1.1 n = _
      rw [t4, t1, t0, i4]; omega
