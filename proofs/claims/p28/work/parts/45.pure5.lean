/-! an attempt: failing, arriving -/
theorem dl_eq {fd : Int32} (hfd : fd = 2 ∨ fd = 5 ∨ fd = 10) {q : Nat} (hq : q ≤ 2000) : fd * (if nI q ≤ 2 then (1 <<< (nI q &&& 31)) else 8) = dlA fd (nI q + 1) := by
  have h3 : q = 0 ∨ q = 1 ∨ q = 2 ∨ 3 ≤ q := by omega
  rcases h3 with rfl | rfl | rfl | h3
  · rcases hfd with rfl | rfl | rfl <;> decide
  · rcases hfd with rfl | rfl | rfl <;> decide
  · rcases hfd with rfl | rfl | rfl <;> decide
  · have e : nI q + 1 - 1 = nI q := by
      rw [nI_1]
      exact pk_sub (a := q + 1) (b := 1) (by omega)
    have h2 : ¬ nI q ≤ 2 := fun z => by
      have := (nI_leE (b := 2) rfl (show (2 : Int32) = nI 2 by decide) (by omega) (by decide)).mp z
      omega
    have e3 : (if (3 : Int32) < nI q then (3 : Int32) else nI q) = 3 := by
      split
      · rfl
      · next z =>
        have : ¬ 3 < q := fun y => z ((nI_ltE (a := 3) (show (3 : Int32) = nI 3 by decide) rfl (by decide) (by omega)).mpr y)
        rw [show q = 3 by omega]
        decide
    unfold dlA
    rw [e, e3, if_neg h2]
    rcases hfd with rfl | rfl | rfl <;> decide
theorem or_4 {m : Nat} (hm : m < 4) {x : Int32} (hx : x = 0 ∨ x = 1 ∨ x = 2) : ∃ q, q < 4 ∧ nI m ||| x = nI q := by
  have h : m = 0 ∨ m = 1 ∨ m = 2 ∨ m = 3 := by omega
  rcases h with rfl | rfl | rfl | rfl <;> rcases hx with rfl | rfl | rfl <;> first | exact ⟨0, by decide, by decide⟩ | exact ⟨1, by decide, by decide⟩ | exact ⟨2, by decide, by decide⟩ | exact ⟨3, by decide, by decide⟩
theorem RLr.fa {n t : Nat} {B : Nat → Nat} {σ : SG} {s : CSt} (h : RLr n t B σ s) {j : Nat} (hj : j < n) (hw : σ 23 j = 0) (hz : s.2.2.2 j ≤ ix (σ 25 j)) {i : Nat} (hi : i < 3) {cz : Int32} (hcz : cz = nI (2 - i)) : RLr n t B (faS σ j cz (2 - i)) (mkT (ix (σ 13 j)) (fmT i) (faT i (fdT i) (fxT i) j (s.1 0 0) s)) := by
  have hzl := h.it hj hw
  obtain ⟨a, b, c, d, e⟩ := h
  have q5 := b.2.2.2.2
  have hm := e j hj
  obtain ⟨g1, g2, g3, g4, g5⟩ := (q5 j hj).2.2 hw
  obtain ⟨qf9, hqf, hqf2⟩ := g5 (2 - i) (by omega)
  have h500 : ix (σ 15 j) ≤ 500 := hm.2.2.2.2.2
  have h0 : s.1 0 0 = σ 0 0 := a 0 (cf (by omega)) 0
  have h27 : s.1 27 ((3 * j) + (2 - i)) = σ 27 ((3 * j) + (2 - i)) := a 27 (cf (by omega)) _
  have hfd : (if cz = 2 then 2 else (if cz = 1 then 5 else 10) : Int32) = fdT i ∧ (if cz = 2 then 0 else (if cz = 1 then 1 else 2) : Int32) = fmT i ∧ (fdT i = 2 ∨ fdT i = 5 ∨ fdT i = 10) ∧ (fmT i = 0 ∨ fmT i = 1 ∨ fmT i = 2) ∧ ¬ fxT i = 1 ∧ fxT i < 10 := by
    rw [hcz]
    have h3 : i = 0 ∨ i = 1 ∨ i = 2 := by omega
    rcases h3 with rfl | rfl | rfl <;> decide
  have hfc : faC σ j cz (2 - i) = σ 0 0 + dlA (fdT i) (σ 27 ((3 * j) + (2 - i)) + 1) := by
    unfold faC
    rw [hfd.1, hqf2, dl_eq hfd.2.2.1 (by omega)]
  have f0 : ∀ f, f ≠ 27 → f ≠ 26 → f ≠ 31 → ∀ y, faS σ j cz (2 - i) f y = σ f y := fun f f1 f2 f3 y => by
    unfold faS
    rw [up2_k f3, up2_k f2, up2_k f1]
  have f27 : ∀ y, faS σ j cz (2 - i) 27 y = if y = (3 * j) + (2 - i) then σ 27 ((3 * j) + (2 - i)) + 1 else σ 27 y := fun y => by
    unfold faS
    rw [up2_k (by decide), up2_k (by decide)]
    by_cases z : y = (3 * j) + (2 - i)
    · rw [if_pos z, z, up2_self]
    · rw [if_neg z, up2_ne _ _ (fun x => z x.2)]
  refine ⟨?_, ?_, fun k hk => ?_, fun r hr => ?_, fun k hk => okM_c (fun f hf => f0 f (by omega) (by omega) (by omega) k) (e k hk)⟩
  · show AG (faS σ j cz (2 - i)) (up2 (up2 (up2 s.1 27 ((3 * j) + (2 - i)) (s.1 27 ((3 * j) + (2 - i)) + 1)) 26 j (s.1 0 0 + dlA (fdT i) (s.1 27 ((3 * j) + (2 - i)) + 1))) 31 (ix (σ 13 j)) ((up2 (up2 s.1 27 ((3 * j) + (2 - i)) (s.1 27 ((3 * j) + (2 - i)) + 1)) 26 j (s.1 0 0 + dlA (fdT i) (s.1 27 ((3 * j) + (2 - i)) + 1))) 31 (ix (σ 13 j)) ||| fmT i))
    rw [up2_k (show 31 ≠ 26 by decide), up2_k (show 31 ≠ 27 by decide), a 31 (cf (by omega)), h27, h0, ← hfc, ← hfd.2.1]
    exact ((a.up 27 _ _).up 26 _ _).up 31 _ _
  · refine b.keep (fun f hf y => f0 f (by omega) (by omega) (by omega) y) (fun k hk => ⟨f0 24 (by decide) (by decide) (by decide) k, f0 25 (by decide) (by decide) (by decide) k, fun x hx => by rw [f27, if_neg (by omega)]⟩) (fun k hk => ?_)
    have q := q5 k hk
    unfold ITj at *
    rw [f0 16 (by decide) (by decide) (by decide), f0 23 (by decide) (by decide) (by decide), f0 25 (by decide) (by decide) (by decide), f0 15 (by decide) (by decide) (by decide)]
    refine ⟨q.1, q.2.1, fun z => ?_⟩
    obtain ⟨k1, k2, k3, k4, k5⟩ := q.2.2 z
    show _ ∧ _ ∧ _ ∧ va_up s.2.2.2 j (s.2.2.2 j + 1) k ≤ _ ∧ ∀ x, x < 3 → ∃ q, q ≤ va_up s.2.2.2 j (s.2.2.2 j + 1) k ∧ _
    by_cases ek : k = j
    · subst ek
      rw [va_up_self]
      refine ⟨k1, k2, k3, by omega, fun x hx => ?_⟩
      rw [f27]
      by_cases ex : (3 * k) + x = (3 * k) + (2 - i)
      · rw [if_pos ex, hqf2, nI_1]
        exact ⟨qf9 + 1, by omega, rfl⟩
      · rw [if_neg ex]
        obtain ⟨y, y1, y2⟩ := k5 x hx
        exact ⟨y, by omega, y2⟩
    · rw [va_up_ne _ _ ek]
      refine ⟨k1, k2, k3, k4, fun x hx => ?_⟩
      rw [f27, if_neg (by omega)]
      exact k5 x hx
  · have q := c k hk
    show IGj (faS σ j cz (2 - i)) (up2 s.2.2.1 j (s.2.2.2 j) (fxT i)) (va_up s.2.2.2 j (s.2.2.2 j + 1)) k
    have p0 : ptM (faS σ j cz (2 - i)) k = ptM σ k := ptM_c (fun f hf => f0 f (by omega) (by omega) (by omega) k)
    by_cases ek : k = j
    · subst ek
      unfold IGj elen
      rw [p0, f0 24 (by decide) (by decide) (by decide), f0 23 (by decide) (by decide) (by decide), f0 15 (by decide) (by decide) (by decide), va_up_self, lgA_up, lgT_up, if_neg hfd.2.2.2.2.1, if_pos hfd.2.2.2.2.2]
      exact ⟨q.1, q.2.1, q.2.2.1, hzl⟩
    · exact IGj_c q (f0 23 (by decide) (by decide) (by decide) k) (f0 24 (by decide) (by decide) (by decide) k) p0 (f0 15 (by decide) (by decide) (by decide) k) (fun y => up2_ne _ _ (fun z => ek z.1)) (va_up_ne _ _ ek)
  · have q := d r hr
    unfold okR moOK at *
    rw [f0 28 (by decide) (by decide) (by decide), f0 29 (by decide) (by decide) (by decide), f0 30 (by decide) (by decide) (by decide)]
    refine ⟨q.1, ?_, q.2.2⟩
    unfold faS
    by_cases er : r = ix (σ 13 j)
    · rw [er, up2_self, hfd.2.1]
      obtain ⟨m, hm4, hm2⟩ := (d (ix (σ 13 j)) hm.2.1.2).2.1
      rw [hm2]
      exact or_4 hm4 hfd.2.2.2.1
    · rw [up2_ne _ _ (fun z => er z.2), up2_k (by decide), up2_k (by decide)]
      exact q.2.1
/-- a part comes in -/
def arF (σ : SG) (j : Nat) : SG := clF (up2 (up2 (up2 σ 30 (ix (σ 13 j)) ((σ 30 (ix (σ 13 j))) + 1)) 24 j ((σ 24 j) + 1)) 26 j (σ 0 0)) j 3
theorem tr1_ar (σ : SG) (j : Nat) : tr1 σ j = arF (tr0 σ j) j := by
  unfold tr1 arF
  rw [tr0_f (by decide), tr0_f (by decide), tr0_f (by decide), tr0_f (by decide)]
theorem clF_z {σ : SG} {j x : Nat} (hx : x < 3) : clF σ j 3 27 ((3 * j) + x) = 0 := by
  unfold clF clF clF clF
  have h : x = 0 ∨ x = 1 ∨ x = 2 := by omega
  rcases h with rfl | rfl | rfl
  · rw [up2_ne _ _ (fun q => by omega), up2_ne _ _ (fun q => by omega), up2_self]
  · rw [up2_ne _ _ (fun q => by omega), up2_self]
  · rw [up2_self]
theorem clF_o {σ : SG} {j y : Nat} (h : ∀ x, x < 3 → y ≠ (3 * j) + x) : clF σ j 3 27 y = σ 27 y := by
  have h0 := h 0 (by decide)
  have h1 := h 1 (by decide)
  have h2 := h 2 (by decide)
  unfold clF clF clF clF
  rw [up2_ne _ _ (fun q => h2 q.2), up2_ne _ _ (fun q => h1 q.2), up2_ne _ _ (fun q => h0 q.2)]
theorem flF_z {σ : SG} {j x : Nat} (hx : x < 3) : flF σ j 3 27 ((3 * j) + x) = 0 := by
  unfold flF flF flF flF
  have h : x = 0 ∨ x = 1 ∨ x = 2 := by omega
  rcases h with rfl | rfl | rfl
  · rw [up2_self]
  · rw [up2_ne _ _ (fun q => by omega), up2_self]
  · rw [up2_ne _ _ (fun q => by omega), up2_ne _ _ (fun q => by omega), up2_self]
theorem flF_o {σ : SG} {j y : Nat} (h : ∀ x, x < 3 → y ≠ (3 * j) + x) : flF σ j 3 27 y = σ 27 y := by
  have h0 := h 0 (by decide)
  have h1 := h 1 (by decide)
  have h2 := h 2 (by decide)
  unfold flF flF flF flF
  rw [up2_ne _ _ (fun q => h0 q.2), up2_ne _ _ (fun q => h1 q.2), up2_ne _ _ (fun q => h2 q.2)]
theorem AG.fl {σ τ : SG} (h : AG σ τ) (j : Nat) : AG (clF σ j 3) (flF τ j 3) := by
  intro f hf y
  by_cases e : f = 27
  · subst e
    by_cases z : ∀ x, x < 3 → y ≠ (3 * j) + x
    · rw [clF_o z, flF_o z]; exact h 27 hf y
    · have z2 : y = (3 * j) + 0 ∨ y = (3 * j) + 1 ∨ y = (3 * j) + 2 := by
        by_cases y0 : y = (3 * j) + 0
        · exact .inl y0
        · by_cases y1 : y = (3 * j) + 1
          · exact .inr (.inl y1)
          · by_cases y2 : y = (3 * j) + 2
            · exact .inr (.inr y2)
            · exact absurd (fun x hx => by
                have h3 : x = 0 ∨ x = 1 ∨ x = 2 := by omega
                rcases h3 with rfl | rfl | rfl
                · exact y0
                · exact y1
                · exact y2) z
      rcases z2 with rfl | rfl | rfl
      · rw [clF_z (by decide), flF_z (by decide)]
      · rw [clF_z (by decide), flF_z (by decide)]
      · rw [clF_z (by decide), flF_z (by decide)]
  · rw [clF_ne σ j e y 3, flF_ne τ j e y 3]; exact h f hf y
theorem arF_f {σ : SG} {j f : Nat} (h1 : f ≠ 27) (h2 : f ≠ 26) (h3 : f ≠ 24) (h4 : f ≠ 30) (y : Nat) : arF σ j f y = σ f y := by
  unfold arF
  rw [clF_ne _ _ h1, up2_k h2, up2_k h3, up2_k h4]
theorem arF_24 {σ : SG} {j : Nat} (y : Nat) : arF σ j 24 y = if y = j then σ 24 j + 1 else σ 24 y := by
  unfold arF
  rw [clF_ne _ _ (by decide), up2_k (by decide)]
  by_cases e : y = j
  · rw [if_pos e, e, up2_self]
  · rw [if_neg e, up2_ne _ _ (fun z => e z.2), up2_k (by decide)]
theorem arF_27 {σ : SG} {j y : Nat} (h : ∀ x, x < 3 → y ≠ (3 * j) + x) : arF σ j 27 y = σ 27 y := by
  unfold arF
  rw [clF_o h, up2_k (by decide), up2_k (by decide), up2_k (by decide)]
theorem arF_27z {σ : SG} {j x : Nat} (hx : x < 3) : arF σ j 27 ((3 * j) + x) = 0 := clF_z hx
theorem RLr.ar1 {n t : Nat} {B : Nat → Nat} {σ : SG} {s : CSt} (h : RLr n t B σ s) {j : Nat} (hj : j < n) (hw : σ 23 j = 0) (hz : s.2.2.2 j ≤ ix (σ 25 j)) : AG (arF σ j) (arT j (s.1 0 0) s).1 ∧ DY n t B (arF σ j) s.2.1 (arT j (s.1 0 0) s).2.2.2 := by
  obtain ⟨a, b, c, d, e⟩ := h
  have q5 := b.2.2.2.2
  refine ⟨?_, ?_⟩
  · show AG (arF σ j) (flF (up2 (up2 (up2 s.1 30 (ix (s.1 13 j)) (s.1 30 (ix (s.1 13 j)) + 1)) 24 j (s.1 24 j + 1)) 26 j (s.1 0 0)) j 3)
    rw [a 13 (cf (by omega)), a 30 (cf (by omega)), a 24 (cf (by omega)), a 0 (cf (by omega))]
    exact AG.fl (((a.up 30 _ _).up 24 _ _).up 26 _ _) j
  · refine b.keep (fun f hf y => arF_f (by omega) (by omega) (by omega) (by omega) y) (fun k hk => ⟨by rw [arF_24, if_neg (by omega)], arF_f (by decide) (by decide) (by decide) (by decide) k, fun x hx => arF_27 (fun y hy => by omega)⟩) (fun k hk => ?_)
    have q := q5 k hk
    unfold ITj at *
    rw [arF_f (f := 16) (by decide) (by decide) (by decide) (by decide), arF_f (f := 23) (by decide) (by decide) (by decide) (by decide), arF_f (f := 25) (by decide) (by decide) (by decide) (by decide), arF_f (f := 15) (by decide) (by decide) (by decide) (by decide)]
    refine ⟨q.1, q.2.1, fun z => ?_⟩
    obtain ⟨k1, k2, k3, k4, k5⟩ := q.2.2 z
    show _ ∧ _ ∧ _ ∧ va_up s.2.2.2 j (s.2.2.2 j + 1) k ≤ _ ∧ ∀ x, x < 3 → ∃ q, q ≤ va_up s.2.2.2 j (s.2.2.2 j + 1) k ∧ _
    by_cases ek : k = j
    · subst ek
      rw [va_up_self]
      exact ⟨k1, k2, k3, by omega, fun x hx => ⟨0, Nat.zero_le _, by rw [arF_27z hx]; rfl⟩⟩
    · rw [va_up_ne _ _ ek]
      refine ⟨k1, k2, k3, k4, fun x hx => ?_⟩
      rw [arF_27 (fun y hy => by omega)]
      exact k5 x hx
theorem arF_30 {σ : SG} {j : Nat} (y : Nat) : arF σ j 30 y = if y = ix (σ 13 j) then σ 30 (ix (σ 13 j)) + 1 else σ 30 y := by
  unfold arF
  rw [clF_ne _ _ (by decide), up2_k (by decide), up2_k (by decide)]
  by_cases e : y = ix (σ 13 j)
  · rw [if_pos e, e, up2_self]
  · rw [if_neg e, up2_ne _ _ (fun z => e z.2)]
theorem arF_R {σ : SG} {j r : Nat} (hl : σ 30 (ix (σ 13 j)) < σ 29 (ix (σ 13 j))) (h : okR σ r) : okR (arF σ j) r := by
  unfold okR moOK at *
  rw [arF_f (f := 28) (by decide) (by decide) (by decide) (by decide), arF_f (f := 31) (by decide) (by decide) (by decide) (by decide), arF_f (f := 29) (by decide) (by decide) (by decide) (by decide), arF_30]
  obtain ⟨h1, h2, k, m, hk, hm, e1, e2⟩ := h
  by_cases e : r = ix (σ 13 j)
  · rw [if_pos e, ← e, e2, nI_1]
    rw [← e, e1, e2, nI_ltI (by omega) (by omega)] at hl
    exact ⟨h1, h2, k, m + 1, hk, by omega, e1, rfl⟩
  · rw [if_neg e]
    exact ⟨h1, h2, k, m, hk, hm, e1, e2⟩
theorem RLr.arr {n t : Nat} {B : Nat → Nat} {σ : SG} {s : CSt} (h : RLr n t B σ s) (hn : n ≤ 40) {j : Nat} (hj : j < n) (hw : σ 23 j = 0) (hz : s.2.2.2 j ≤ ix (σ 25 j)) (hl : σ 30 (ix (σ 13 j)) < σ 29 (ix (σ 13 j))) : RLr n t B (if (σ 24 j) + 1 = nI (ptM σ j) then enS (arF σ j) j (nI j) 1 else arF σ j) (arrT (nI (ptM σ j)) j (s.1 0 0) s) := by
  obtain ⟨ag, dy⟩ := h.ar1 hj hw hz
  have hzl := h.it hj hw
  obtain ⟨a, b, c, d, e⟩ := h
  have hm := e j hj
  obtain ⟨q, hq1, hq2, hq3⟩ := (c j hj).2.2.1
  have hp8 := ptM_le hm.2.2.1
  have hne : ¬ q = ptM σ j := fun z => by
    have := hq3.mpr z
    rw [hw] at this
    exact absurd this (by decide)
  have e24 : (arS s j (s.1 0 0)) 24 j = nI (q + 1) := by
    have z := ag 24 (cf (by omega)) j
    have z2 : arF σ j 24 j = nI (q + 1) := by rw [arF_24, if_pos rfl, hq1, nI_1]
    rw [← z2]; exact z
  have et : ((arS s j (s.1 0 0)) 24 j < nI (ptM σ j)) ↔ q + 1 < ptM σ j := by rw [e24]; exact nI_ltI (by omega) (by omega)
  have er : ((σ 24 j) + 1 = nI (ptM σ j)) ↔ q + 1 = ptM σ j := by rw [hq1, nI_1]; exact nI_eq (by omega) (by omega)
  have pM : ∀ k, ptM (arF σ j) k = ptM σ k := fun k => ptM_c (fun f hf => arF_f (by omega) (by omega) (by omega) (by omega) k)
  have gj : lgA (up2 s.2.2.1 j (s.2.2.2 j) 1 j) (s.2.2.2 j + 1) = nI (q + 1) ∧ lgT (up2 s.2.2.1 j (s.2.2.2 j) 1 j) (s.2.2.2 j + 1) = 0 := by
    rw [lgA_up, lgT_up, if_pos rfl, if_pos (by decide), (c j hj).1, (c j hj).2.1, hq1, nI_1, hw]
    exact ⟨rfl, rfl⟩
  have okm : ∀ k, k < n → okM (arF σ j) k := fun k hk => okM_c (fun f hf => arF_f (by omega) (by omega) (by omega) (by omega) k) (e k hk)
  have igo : ∀ k, k < n → k ≠ j → IGj (arF σ j) (arT j (s.1 0 0) s).2.2.1 (arT j (s.1 0 0) s).2.2.2 k := fun k hk ek => IGj_c (c k hk) (arF_f (by decide) (by decide) (by decide) (by decide) k) (by rw [arF_24, if_neg ek]) (pM k) (arF_f (by decide) (by decide) (by decide) (by decide) k) (fun y => up2_ne _ _ (fun z => ek z.1)) (va_up_ne _ _ ek)
  unfold arrT
  by_cases c1 : q + 1 < ptM σ j
  · rw [if_pos (et.mpr c1), if_neg (fun z => by have := er.mp z; omega)]
    refine ⟨ag, dy, fun k hk => ?_, fun r hr => arF_R hl (d r hr), okm⟩
    by_cases ek : k = j
    · subst ek
      show IGj (arF σ k) (up2 s.2.2.1 k (s.2.2.2 k) 1) (va_up s.2.2.2 k (s.2.2.2 k + 1)) k
      unfold IGj elen
      rw [pM, arF_24, if_pos rfl, arF_f (f := 23) (by decide) (by decide) (by decide) (by decide), arF_f (f := 15) (by decide) (by decide) (by decide) (by decide), va_up_self, gj.1, gj.2, hq1, nI_1, hw]
      exact ⟨rfl, rfl, ⟨q + 1, rfl, by omega, fun z => absurd z (by decide), fun z => by omega⟩, hzl⟩
    · exact igo k hk ek
  · rw [if_neg (fun z => c1 (et.mp z)), if_pos (er.mpr (by omega))]
    have w1 : arF σ j 23 j = 0 := by rw [arF_f (by decide) (by decide) (by decide) (by decide)]; exact hw
    refine ⟨enS_AG ag j (nI j) 1, ?_, fun k hk => ?_, fun r hr => okR_c (fun f hf => enS_o (by omega) r) (arF_R hl (d r hr)), fun k hk => okM_c (fun f hf => enS_o (by omega) k) (okm k hk)⟩
    · show DY n t B (enS (arF σ j) j (nI j) 1) (fiL (arT j (s.1 0 0) s).1 s.2.1 j) (fiZ (arT j (s.1 0 0) s).2.2.2 j 1)
      rw [fiL_AG ag]
      exact dy.fin hn (okm j hj) hj w1 (by decide) (fun i hi => rfl)
    · show IGj (enS (arF σ j) j (nI j) 1) (fiE (arT j (s.1 0 0) s).2.2.1 (arT j (s.1 0 0) s).2.2.2 j 1) (fiZ (arT j (s.1 0 0) s).2.2.2 j 1) k
      have pE : ptM (enS (arF σ j) j (nI j) 1) k = ptM (arF σ j) k := ptM_c (fun f hf => enS_o (by omega) k)
      by_cases ek : k = j
      · subst ek
        show IGj (enS (arF σ k) k (nI k) 1) (up2 s.2.2.1 k (s.2.2.2 k) 1) (va_up s.2.2.2 k (s.2.2.2 k + 1)) k
        unfold IGj elen
        rw [pE, pM, enS_23, if_pos rfl, enS_o (f := 24) (by decide), enS_o (f := 15) (by decide), arF_24, if_pos rfl, arF_f (f := 15) (by decide) (by decide) (by decide) (by decide), va_up_self, gj.1, gj.2, hq1, nI_1, if_pos rfl]
        exact ⟨rfl, rfl, ⟨q + 1, rfl, by omega, fun _ => by omega, fun _ => rfl⟩, hzl⟩
      · exact IGj_c (igo k hk ek) (by rw [enS_23, if_neg ek]) (enS_o (by decide) k) pE (enS_o (by decide) k) (fun _ => rfl) rfl

