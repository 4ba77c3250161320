/-! what the law's checks rest on, beside INV: sums over messages -/
def sumd (τ : SG) (r : Nat) : Nat → Nat
  | 0 => 0
  | k + 1 => if ix (τ 13 k) = r then sumd τ r k + ix (τ 24 k) else sumd τ r k
def totd (τ : SG) : Nat → Nat
  | 0 => 0
  | k + 1 => totd τ k + ix (τ 24 k)
def cnte (τ : SG) (T : Nat → Int32) (a : Nat) : Nat → Nat
  | 0 => 0
  | k + 1 => if ix (τ 12 k) = a ∧ ¬ τ 22 k = 0 ∧ ¬ T k = 0 then cnte τ T a k + 1 else cnte τ T a k
theorem sumd_c {σ τ : SG} {r : Nat} : ∀ {n : Nat}, (∀ k, k < n → τ 13 k = σ 13 k ∧ τ 24 k = σ 24 k) → sumd τ r n = sumd σ r n
  | 0, _ => rfl
  | n + 1, h => by
    unfold sumd
    rw [(h n (by omega)).1, (h n (by omega)).2, sumd_c (fun k hk => h k (by omega))]
theorem totd_c {σ τ : SG} : ∀ {n : Nat}, (∀ k, k < n → τ 24 k = σ 24 k) → totd τ n = totd σ n
  | 0, _ => rfl
  | n + 1, h => by
    unfold totd
    rw [h n (by omega), totd_c (fun k hk => h k (by omega))]
theorem cnte_c {σ τ : SG} {T U : Nat → Int32} {a : Nat} : ∀ {n : Nat}, (∀ k, k < n → τ 12 k = σ 12 k ∧ τ 22 k = σ 22 k ∧ U k = T k) → cnte τ U a n = cnte σ T a n
  | 0, _ => rfl
  | n + 1, h => by
    obtain ⟨h1, h2, h3⟩ := h n (by omega)
    unfold cnte
    rw [h1, h2, h3, cnte_c (fun k hk => h k (by omega))]
theorem sumd_1 {σ τ : SG} {r j : Nat} : ∀ {n : Nat}, j < n → (∀ k, k < n → τ 13 k = σ 13 k) → (∀ k, k < n → k ≠ j → τ 24 k = σ 24 k) → ix (τ 24 j) = ix (σ 24 j) + 1 → sumd τ r n = sumd σ r n + (if ix (σ 13 j) = r then 1 else 0)
  | 0, h, _, _, _ => absurd h (Nat.not_lt_zero _)
  | n + 1, hj, h1, h2, h3 => by
    by_cases e : j = n
    · subst e
      unfold sumd
      rw [h1 j hj, h3, sumd_c (σ := σ) (τ := τ) (fun k hk => ⟨h1 k (by omega), h2 k (by omega) (by omega)⟩)]
      split <;> omega
    · have i := sumd_1 (r := r) (n := n) (by omega) (fun k hk => h1 k (by omega)) (fun k hk => h2 k (by omega)) h3
      unfold sumd
      rw [h1 n (by omega), h2 n (by omega) (fun q => e q.symm), i]
      by_cases c : ix (σ 13 n) = r
      · rw [if_pos c, if_pos c]; omega
      · rw [if_neg c, if_neg c]
theorem totd_1 {σ τ : SG} {j : Nat} : ∀ {n : Nat}, j < n → (∀ k, k < n → k ≠ j → τ 24 k = σ 24 k) → ix (τ 24 j) = ix (σ 24 j) + 1 → totd τ n = totd σ n + 1
  | 0, h, _, _ => absurd h (Nat.not_lt_zero _)
  | n + 1, hj, h2, h3 => by
    by_cases e : j = n
    · subst e
      unfold totd
      rw [h3, totd_c (σ := σ) (τ := τ) (fun k hk => h2 k (by omega) (by omega))]
      omega
    · have i := totd_1 (n := n) (by omega) (fun k hk => h2 k (by omega)) h3
      unfold totd
      rw [h2 n (by omega) (fun q => e q.symm), i]
      omega
theorem cnte_1 {σ τ : SG} {T U : Nat → Int32} {a j : Nat} : ∀ {n : Nat}, j < n → (∀ k, k < n → τ 12 k = σ 12 k ∧ τ 22 k = σ 22 k) → (∀ k, k < n → k ≠ j → U k = T k) → T j = 0 → ¬ U j = 0 → cnte τ U a n = cnte σ T a n + (if ¬ σ 22 j = 0 ∧ a = ix (σ 12 j) then 1 else 0)
  | 0, h, _, _, _, _ => absurd h (Nat.not_lt_zero _)
  | n + 1, hj, h1, h2, h3, h4 => by
    by_cases e : j = n
    · subst e
      unfold cnte
      rw [(h1 j hj).1, (h1 j hj).2, cnte_c (σ := σ) (τ := τ) (T := T) (U := U) (fun k hk => ⟨(h1 k (by omega)).1, (h1 k (by omega)).2, h2 k (by omega) (by omega)⟩)]
      rw [if_neg (show ¬ (ix (σ 12 j) = a ∧ ¬ σ 22 j = 0 ∧ ¬ T j = 0) from fun q => q.2.2 h3)]
      by_cases c : ¬ σ 22 j = 0 ∧ a = ix (σ 12 j)
      · rw [if_pos c, if_pos ⟨c.2.symm, c.1, h4⟩]
      · rw [if_neg c, if_neg (fun q => c ⟨q.2.1, q.1.symm⟩)]; omega
    · have i := cnte_1 (a := a) (n := n) (by omega) (fun k hk => h1 k (by omega)) (fun k hk => h2 k (by omega)) h3 h4
      unfold cnte
      rw [(h1 n (by omega)).1, (h1 n (by omega)).2, h2 n (by omega) (fun q => e q.symm), i]
      by_cases c : ix (σ 12 n) = a ∧ ¬ σ 22 n = 0 ∧ ¬ T n = 0
      · rw [if_pos c, if_pos c]; omega
      · rw [if_neg c, if_neg c]
theorem totd_le {τ : SG} {m : Nat} : ∀ {n : Nat}, (∀ k, k < n → ix (τ 24 k) ≤ m) → totd τ n ≤ m * n
  | 0, _ => Nat.zero_le _
  | n + 1, h => by
    have i := totd_le (n := n) (fun k hk => h k (by omega))
    have := h n (by omega)
    unfold totd
    rw [Nat.mul_succ]
    omega
/-! what holds of each message, recipient and account; T: the law's record of states and parts brought; tk: receipts taken; rd: parts read -/
def XJ (t : Nat) (T : Nat → Int32) (τ : SG) (j : Nat) : Prop := (∃ e, e < 5 ∧ τ 23 j = nI e) ∧ (τ 22 j = 0 ∨ τ 22 j = 1) ∧ (T j = 0 ∨ τ 23 j = T j) ∧ ∃ d0 d q u, T (24 + j) = nI d0 ∧ τ 24 j = nI d ∧ τ 25 j = nI q ∧ τ 26 j = nI u ∧ d0 ≤ d ∧ d ≤ q ∧ q ≤ 500 ∧ u ≤ t + 80 ∧ (τ 23 j = 4 → d < q)
def XR (n : Nat) (rd : Nat → Nat) (τ : SG) (r : Nat) : Prop := ∃ m k i, m < 4 ∧ k ≤ 50 ∧ i ≤ 50 ∧ τ 31 r = nI m ∧ τ 29 r = nI k ∧ τ 30 r = nI i ∧ (2 ≤ m → k ≤ i) ∧ (m % 2 = 1 → ¬ τ 28 r = 0) ∧ i + rd r = sumd τ r n
def XA (n : Nat) (tk : Nat → Nat) (τ : SG) (Lx : Nat → List Nat) (a : Nat) : Prop := (Lx (1 + a)).length + tk a = cnte τ (τ 23) a n ∧ ∀ j ∈ Lx (1 + a), ix (τ 12 j) = a ∧ ¬ τ 22 j = 0
def XV (n t : Nat) (T : Nat → Int32) (tk rd : Nat → Nat) (τ : SG) (Lx : Nat → List Nat) : Prop := (∀ j, j < n → XJ t T τ j) ∧ (∀ r, r < 6 → XR n rd τ r) ∧ ∀ a, a < 4 → XA n tk τ Lx a
def xfd (f : Nat) : Prop := f = 12 ∨ f = 13 ∨ (22 ≤ f ∧ f ≤ 26) ∨ (28 ≤ f ∧ f ≤ 31)
theorem XJ.c {t t' : Nat} {T : Nat → Int32} {σ τ : SG} {j : Nat} (h : XJ t T σ j) (ht : t ≤ t') (hk : ∀ f, 22 ≤ f ∧ f ≤ 26 → τ f j = σ f j) : XJ t' T τ j := by
  obtain ⟨h1, h2, h3, d0, d, q, u, g1, g2, g3, g4, g5, g6, g7, g8, g9⟩ := h
  unfold XJ
  rw [hk 22 (by omega), hk 23 (by omega), hk 24 (by omega), hk 25 (by omega), hk 26 (by omega)]
  exact ⟨h1, h2, h3, d0, d, q, u, g1, g2, g3, g4, g5, g6, g7, by omega, g9⟩
theorem XR.c {n : Nat} {rd : Nat → Nat} {σ τ : SG} {r : Nat} (h : XR n rd σ r) (hk : ∀ f, 28 ≤ f ∧ f ≤ 31 → τ f r = σ f r) (hs : sumd τ r n = sumd σ r n) : XR n rd τ r := by
  unfold XR
  rw [hk 28 (by omega), hk 29 (by omega), hk 30 (by omega), hk 31 (by omega), hs]
  exact h
theorem XA.c {n : Nat} {tk : Nat → Nat} {σ τ : SG} {Lx Lx' : Nat → List Nat} {a : Nat} (h : XA n tk σ Lx a) (hL : Lx' (1 + a) = Lx (1 + a)) (hk : ∀ i, τ 12 i = σ 12 i ∧ τ 22 i = σ 22 i) (h23 : ∀ i, i < n → τ 23 i = σ 23 i) : XA n tk τ Lx' a := by
  unfold XA
  rw [hL, cnte_c (σ := σ) (τ := τ) (T := σ 23) (U := τ 23) (fun k hk' => ⟨(hk k).1, (hk k).2, h23 k hk'⟩)]
  exact ⟨h.1, fun j hj => by rw [(hk j).1, (hk j).2]; exact h.2 j hj⟩
theorem XV.c {n t t' : Nat} {T : Nat → Int32} {tk rd : Nat → Nat} {σ τ : SG} {Lx Lx' : Nat → List Nat} (h : XV n t T tk rd σ Lx) (ht : t ≤ t') (hk : ∀ f, xfd f → ∀ i, τ f i = σ f i) (hL : ∀ a, a < 4 → Lx' (1 + a) = Lx (1 + a)) : XV n t' T tk rd τ Lx' :=
  ⟨fun j hj => (h.1 j hj).c ht (fun f hf => hk f (by unfold xfd; omega) j), fun r hr => (h.2.1 r hr).c (fun f hf => hk f (by unfold xfd; omega) r) (sumd_c (fun k _ => ⟨hk 13 (by unfold xfd; omega) k, hk 24 (by unfold xfd; omega) k⟩)), fun a ha => (h.2.2 a ha).c (hL a ha) (fun i => ⟨hk 12 (by unfold xfd; omega) i, hk 22 (by unfold xfd; omega) i⟩) (fun i _ => hk 23 (by unfold xfd; omega) i)⟩
theorem XV.ag {n t : Nat} {T : Nat → Int32} {tk rd : Nat → Nat} {σ τ : SG} {Lx : Nat → List Nat} (h : XV n t T tk rd τ Lx) (hag : AG σ τ) : XV n t T tk rd σ Lx :=
  h.c (Nat.le_refl _) (fun f hf i => (hag f (by unfold xfd at hf; unfold cfd; omega) i).symm) (fun _ _ => rfl)
/-- an end -/
theorem XV.fin {n t : Nat} {T : Nat → Int32} {tk rd : Nat → Nat} {s : CSt} (h : XV n t T tk rd s.1 s.2.1) {j e : Nat} (hj : j < n) (hw : s.1 23 j = 0) (he : 1 ≤ e ∧ e ≤ 4) (h4 : e = 4 → ∃ d q, s.1 24 j = nI d ∧ s.1 25 j = nI q ∧ d < q ∧ q ≤ 500) (h12 : ix (s.1 12 j) < 4) : XV n t T tk rd (finT j (nI e) s).1 (finT j (nI e) s).2.1 := by
  have e1 : (finT j (nI e) s).1 = up2 s.1 23 j (nI e) := rfl
  have e2 : (finT j (nI e) s).2.1 = fiL s.1 s.2.1 j := rfl
  have hne : ¬ nI e = 0 := fun q => by
    have := (nI_eq (a := e) (b := 0) (by omega) (by omega)).mp q
    omega
  rw [e1, e2]
  have k : ∀ f, f ≠ 23 → ∀ i, up2 s.1 23 j (nI e) f i = s.1 f i := fun f hf i => up2_k hf i
  refine ⟨fun i hi => ?_, fun r hr => (h.2.1 r hr).c (fun f hf => k f (by omega) r) (sumd_c (fun y _ => ⟨k 13 (by decide) y, k 24 (by decide) y⟩)), fun a ha => ?_⟩
  · by_cases c : i = j
    · subst c
      obtain ⟨h1, h2, h3, d0, d, q, u, g1, g2, g3, g4, g5, g6, g7, g8, g9⟩ := h.1 i hi
      unfold XJ
      rw [up2_self, k 22 (by decide), k 24 (by decide), k 25 (by decide), k 26 (by decide)]
      refine ⟨⟨e, by omega, rfl⟩, h2, .inl (h3.elim id (fun z => z.symm.trans hw)), d0, d, q, u, g1, g2, g3, g4, g5, g6, g7, g8, fun z => ?_⟩
      have ee : e = 4 := (nI_eq (a := e) (b := 4) (by omega) (by omega)).mp z
      obtain ⟨d', q', y1, y2, y3, y4⟩ := h4 ee
      have b1 : d < 2 ^ 31 := by omega
      have b2 : d' < 2 ^ 31 := by omega
      have z1 : d = d' := (nI_eq b1 b2).mp (g2.symm.trans y1)
      have z2 : q = q' := (nI_eq (by omega) (by omega)).mp (g3.symm.trans y2)
      omega
    · exact (h.1 i hi).c (Nat.le_refl _) (fun f hf => up2_ne _ _ (fun z => c z.2))
  · obtain ⟨g1, g2⟩ := h.2.2 a ha
    have hc := cnte_1 (σ := s.1) (τ := up2 s.1 23 j (nI e)) (T := s.1 23) (U := up2 s.1 23 j (nI e) 23) (a := a) hj (fun y _ => ⟨k 12 (by decide) y, k 22 (by decide) y⟩) (fun y _ hy => up2_ne _ _ (fun z => hy z.2)) hw (by rw [up2_self]; exact hne)
    unfold XA
    rw [hc, fiL_c ha h12]
    by_cases c : ¬ s.1 22 j = 0 ∧ a = ix (s.1 12 j)
    · rw [if_pos c, if_pos c]
      refine ⟨by rw [List.length_append, List.length_singleton]; omega, fun i hi => ?_⟩
      rw [k 12 (by decide), k 22 (by decide)]
      rcases List.mem_append.mp hi with z | z
      · exact g2 i z
      · rw [List.mem_singleton.mp z]
        exact ⟨c.2.symm, c.1⟩
    · rw [if_neg c, if_neg c]
      refine ⟨g1, fun i hi => ?_⟩
      rw [k 12 (by decide), k 22 (by decide)]
      exact g2 i hi
