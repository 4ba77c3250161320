/-! replaced messages, a new one, waking, rooms, reading, receipts taken -/
theorem XV.dq {n t j0 : Nat} {s : CSt} {T : Nat → Int32} {tk rd : Nat → Nat} (h : XV n t T tk rd s.1 s.2.1) (hj0 : j0 ≤ n) (h12 : ∀ j, j < n → ix (s.1 12 j) < 4) : ∀ k, k ≤ j0 → (XV n t T tk rd (dqT j0 s k).1.1 (dqT j0 s k).1.2.1 ∧ ∀ f, f ≠ 23 → ∀ i, (dqT j0 s k).1.1 f i = s.1 f i) ∧ ∀ i, k ≤ i → (dqT j0 s k).1.1 23 i = s.1 23 i
  | 0, _ => ⟨⟨h, fun _ _ _ => rfl⟩, fun _ _ => rfl⟩
  | k + 1, hk => by
    obtain ⟨⟨i1, i2⟩, i3⟩ := XV.dq h hj0 h12 k (by omega)
    unfold dqT
    split
    · next c =>
      refine ⟨⟨XV.fin (e := 3) i1 (by omega) c.1 ⟨by decide, by decide⟩ (fun z => absurd z (by decide)) (by rw [i2 12 (by decide)]; exact h12 k (by omega)), fun f hf i => (up2_k hf i).trans (i2 f hf i)⟩, fun i hi => ?_⟩
      exact (up2_ne _ _ (fun z => absurd z.2 (by omega))).trans (i3 i (by omega))
    · exact ⟨⟨i1, i2⟩, fun i hi => i3 i (by omega)⟩
theorem XV.dA {n t j0 : Nat} {s : CSt} {T : Nat → Int32} {tk rd : Nat → Nat} (h : XV n t T tk rd s.1 s.2.1) (hj0 : j0 ≤ n) (h12 : ∀ j, j < n → ix (s.1 12 j) < 4) : XV n t T tk rd (dqA j0 s).1.1 (dqA j0 s).1.2.1 ∧ (∀ f, f ≠ 23 → ∀ i, (dqA j0 s).1.1 f i = s.1 f i) ∧ ∀ i, j0 ≤ i → (dqA j0 s).1.1 23 i = s.1 23 i := by
  unfold dqA
  split
  · exact ⟨h, fun _ _ _ => rfl, fun _ _ => rfl⟩
  · obtain ⟨⟨a, b⟩, c⟩ := XV.dq h hj0 h12 j0 (Nat.le_refl _)
    exact ⟨a, b, c⟩
theorem XV.new {n t : Nat} {T U : Nat → Int32} {tk rd : Nat → Nat} {σ : SG} {Lx : Nat → List Nat} (h : XV n t T tk rd σ Lx) (hn : n < 24) (hz : σ 23 n = 0 ∧ σ 24 n = 0 ∧ σ 25 n = 0) (h0 : σ 0 0 = nI t) {a b : Nat} (h6 : σ 6 a = 0 ∨ σ 6 a = 1) (hT : ∀ j, j < n → U j = T j ∧ U (24 + j) = T (24 + j)) (hTn : U n = 0 ∧ U (24 + n) = 0) (hLn : ∀ y, y < 4 → ∀ j ∈ Lx (1 + y), j < n) (v to rank ticks : Int32) : XV (n + 1) t U tk rd (nwS σ σ a n v to rank ticks) (sbL Lx b n) := by
  obtain ⟨n12, n13, n14, n15, n16, n26, n17, n18, n19, n20, n21, n22, n11⟩ := @nwS_n σ σ a n v to rank ticks
  generalize hτ : nwS σ σ a n v to rank ticks = τ at *
  have ko : ∀ f, f ≠ 11 → ∀ i, i ≠ n → τ f i = σ f i := fun f hf i hi => by rw [← hτ]; exact nwS_o hf hi
  have kf : ∀ f, ¬ (f = 11 ∨ (12 ≤ f ∧ f ≤ 22) ∨ f = 26) → ∀ i, τ f i = σ f i := fun f hf i => by rw [← hτ]; exact nwS_f hf i
  have eL : ∀ y, y < 4 → sbL Lx b n (1 + y) = Lx (1 + y) := fun y hy => by
    unfold sbL
    rw [va_up_ne _ _ (by omega), va_up_ne _ _ (by omega)]
  refine ⟨fun j hj => ?_, fun r hr => ?_, fun y hy => ?_⟩
  · by_cases c : j = n
    · subst c
      unfold XJ
      rw [n22, kf 23 (by omega), kf 24 (by omega), kf 25 (by omega), n26, hz.1, hz.2.1, hz.2.2, h0, hTn.1, hTn.2]
      exact ⟨⟨0, by decide, rfl⟩, h6, .inl rfl, 0, 0, 0, t, rfl, rfl, rfl, rfl, Nat.le_refl _, Nat.le_refl _, by omega, by omega, fun z => absurd z (by decide)⟩
    · have q := (h.1 j (by omega)).c (Nat.le_refl t) (fun f hf => ko f (by omega) j c)
      unfold XJ at q ⊢
      rw [(hT j (by omega)).1, (hT j (by omega)).2]
      exact q
  · refine XR.c (n := n + 1) (σ := σ) ?_ (fun f hf => kf f (by omega) r) ?_
    · obtain ⟨m, k, i, p1, p2, p3, p4, p5, p6, p7, p8, p9⟩ := h.2.1 r hr
      refine ⟨m, k, i, p1, p2, p3, p4, p5, p6, p7, p8, ?_⟩
      unfold sumd
      rw [hz.2.1, show ix 0 = 0 from rfl, p9]
      split <;> rfl
    · unfold sumd
      rw [kf 24 (by omega), hz.2.1, show ix 0 = 0 from rfl, sumd_c (σ := σ) (τ := τ) (fun k hk => ⟨ko 13 (by decide) k (by omega), kf 24 (by omega) k⟩)]
      split <;> split <;> rfl
  · obtain ⟨g1, g2⟩ := h.2.2 y hy
    unfold XA
    rw [eL y hy]
    refine ⟨?_, fun j hj => ?_⟩
    · unfold cnte
      rw [if_neg (show ¬ (ix (τ 12 n) = y ∧ ¬ τ 22 n = 0 ∧ ¬ τ 23 n = 0) from fun q => q.2.2 (by rw [kf 23 (by omega)]; exact hz.1)), g1]
      exact (cnte_c (fun k hk => ⟨ko 12 (by decide) k (by omega), ko 22 (by decide) k (by omega), kf 23 (by omega) k⟩)).symm
    · have hlt := hLn y hy j hj
      rw [ko 12 (by decide) j (by omega), ko 22 (by decide) j (by omega)]
      exact g2 j hj
theorem duL_or {t : Int32} {i : Nat} : ∀ (xs : List Nat) (σ : SG), duL σ t xs 26 i = σ 26 i ∨ duL σ t xs 26 i = t
  | [], σ => .inl rfl
  | x :: xs, σ => by
    have e : duL σ t (x :: xs) = duL (duT t σ x) t xs := rfl
    rw [e]
    rcases duL_or xs (duT t σ x) with q | q
    · rw [q]
      unfold duT
      by_cases c : i = x
      · subst c
        rw [up2_self]
        split
        · exact .inr rfl
        · exact .inl rfl
      · rw [up2_ne _ _ (fun z => c z.2)]
        exact .inl rfl
    · exact .inr q
/-- waking: one mark goes, some messages are due now -/
theorem XV.wk {n t m k i r : Nat} {T : Nat → Int32} {tk rd : Nat → Nat} {σ : SG} {Lx : Nat → List Nat} {mk : Int32} (hmk : mk = 1 ∨ mk = 2) (hJ : ∀ j, j < n → XJ t T σ j) (hR : ∀ x, x < 6 → x ≠ r → XR n rd σ x) (hA : ∀ a, a < 4 → XA n tk σ Lx a) (hm : m < 4) (hk : k ≤ 50) (hi : i ≤ 50) (h31 : σ 31 r = nI m) (h29 : σ 29 r = nI k) (h30 : σ 30 r = nI i) (c2 : mk = 1 → 2 ≤ m → k ≤ i) (c1 : mk = 2 → m % 2 = 1 → ¬ σ 28 r = 0) (hs : i + rd r = sumd σ r n) (xs : List Nat) : XV n t T tk rd (wkL σ r mk (nI t) xs) Lx := by
  generalize hτ : wkL σ r mk (nI t) xs = τ
  have k0 : ∀ f, f ≠ 26 → f ≠ 31 → ∀ y, τ f y = σ f y := fun f h1 h2 y => by
    rw [← hτ]
    unfold wkL
    split
    · rfl
    · rw [duL_o h1, up2_k h2]
  have k26 : ∀ y, τ 26 y = σ 26 y ∨ τ 26 y = nI t := fun y => by
    rw [← hτ]
    unfold wkL
    split
    · exact .inl rfl
    · rcases duL_or (t := nI t) (i := y) xs (up2 σ 31 r (σ 31 r &&& (mk ^^^ (-1)))) with q | q
      · rw [q, up2_k (by decide)]; exact .inl rfl
      · exact .inr q
  have k31 : ∀ y, y ≠ r → τ 31 y = σ 31 y := fun y hy => by
    rw [← hτ]
    unfold wkL
    split
    · rfl
    · rw [duL_o (by decide), up2_ne _ _ (fun z => hy z.2)]
  have kr : τ 31 r = nI (if mk = 1 then m - m % 2 else m % 2) := by
    rw [← hτ]
    unfold wkL
    rw [h31]
    have c3 : m = 0 ∨ m = 1 ∨ m = 2 ∨ m = 3 := by omega
    have e : ∀ v : Int32, duL (up2 σ 31 r v) (nI t) xs 31 r = v := fun v => by rw [duL_o (by decide), up2_self]
    rcases hmk with rfl | rfl <;> rcases c3 with rfl | rfl | rfl | rfl
    · rw [if_pos (by decide), h31]; decide
    · rw [if_neg (by decide), e]; decide
    · rw [if_pos (by decide), h31]; decide
    · rw [if_neg (by decide), e]; decide
    · rw [if_pos (by decide), h31]; decide
    · rw [if_pos (by decide), h31]; decide
    · rw [if_neg (by decide), e]; decide
    · rw [if_neg (by decide), e]; decide
  refine ⟨fun j hj => ?_, fun x hx => ?_, fun a ha => (hA a ha).c rfl (fun y => ⟨k0 12 (by decide) (by decide) y, k0 22 (by decide) (by decide) y⟩) (fun y _ => k0 23 (by decide) (by decide) y)⟩
  · obtain ⟨h1, h2, h3, d0, d, q, u, g1, g2, g3, g4, g5, g6, g7, g8, g9⟩ := hJ j hj
    unfold XJ
    rw [k0 22 (by decide) (by decide), k0 23 (by decide) (by decide), k0 24 (by decide) (by decide), k0 25 (by decide) (by decide)]
    rcases k26 j with z | z
    · rw [z]; exact ⟨h1, h2, h3, d0, d, q, u, g1, g2, g3, g4, g5, g6, g7, g8, g9⟩
    · rw [z]; exact ⟨h1, h2, h3, d0, d, q, t, g1, g2, g3, rfl, g5, g6, g7, by omega, g9⟩
  · have hs' := sumd_c (σ := σ) (τ := τ) (r := x) (n := n) (fun y _ => ⟨k0 13 (by decide) (by decide) y, k0 24 (by decide) (by decide) y⟩)
    by_cases c : x = r
    · subst c
      refine ⟨_, k, i, ?_, hk, hi, kr, by rw [k0 29 (by decide) (by decide)]; exact h29, by rw [k0 30 (by decide) (by decide)]; exact h30, fun z => ?_, fun z => ?_, by rw [hs']; exact hs⟩
      · split <;> omega
      · rcases hmk with e | e
        · rw [if_pos e] at z
          exact c2 e (by omega)
        · rw [if_neg (by rw [e]; decide)] at z
          omega
      · rw [k0 28 (by decide) (by decide)]
        rcases hmk with e | e
        · rw [if_pos e] at z
          omega
        · rw [if_neg (by rw [e]; decide)] at z
          exact c1 e (by omega)
    · exact (hR x hx c).c (fun f hf => by
        by_cases f1 : f = 31
        · subst f1; exact k31 x c
        · exact k0 f (by omega) f1 x) hs'
theorem XV.mode {n t r : Nat} {T : Nat → Int32} {tk rd : Nat → Nat} {σ : SG} {Lx : Nat → List Nat} (h : XV n t T tk rd σ Lx) (hr : r < 6) (u : Int32) (xs : List Nat) : XV n t T tk rd (if u = 0 then wkL (up2 σ 28 r u) r 1 (nI t) xs else up2 σ 28 r u) Lx := by
  have k : ∀ f, f ≠ 28 → ∀ i, up2 σ 28 r u f i = σ f i := fun f hf i => up2_k hf i
  have hJ : ∀ j, j < n → XJ t T (up2 σ 28 r u) j := fun j hj => (h.1 j hj).c (Nat.le_refl _) (fun f hf => k f (by omega) j)
  have hs : ∀ x, sumd (up2 σ 28 r u) x n = sumd σ x n := fun x => sumd_c (fun y _ => ⟨k 13 (by decide) y, k 24 (by decide) y⟩)
  have hR : ∀ x, x < 6 → x ≠ r → XR n rd (up2 σ 28 r u) x := fun x hx c => (h.2.1 x hx).c (fun f hf => up2_ne _ _ (fun z => c z.2)) (hs x)
  have hA : ∀ a, a < 4 → XA n tk (up2 σ 28 r u) Lx a := fun a ha => (h.2.2 a ha).c rfl (fun y => ⟨k 12 (by decide) y, k 22 (by decide) y⟩) (fun y _ => k 23 (by decide) y)
  obtain ⟨m, kk, i, p1, p2, p3, p4, p5, p6, p7, p8, p9⟩ := h.2.1 r hr
  by_cases c : u = 0
  · rw [if_pos c]
    exact XV.wk (.inl rfl) hJ hR hA p1 p2 p3 ((k 31 (by decide) r).trans p4) ((k 29 (by decide) r).trans p5) ((k 30 (by decide) r).trans p6) (fun _ => p7) (fun z => absurd z (by decide)) (p9.trans (hs r).symm) xs
  · rw [if_neg c]
    refine ⟨hJ, fun x hx => ?_, hA⟩
    by_cases e : x = r
    · subst e
      exact ⟨m, kk, i, p1, p2, p3, (k 31 (by decide) x).trans p4, (k 29 (by decide) x).trans p5, (k 30 (by decide) x).trans p6, p7, fun _ => by rw [up2_self]; exact c, p9.trans (hs x).symm⟩
    · exact hR x hx e
theorem XV.room {n t r z : Nat} {T : Nat → Int32} {tk rd : Nat → Nat} {σ : SG} {Lx : Nat → List Nat} (h : XV n t T tk rd σ Lx) (h0 : σ 0 0 = nI t) (hr : r < 6) (hz : z ≤ 50) (xs : List Nat) : XV n t T tk rd (lkL (up2 σ 29 r (nI z)) r xs) Lx := by
  have k : ∀ f, f ≠ 29 → ∀ i, up2 σ 29 r (nI z) f i = σ f i := fun f hf i => up2_k hf i
  have hJ : ∀ j, j < n → XJ t T (up2 σ 29 r (nI z)) j := fun j hj => (h.1 j hj).c (Nat.le_refl _) (fun f hf => k f (by omega) j)
  have hs : ∀ x, sumd (up2 σ 29 r (nI z)) x n = sumd σ x n := fun x => sumd_c (fun y _ => ⟨k 13 (by decide) y, k 24 (by decide) y⟩)
  have hR : ∀ x, x < 6 → x ≠ r → XR n rd (up2 σ 29 r (nI z)) x := fun x hx c => (h.2.1 x hx).c (fun f hf => up2_ne _ _ (fun z => c z.2)) (hs x)
  have hA : ∀ a, a < 4 → XA n tk (up2 σ 29 r (nI z)) Lx a := fun a ha => (h.2.2 a ha).c rfl (fun y => ⟨k 12 (by decide) y, k 22 (by decide) y⟩) (fun y _ => k 23 (by decide) y)
  obtain ⟨m, kk, i, p1, p2, p3, p4, p5, p6, p7, p8, p9⟩ := h.2.1 r hr
  unfold lkL
  rw [up2_self, k 30 (by decide), p6, k 0 (by decide), h0]
  by_cases c : nI z ≤ nI i
  · rw [if_pos c]
    refine ⟨hJ, fun x hx => ?_, hA⟩
    by_cases e : x = r
    · subst e
      exact ⟨m, z, i, p1, hz, p3, (k 31 (by decide) x).trans p4, up2_self _ _ _ _, (k 30 (by decide) x).trans p6, fun _ => (nI_leI (by omega) (by omega)).mp c, fun q => by rw [k 28 (by decide)]; exact p8 q, p9.trans (hs x).symm⟩
    · exact hR x hx e
  · rw [if_neg c]
    exact XV.wk (.inr rfl) hJ hR hA p1 hz p3 ((k 31 (by decide) r).trans p4) (up2_self _ _ _ _) ((k 30 (by decide) r).trans p6) (fun q => absurd q (by decide)) (fun _ q => by rw [k 28 (by decide)]; exact p8 q) (p9.trans (hs r).symm) xs
theorem XV.read {n t r z y : Nat} {T : Nat → Int32} {tk rd : Nat → Nat} {σ : SG} {Lx : Nat → List Nat} (h : XV n t T tk rd σ Lx) (h0 : σ 0 0 = nI t) (hr : r < 6) (h30 : σ 30 r = nI y) (hy : y ≤ 50) (hz : z ≤ y) (xs : List Nat) : XV n t T tk (va_up rd r (rd r + (y - z))) (lkL (up2 σ 30 r (nI z)) r xs) Lx := by
  have k : ∀ f, f ≠ 30 → ∀ i, up2 σ 30 r (nI z) f i = σ f i := fun f hf i => up2_k hf i
  have hJ : ∀ j, j < n → XJ t T (up2 σ 30 r (nI z)) j := fun j hj => (h.1 j hj).c (Nat.le_refl _) (fun f hf => k f (by omega) j)
  have hs : ∀ x, sumd (up2 σ 30 r (nI z)) x n = sumd σ x n := fun x => sumd_c (fun y _ => ⟨k 13 (by decide) y, k 24 (by decide) y⟩)
  have hR : ∀ x, x < 6 → x ≠ r → XR n (va_up rd r (rd r + (y - z))) (up2 σ 30 r (nI z)) x := fun x hx c => by
    have q := (h.2.1 x hx).c (τ := up2 σ 30 r (nI z)) (fun f hf => up2_ne _ _ (fun z => c z.2)) (hs x)
    unfold XR at q ⊢
    rw [va_up_ne _ _ c]
    exact q
  have hA : ∀ a, a < 4 → XA n tk (up2 σ 30 r (nI z)) Lx a := fun a ha => (h.2.2 a ha).c rfl (fun y => ⟨k 12 (by decide) y, k 22 (by decide) y⟩) (fun y _ => k 23 (by decide) y)
  obtain ⟨m, kk, i, p1, p2, p3, p4, p5, p6, p7, p8, p9⟩ := h.2.1 r hr
  have ey : y = i := (nI_eq (by omega) (by omega)).mp (h30.symm.trans p6)
  have hsum : z + va_up rd r (rd r + (y - z)) r = sumd (up2 σ 30 r (nI z)) r n := by rw [va_up_self, hs, ← p9]; omega
  unfold lkL
  rw [k 29 (by decide), p5, up2_self, k 0 (by decide), h0]
  by_cases c : nI kk ≤ nI z
  · rw [if_pos c]
    refine ⟨hJ, fun x hx => ?_, hA⟩
    by_cases e : x = r
    · subst e
      exact ⟨m, kk, z, p1, p2, by omega, (k 31 (by decide) x).trans p4, (k 29 (by decide) x).trans p5, up2_self _ _ _ _, fun _ => (nI_leI (by omega) (by omega)).mp c, fun q => by rw [k 28 (by decide)]; exact p8 q, hsum⟩
    · exact hR x hx e
  · rw [if_neg c]
    exact XV.wk (.inr rfl) hJ hR hA p1 p2 (by omega) ((k 31 (by decide) r).trans p4) ((k 29 (by decide) r).trans p5) (up2_self _ _ _ _) (fun q => absurd q (by decide)) (fun _ q => by rw [k 28 (by decide)]; exact p8 q) hsum xs
theorem XV.take {n t a : Nat} {T : Nat → Int32} {tk rd : Nat → Nat} {σ : SG} {Lx : Nat → List Nat} (h : XV n t T tk rd σ Lx) (ha : a < 4) (hl : ¬ (Lx (1 + a)).length = 0) : XV n t T (va_up tk a (tk a + 1)) rd σ (va_up Lx (1 + a) ((Lx (1 + a)).eraseIdx 0)) := by
  refine ⟨h.1, h.2.1, fun y hy => ?_⟩
  obtain ⟨g1, g2⟩ := h.2.2 y hy
  unfold XA
  by_cases c : y = a
  · subst c
    rw [va_up_self, va_up_self, List.length_eraseIdx, if_pos (by omega)]
    exact ⟨by omega, fun j hj => g2 j (List.mem_of_mem_eraseIdx hj)⟩
  · rw [va_up_ne _ _ (show 1 + y ≠ 1 + a by omega), va_up_ne _ _ c]
    exact ⟨g1, g2⟩
