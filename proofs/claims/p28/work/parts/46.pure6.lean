/-! attempts, and the passing of time -/
theorem RLr.try1 {n t : Nat} {B B2 : Nat → Nat} {σ : SG} {s : CSt} {p : Nat → Int32} (h : RLr n t B σ s) (hn : n ≤ 40) {r : Nat} (hr : r < 6) (hp : ∀ j, j < n → p j = nI (ptM σ j)) (hB1 : ∀ j, B j ≤ B2 j) (hB2 : ∀ j, j < n → ix (σ 13 j) = r → B j + 1 ≤ B2 j) (hB3 : ∀ j, j < n → σ 23 j = 0 → B2 j < ix (σ 15 j)) : RLr n t B2 (if atB σ n r = (-1) then σ else trS σ (ix (atB σ n r)) (atB σ n r)) (att p r s).1 ∧ (att p r s).2.2 = (if atB σ n r = (-1) then 0 else trR σ (ix (atB σ n r))) ∧ (¬ atB σ n r = (-1) → tryOK σ (ix (atB σ n r))) := by
  have hfr : atB σ n r = ovN (frL σ (σ 0 0) (qf σ n r)) := fr_eq hr n hn (fun j hj => (h.2.2.2.2 j hj).2.1)
  have hcl : frL s.1 (s.1 0 0) (s.2.1 (5 + r)) = frL σ (σ 0 0) (qf σ n r) := by rw [h.2.1.1.2 r hr, h.1 0 (cf (by omega)), frL_AG h.1]
  rcases hq : frL σ (σ 0 0) (qf σ n r) with _ | j
  · rw [hq] at hfr hcl
    have e : atB σ n r = (-1) := hfr
    rw [if_pos e, if_pos e, att_0 hcl]
    exact ⟨h.mono hB1 hB3, rfl, fun z => absurd e z⟩
  · rw [hq] at hfr hcl
    have hm := qf_mem.mp (frL_mem hq)
    have e : atB σ n r = nI j := hfr
    have ej : ix (nI j) = j := ix_nI (by omega)
    have hne : ¬ nI j = (-1) := nI_n1 (by omega)
    rw [e, ej, if_neg hne, if_neg hne]
    have okm := h.2.2.2.2 j hm.1
    have okr := (h.2.2.2.1 r hr).1
    have ok : tryOK σ j := ⟨(h.2.1.2.1.en hn okm hm.1 hm.2.1).1, okm.2.1, okm.2.2.1, by rw [hm.2.2]; exact okr⟩
    obtain ⟨h1, hz1⟩ := h.t1 hm.1 hm.2.1 hB1 (hB2 j hm.1 hm.2.2) hB3
    have w1 : tr0 σ j 23 j = 0 := by rw [tr0_f (by decide)]; exact hm.2.1
    have m28 : s.1 28 r = σ 28 r := h.1 28 (cf (by omega)) r
    have hF : trF σ j ↔ (¬ σ 28 r = 0 ∨ ¬ σ 30 r < σ 29 r) := by unfold trF; rw [hm.2.2]
    have e0 : (t1T j s).1 0 0 = s.1 0 0 := by
      show up2 s.1 25 j (s.1 25 j + 1) 0 0 = _
      exact up2_k (by decide) 0
    have e13 : ix (tr0 σ j 13 j) = r := by rw [tr0_f (by decide)]; exact hm.2.2
    have hC : trC σ j = if σ 28 r = 0 then 0 else σ 28 r := by unfold trC; rw [hm.2.2]
    have caE : caF s.1 r = caF σ r := by unfold caF; rw [h.1 28 (cf (by omega)), h.1 29 (cf (by omega)), h.1 30 (cf (by omega))]
    have e28 : σ 28 (ix (σ 13 j)) = σ 28 r := by rw [hm.2.2]
    have hS : trS σ j (nI j) = if σ 28 (ix (σ 13 j)) = 3 then enS (tr0 σ j) j (nI j) 4 else if trF σ j then faS (tr0 σ j) j (trC σ j) (ix (trC σ j)) else if ((σ 24 j) + 1) = nI (ptM σ j) then enS (tr1 σ j) j (nI j) 1 else tr1 σ j := rfl
    have hR : trR σ j = if σ 28 (ix (σ 13 j)) = 3 then 0 else if trF σ j then 0 else 1 := rfl
    rw [hS, hR]
    by_cases c3 : σ 28 r = 3
    · rw [if_pos (e28.trans c3), if_pos (e28.trans c3), att_1 hcl (by rw [m28]; exact c3)]
      exact ⟨h1.fin hn hm.1 w1 (.inr (.inr rfl)), rfl, fun _ => ok⟩
    · have c3' : ¬ σ 28 (ix (σ 13 j)) = 3 := fun z => c3 (e28.symm.trans z)
      rw [if_neg c3', if_neg c3']
      have hmode : σ 28 r = 0 ∨ σ 28 r = 1 ∨ σ 28 r = 2 := by
        have h4 : ix (σ 28 r) = 0 ∨ ix (σ 28 r) = 1 ∨ ix (σ 28 r) = 2 ∨ ix (σ 28 r) = 3 := by have := okr.2; omega
        rcases h4 with z | z | z | z
        · exact .inl (by rw [okr.1, z]; rfl)
        · exact .inr (.inl (by rw [okr.1, z]; rfl))
        · exact .inr (.inr (by rw [okr.1, z]; rfl))
        · exact absurd (by rw [okr.1, z]; rfl) c3
      have fa : ∀ i, i < 3 → caF σ r = some i → trC σ j = nI (2 - i) → trF σ j → RLr n t B2 (if trF σ j then faS (tr0 σ j) j (trC σ j) (ix (trC σ j)) else if ((σ 24 j) + 1) = nI (ptM σ j) then enS (tr1 σ j) j (nI j) 1 else tr1 σ j) (att p r s).1 ∧ (att p r s).2.2 = (if trF σ j then 0 else 1) ∧ (¬ nI j = (-1) → tryOK σ j) := by
        intro i hi hc hz hf
        rw [if_pos hf, if_pos hf, att_3 hcl (by rw [m28]; exact c3) (by rw [caE]; exact hc)]
        refine ⟨?_, rfl, fun _ => ok⟩
        have z := h1.fa hm.1 w1 hz1 hi hz
        rw [e13, e0] at z
        have ez : ix (trC σ j) = 2 - i := by rw [hz]; exact ix_nI (by omega)
        rw [ez]
        exact z
      by_cases cF : trF σ j
      · rcases hmode with z | z | z
        · have z2 : ¬ σ 30 r < σ 29 r := (hF.mp cF).resolve_left (fun y => y z)
          exact fa 2 (by decide) (by unfold caF; rw [z, if_neg (by decide), if_neg (by decide), if_pos (Int32.not_lt.mp z2)]) (by rw [hC, if_pos z]; rfl) cF
        · exact fa 1 (by decide) (by unfold caF; rw [z, if_neg (by decide), if_pos rfl]) (by rw [hC, z]; rfl) cF
        · exact fa 0 (by decide) (by unfold caF; rw [z, if_pos rfl]) (by rw [hC, z]; rfl) cF
      · rw [if_neg cF, if_neg cF]
        have z0 : σ 28 r = 0 := Classical.not_not.mp (fun y => cF (hF.mpr (.inl y)))
        have z1 : σ 30 r < σ 29 r := Classical.not_not.mp (fun y => cF (hF.mpr (.inr y)))
        have hc : caF σ r = none := by
          unfold caF
          rw [z0, if_neg (by decide), if_neg (by decide), if_neg (Int32.not_le.mpr z1)]
        rw [att_2 hcl (by rw [m28]; exact c3) (by rw [caE]; exact hc)]
        refine ⟨?_, rfl, fun _ => ok⟩
        have z := h1.arr hn hm.1 w1 hz1 (by rw [e13, tr0_f (by decide), tr0_f (by decide)]; exact z1)
        have pE : ptM (tr0 σ j) j = ptM σ j := ptM_c (fun f hf => tr0_f (by omega) j)
        rw [pE, tr0_f (by decide), ← tr1_ar, e0, ← hp j hm.1] at z
        rw [← hp j hm.1]
        exact z
def WN (σ : SG) : Nat → Nat
  | 0 => 0
  | k + 1 => if σ 23 k = 0 then WN σ k + 1 else WN σ k
theorem WN_s (σ : SG) (k : Nat) : WN σ (k + 1) = if σ 23 k = 0 then WN σ k + 1 else WN σ k := rfl
theorem WN_le (σ : SG) : ∀ k, WN σ k ≤ k
  | 0 => Nat.le_refl _
  | k + 1 => by
    have h := WN_le σ k
    rw [WN_s]
    split <;> omega
theorem WN_c {σ τ : SG} : ∀ n, (∀ j, j < n → τ 23 j = σ 23 j) → WN τ n = WN σ n
  | 0, _ => rfl
  | k + 1, h => by rw [WN_s, WN_s, h k (Nat.lt_succ_self _), WN_c k (fun j hj => h j (Nat.lt_succ_of_lt hj))]
theorem WN_fin {σ : SG} {j : Nat} {how : Int32} (hh : ¬ how = 0) (hw : σ 23 j = 0) : ∀ n, j < n → WN (up2 σ 23 j how) n + 1 = WN σ n
  | k + 1, hj => by
    rw [WN_s, WN_s]
    by_cases e : j = k
    · subst e
      rw [up2_self, if_neg hh, if_pos hw, WN_c j (fun i hi => up2_ne _ _ (fun q => by omega))]
    · rw [up2_ne _ _ (fun q => e q.2.symm)]
      have ih := WN_fin (how := how) hh hw k (by omega)
      by_cases c : σ 23 k = 0
      · rw [if_pos c, if_pos c, ih]
      · rw [if_neg c, if_neg c, ih]
theorem exT_cost {s : CSt} {n : Nat} : ∀ k, k ≤ n → (exT s k).2 + WN (exT s k).1.1 n = WN s.1 n
  | 0, _ => Nat.zero_add _
  | k + 1, hk => by
    have ih := exT_cost (s := s) (n := n) k (by omega)
    unfold exT
    by_cases c : exP (exT s k).1.1 k
    · rw [if_pos c]
      show (exT s k).2 + 1 + WN (up2 (exT s k).1.1 23 k 2) n = _
      have z := WN_fin (how := 2) (by decide) c.1 n (by omega)
      omega
    · rw [if_neg c]; exact ih
theorem mkT_o {r f : Nat} {m : Int32} {s : CSt} (hf : f ≠ 31) (y : Nat) : (mkT r m s).1 f y = s.1 f y := by
  show up2 s.1 31 r (s.1 31 r ||| m) f y = _
  exact up2_k hf y
theorem faT_o {i j f : Nat} {fd x t : Int32} {s : CSt} (h1 : f ≠ 26) (h2 : f ≠ 27) (y : Nat) : (faT i fd x j t s).1 f y = s.1 f y := by
  show up2 (up2 s.1 27 ((3 * j) + (2 - i)) (s.1 27 ((3 * j) + (2 - i)) + 1)) 26 j (t + (dlA fd (s.1 27 ((3 * j) + (2 - i)) + 1))) f y = _
  rw [up2_k h1, up2_k h2]
theorem att_cost {p : Nat → Int32} {r n : Nat} {s : CSt} (h : ∀ j, frL s.1 (s.1 0 0) (s.2.1 (5 + r)) = some j → j < n ∧ s.1 23 j = 0) : (att p r s).2.1 + WN (att p r s).1.1 n = WN s.1 n := by
  rcases hq : frL s.1 (s.1 0 0) (s.2.1 (5 + r)) with _ | j
  · rw [att_0 hq]; exact Nat.zero_add _
  · have hj := h j hq
    have w1 : (t1T j s).1 23 j = 0 := by
      show up2 s.1 25 j (s.1 25 j + 1) 23 j = 0
      rw [up2_k (by decide)]; exact hj.2
    have e1 : WN (t1T j s).1 n = WN s.1 n := WN_c n (fun i _ => (show up2 s.1 25 j (s.1 25 j + 1) 23 i = s.1 23 i from up2_k (by decide) i))
    by_cases c3 : s.1 28 r = 3
    · rw [att_1 hq c3]
      show 1 + WN (up2 (t1T j s).1 23 j 4) n = _
      have z := WN_fin (how := 4) (by decide) w1 n hj.1
      omega
    · rcases hc : caF s.1 r with _ | i
      · rw [att_2 hq c3 hc]
        show arC (p j) j (s.1 0 0) (t1T j s) + WN (arrT (p j) j (s.1 0 0) (t1T j s)).1 n = _
        have ea : ∀ i, arS (t1T j s) j (s.1 0 0) 23 i = (t1T j s).1 23 i := fun i => by
          unfold arS
          rw [flF_ne _ _ (by decide), up2_k (by decide), up2_k (by decide), up2_k (by decide)]
        unfold arC arrT
        by_cases ca : (arS (t1T j s) j (s.1 0 0)) 24 j < p j
        · rw [if_pos ca, if_pos ca]
          show 0 + WN (arS (t1T j s) j (s.1 0 0)) n = _
          rw [WN_c n (fun i _ => ea i), e1, Nat.zero_add]
        · rw [if_neg ca, if_neg ca]
          show 1 + WN (up2 (arS (t1T j s) j (s.1 0 0)) 23 j 1) n = _
          have z := WN_fin (how := 1) (by decide) (σ := arS (t1T j s) j (s.1 0 0)) (by rw [ea]; exact w1) n hj.1
          rw [WN_c n (fun i _ => ea i)] at z
          omega
      · rw [att_3 hq c3 hc]
        have e9 : ∀ y, (mkT r (fmT i) (faT i (fdT i) (fxT i) j (s.1 0 0) (t1T j s))).1 23 y = (t1T j s).1 23 y := fun y => by
          rw [mkT_o (by decide), faT_o (by decide) (by decide)]
        show 0 + WN (mkT r (fmT i) (faT i (fdT i) (fxT i) j (s.1 0 0) (t1T j s))).1 n = _
        rw [WN_c n (fun y _ => e9 y), e1, Nat.zero_add]
theorem trS_f {σ : SG} {j : Nat} {v : Int32} {f : Nat} (hf : f < 9 ∨ (11 ≤ f ∧ f ≤ 22) ∨ f = 28 ∨ f = 29 ∨ f = 32) (i : Nat) : trS σ j v f i = σ f i := by
  have e0 : tr0 σ j f i = σ f i := tr0_f (by omega) i
  have e1 : tr1 σ j f i = σ f i := by rw [tr1_ar, arF_f (by omega) (by omega) (by omega) (by omega)]; exact e0
  unfold trS
  split
  · rw [enS_o (by omega)]; exact e0
  · split
    · unfold faS
      rw [up2_k (by omega), up2_k (by omega), up2_k (by omega)]; exact e0
    · split
      · rw [enS_o (by omega)]; exact e1
      · exact e1
theorem trS_23 {σ : SG} {j : Nat} {v : Int32} {i : Nat} (h : trS σ j v 23 i = 0) : σ 23 i = 0 := by
  have e0 : tr0 σ j 23 i = σ 23 i := tr0_f (by decide) i
  have e1 : tr1 σ j 23 i = σ 23 i := by rw [tr1_ar, arF_f (by decide) (by decide) (by decide) (by decide)]; exact e0
  have en : ∀ (τ : SG) (how : Int32), ¬ how = 0 → enS τ j v how 23 i = 0 → τ 23 i = 0 := fun τ how hh q => by
    rw [enS_23] at q
    split at q
    · exact absurd q hh
    · exact q
  unfold trS at h
  split at h
  · rw [← e0]; exact en _ 4 (by decide) h
  · split at h
    · unfold faS at h
      rw [up2_k (by decide), up2_k (by decide), up2_k (by decide)] at h
      rw [← e0]; exact h
    · split at h
      · rw [← e1]; exact en _ 1 (by decide) h
      · rw [← e1]; exact h
theorem atF_f {σ : SG} {n f : Nat} (hf : f < 9 ∨ (11 ≤ f ∧ f ≤ 22) ∨ f = 28 ∨ f = 29 ∨ f = 32) (i : Nat) : ∀ r, atF σ n r f i = σ f i
  | 0 => rfl
  | r + 1 => by
    unfold atF
    split
    · exact atF_f hf i r
    · rw [trS_f hf]; exact atF_f hf i r
theorem atF_23 {σ : SG} {n i : Nat} : ∀ r, atF σ n r 23 i = 0 → σ 23 i = 0
  | 0, h => h
  | r + 1, h => by
    unfold atF at h
    split at h
    · exact atF_23 r h
    · exact atF_23 r (trS_23 h)
def Bq (t : Nat) (σ : SG) (r : Nat) : Nat → Nat := fun j => if ix (σ 13 j) < r then t + 1 - ix (σ 16 j) else t - ix (σ 16 j)
theorem RLr.ats {n t : Nat} {σ : SG} {s : CSt} {p : Nat → Int32} {x : Int32} (h : RLr n (t + 1) (Bq t σ 0) σ s) (hn : n ≤ 40) (hp : ∀ j, j < n → p j = nI (ptM σ j)) (hv : ∀ j, j < n → σ 23 j = 0 → t + 1 - ix (σ 16 j) < ix (σ 15 j)) (h16 : ∀ j, j < n → ix (σ 16 j) ≤ t) : ∀ r, r ≤ 6 → RLr n (t + 1) (Bq t σ r) (atF σ n r) (atR p x s r).1 ∧ (atR p x s r).2.2 = atN σ n x r ∧ (∀ q, q < r → ¬ atB (atF σ n q) n q = (-1) → tryOK (atF σ n q) (ix (atB (atF σ n q) n q))) ∧ (atR p x s r).2.1 + WN (atR p x s r).1.1 n = WN s.1 n
  | 0, _ => ⟨h, rfl, fun q hq => absurd hq (Nat.not_lt_zero _), Nat.zero_add _⟩
  | r + 1, hr => by
    obtain ⟨i1, i2, i3, i4⟩ := RLr.ats h hn hp hv h16 r (by omega)
    have z := i1.try1 (p := p) (B2 := Bq t σ (r + 1)) hn (r := r) (by omega) (fun j hj => by rw [hp j hj, ptM_c (fun f hf => atF_f (by omega) j r)]) (fun j => by
      unfold Bq
      split
      · rw [if_pos (by omega)]; exact Nat.le_refl _
      · split <;> omega) (fun j hj hjr => by
      rw [atF_f (by omega)] at hjr
      have := h16 j hj
      unfold Bq
      rw [if_neg (by omega), if_pos (by omega)]
      omega) (fun j hj hw => by
      have z1 := hv j hj (atF_23 r hw)
      rw [atF_f (by omega)]
      unfold Bq
      split <;> omega)
    refine ⟨?_, ?_, fun q hq => ?_, ?_⟩
    · unfold atF atR
      exact z.1
    · unfold atN atR
      show (atR p x s r).2.2 + (att p r (atR p x s r).1).2.2 = _
      rw [i2, z.2.1]
    · rcases Nat.lt_or_ge q r with y | y
      · exact i3 q y
      · have e : q = r := by omega
        subst e
        exact z.2.2
    · unfold atR
      show (atR p x s r).2.1 + (att p r (atR p x s r).1).2.1 + WN (att p r (atR p x s r).1).1.1 n = _
      have c := att_cost (p := p) (r := r) (n := n) (s := (atR p x s r).1) (fun j hj => by
        have m1 := frL_mem hj
        rw [i1.2.1.1.2 r (by omega)] at m1
        have m2 := qf_mem.mp m1
        exact ⟨m2.1, by rw [i1.1 23 (cf (by omega))]; exact m2.2.1⟩)
      omega
/-- between calls -/
def LV (n t : Nat) (σ : SG) (s : CSt) : Prop := RLr n t (fun j => t - ix (σ 16 j)) σ s
theorem LV.tick {n t : Nat} {σ : SG} {s : CSt} {p : Nat → Int32} {x : Int32} (h : LV n t σ s) (hn : n ≤ 40) (ht : t < 1000000) (hp : ∀ j, j < n → p j = nI (ptM σ j)) : LV n (t + 1) (atF (exF (pt1 σ) n) n 6) (atR p x (exT (tkT s) n).1 6).1 ∧ (atR p x (exT (tkT s) n).1 6).2.2 = atN (exF (pt1 σ) n) n x 6 ∧ (∀ k, k ≤ n → RLr n (t + 1) (fun j => t - ix (σ 16 j)) (exF (pt1 σ) k) (exT (tkT s) k).1) ∧ (∀ r, r ≤ 6 → RLr n (t + 1) (Bq t σ r) (atF (exF (pt1 σ) n) n r) (atR p x (exT (tkT s) n).1 r).1) ∧ (∀ q, q < 6 → ¬ atB (atF (exF (pt1 σ) n) n q) n q = (-1) → tryOK (atF (exF (pt1 σ) n) n q) (ix (atB (atF (exF (pt1 σ) n) n q) n q))) ∧ (exT (tkT s) n).2 + (atR p x (exT (tkT s) n).1 6).2.1 + WN (atR p x (exT (tkT s) n).1 6).1.1 n = WN s.1 n := by
  have p0 : ∀ f i, f ≠ 0 → pt1 σ f i = σ f i := fun f i hf => up2_k hf i
  obtain ⟨a, b, c, d, e⟩ := h
  have ht0 : σ 0 0 = nI t := b.2.2.2.1
  have h1 : RLr n (t + 1) (fun j => t - ix (σ 16 j)) (pt1 σ) (tkT s) := by
    refine ⟨?_, ?_, fun j hj => ?_, fun r hr => okR_c (fun f hf => p0 f r (by omega)) (d r hr), fun j hj => okM_c (fun f hf => p0 f j (by omega)) (e j hj)⟩
    · show AG (up2 σ 0 0 (σ 0 0 + 1)) (up2 s.1 0 0 (s.1 0 0 + 1))
      rw [a 0 (cf (by omega))]
      exact a.up 0 0 _
    · obtain ⟨b1, b2, b3, b4, b5⟩ := b
      refine ⟨⟨b1.1, fun r hr => ?_⟩, fun y hy => ?_, fun j hj => ?_, ?_, fun j hj => ?_⟩
      · show s.2.1 (5 + r) = _
        rw [b1.2 r hr]
        exact qf_c (fun j _ => by rw [p0 23 j (by decide), p0 13 j (by decide)])
      · obtain ⟨g1, g2, g3, g4⟩ := b2 y hy
        refine ⟨by rw [p0 9 y (by decide)]; exact g1, g2, fun j hj => ⟨(g3 j hj).1, by rw [p0 23 j (by decide)]; exact (g3 j hj).2⟩, fun k hk => ?_⟩
        rw [p0 10 _ (by decide), p0 23 _ (by decide)]
        exact g4 k hk
      · have q := b3 j hj
        rw [p0 23 j (by decide), p0 24 j (by decide), p0 25 j (by decide)]
        exact ⟨q.1, q.2.1, q.2.2.1, fun y hy => by rw [p0 27 _ (by decide)]; exact q.2.2.2 y hy⟩
      · show up2 σ 0 0 (σ 0 0 + 1) 0 0 = _
        rw [up2_self, ht0, nI_1]
      · have q := b5 j hj
        unfold ITj at *
        rw [p0 16 j (by decide), p0 23 j (by decide), p0 25 j (by decide), p0 15 j (by decide)]
        refine ⟨q.1, by omega, fun z => ?_⟩
        obtain ⟨g1, g2, g3, g4, g5⟩ := q.2.2 z
        exact ⟨g1, g2, g3, g4, fun y hy => by rw [p0 27 _ (by decide)]; exact g5 y hy⟩
    · exact IGj_c (c j hj) (p0 23 j (by decide)) (p0 24 j (by decide)) (ptM_c (fun f hf => p0 f j (by omega))) (p0 15 j (by decide)) (fun _ => rfl) rfl
  have hex := fun k hk => h1.ex hn k hk
  have s16 : ∀ k j, exF (pt1 σ) k 16 j = σ 16 j := fun k j => by rw [exF_f (by decide)]; exact p0 16 j (by decide)
  have s13 : ∀ k j, exF (pt1 σ) k 13 j = σ 13 j := fun k j => by rw [exF_f (by decide)]; exact p0 13 j (by decide)
  have s15 : ∀ k j, exF (pt1 σ) k 15 j = σ 15 j := fun k j => by rw [exF_f (by decide)]; exact p0 15 j (by decide)
  have hle : ∀ j, j < n → ix (σ 16 j) ≤ t := fun j hj => (b.2.2.2.2 j hj).2.1
  have hv : ∀ j, j < n → exF (pt1 σ) n 23 j = 0 → t + 1 - ix (σ 16 j) < ix (σ 15 j) := fun j hj hw => by
    have z := exF_w n j hj hw
    have hs := (b.2.2.2.2 j hj).1
    have hm := (e j hj).2.2.2
    have h0 : pt1 σ 0 0 = nI (t + 1) := by
      show up2 σ 0 0 (σ 0 0 + 1) 0 0 = _
      rw [up2_self, ht0, nI_1]
    have hl := hle j hj
    rw [h0, p0 16 j (by decide), p0 15 j (by decide), hs, hm.1, pk_sub (by omega), nI_ltI (by omega) (by omega)] at z
    exact z
  have hb0 : (fun j => t - ix (σ 16 j)) = Bq t (exF (pt1 σ) n) 0 := by
    funext j
    unfold Bq
    rw [if_neg (Nat.not_lt_zero _), s16]
  have hbr : ∀ r, Bq t (exF (pt1 σ) n) r = Bq t σ r := fun r => by
    funext j
    unfold Bq
    rw [s16, s13]
  have h2 := hex n (Nat.le_refl _)
  have h2' : RLr n (t + 1) (Bq t (exF (pt1 σ) n) 0) (exF (pt1 σ) n) (exT (tkT s) n).1 := by rw [← hb0]; exact h2
  have h3 := fun r hr => h2'.ats (p := p) (x := x) hn (fun j hj => (hp j hj).trans (congrArg nI (ptM_c (σ := σ) (τ := exF (pt1 σ) n) (fun f hf => (exF_f (by omega) j n).trans (p0 f j (by omega)))).symm)) (fun j hj hw => by rw [s16, s15]; exact hv j hj hw) (fun j hj => by rw [s16]; exact hle j hj) r hr
  have h6 := h3 6 (Nat.le_refl _)
  refine ⟨?_, h6.2.1, hex, fun r hr => by rw [← hbr]; exact (h3 r hr).1, h6.2.2.1, ?_⟩
  · refine RLr.mono h6.1 (fun j => ?_) (fun j hj hw => ?_)
    · unfold Bq
      rw [atF_f (by omega)]
      split <;> omega
    · rw [atF_f (by omega), atF_f (by omega), s16, s15]
      exact hv j hj (atF_23 6 hw)
  · have z1 := exT_cost (s := tkT s) (n := n) n (Nat.le_refl _)
    have z2 := h6.2.2.2
    have z3 : WN (tkT s).1 n = WN s.1 n := WN_c n (fun i _ => (show up2 s.1 0 0 (s.1 0 0 + 1) 23 i = s.1 23 i from up2_k (by decide) i))
    omega
theorem psF_f {σ : SG} {n f : Nat} (hf : (1 ≤ f ∧ f < 9) ∨ (11 ≤ f ∧ f ≤ 22) ∨ f = 28 ∨ f = 29 ∨ f = 32) (i : Nat) : ∀ k, psF σ n k f i = σ f i
  | 0 => rfl
  | k + 1 => by
    unfold psF
    rw [atF_f (by omega), exF_f (by omega)]
    show up2 (psF σ n k) 0 0 ((psF σ n k) 0 0 + 1) f i = _
    rw [up2_k (by omega)]
    exact psF_f hf i k
theorem LV.ps {n t : Nat} {σ : SG} {s : CSt} {p : Nat → Int32} (h : LV n t σ s) (hn : n ≤ 40) (hp : ∀ j, j < n → p j = nI (ptM σ j)) : ∀ k, t + k < 1000000 → LV n (t + k) (psF σ n k) (psT p n s k).1 ∧ (psT p n s k).2.2 = psN σ n k ∧ (psT p n s k).2.1 + WN (psT p n s k).1.1 n = WN s.1 n
  | 0, _ => ⟨h, rfl, Nat.zero_add _⟩
  | k + 1, hk => by
    obtain ⟨i1, i2, i3⟩ := LV.ps h hn hp k (by omega)
    have z := i1.tick (p := p) (x := (psT p n s k).2.2) hn (by omega) (fun j hj => (hp j hj).trans (congrArg nI (ptM_c (σ := σ) (τ := psF σ n k) (fun f hf => psF_f (by omega) j k)).symm))
    refine ⟨?_, ?_, ?_⟩
    · unfold psF psT
      exact z.1
    · unfold psN psT
      show (atR p (psT p n s k).2.2 (exT (tkT (psT p n s k).1) n).1 6).2.2 = _
      rw [z.2.1, i2]
    · unfold psT
      show (psT p n s k).2.1 + (exT (tkT (psT p n s k).1) n).2 + (atR p (psT p n s k).2.2 (exT (tkT (psT p n s k).1) n).1 6).2.1 + WN (atR p (psT p n s k).2.2 (exT (tkT (psT p n s k).1) n).1 6).1.1 n = _
      have := z.2.2.2.2.2
      omega

