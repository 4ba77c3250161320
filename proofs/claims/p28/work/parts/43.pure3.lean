/-! the two sides side by side -/
theorem lgA_c {e e2 : Nat → Int32} : ∀ {k : Nat}, (∀ i, i < k → e2 i = e i) → lgA e2 k = lgA e k
  | 0, _ => rfl
  | k + 1, h => by
    unfold lgA
    rw [h k (Nat.lt_succ_self _), lgA_c (fun i hi => h i (Nat.lt_succ_of_lt hi))]
theorem lgT_c {e e2 : Nat → Int32} : ∀ {k : Nat}, (∀ i, i < k → e2 i = e i) → lgT e2 k = lgT e k
  | 0, _ => rfl
  | k + 1, h => by
    unfold lgT
    rw [h k (Nat.lt_succ_self _), lgT_c (fun i hi => h i (Nat.lt_succ_of_lt hi))]
theorem lgA_up {ev : SG} {j k : Nat} {x : Int32} : lgA (up2 ev j k x j) (k + 1) = if x = 1 then lgA (ev j) k + 1 else lgA (ev j) k := by
  have e : lgA (up2 ev j k x j) k = lgA (ev j) k := lgA_c (fun i hi => up2_ne _ _ (fun q => by omega))
  show (if up2 ev j k x j k = 1 then lgA (up2 ev j k x j) k + 1 else lgA (up2 ev j k x j) k) = _
  rw [up2_self, e]
theorem lgT_up {ev : SG} {j k : Nat} {x : Int32} : lgT (up2 ev j k x j) (k + 1) = if x < 10 then lgT (ev j) k else x - 10 := by
  have e : lgT (up2 ev j k x j) k = lgT (ev j) k := lgT_c (fun i hi => up2_ne _ _ (fun q => by omega))
  show (if up2 ev j k x j k < 10 then lgT (up2 ev j k x j) k else up2 ev j k x j k - 10) = _
  rw [up2_self, e]
def RLr (n t : Nat) (B : Nat → Nat) (σ : SG) (s : CSt) : Prop := AG σ s.1 ∧ DY n t B σ s.2.1 s.2.2.2 ∧ (∀ j, j < n → IGj σ s.2.2.1 s.2.2.2 j) ∧ (∀ r, r < 6 → okR σ r) ∧ ∀ j, j < n → okM σ j
theorem cf {f : Nat} (h : f = 0 ∨ (4 ≤ f ∧ f ≤ 8) ∨ (12 ≤ f ∧ f ≤ 16) ∨ (20 ≤ f ∧ f ≤ 31)) : cfd f := h
theorem RLr.it {n t : Nat} {B : Nat → Nat} {σ : SG} {s : CSt} (h : RLr n t B σ s) {j : Nat} (hj : j < n) (hw : σ 23 j = 0) : s.2.2.2 j < elen σ j := by
  have q := ((h.2.1.2.2.2.2 j hj).2.2 hw)
  unfold elen
  have := q.2.1
  have := q.2.2.1
  have := q.2.2.2.1
  omega
theorem elen_AG {σ τ : SG} (h : AG σ τ) (j : Nat) : elen τ j = elen σ j := by unfold elen; rw [h 15 (cf (by omega))]
theorem RLr.dok {n t tq : Nat} {B : Nat → Nat} {σ : SG} {s : CSt} {mt tn : Nat → Nat} (h : RLr n t B σ s) (hn : n ≤ 40) (hmt : ∀ j, j < n → mt j < tq ∧ tn (mt j) ≤ 8) {j : Nat} (hj : j < n) (hw : σ 23 j = 0) : DOK n tq mt tn s j := by
  have hm := h.2.2.2.2 j hj
  have a12 := h.1 12 (cf (by omega)) j
  have a13 := h.1 13 (cf (by omega)) j
  refine ⟨⟨by rw [a12]; exact hm.1.2, by rw [a13]; exact hm.2.1.2, ?_, ?_, ?_⟩, by rw [elen_AG h.1]; exact h.it hj hw, hmt j hj⟩
  · rw [a13, h.2.1.1.2 _ hm.2.1.2]
    exact qf_mem.mpr ⟨hj, hw, rfl⟩
  · rw [elen_AG h.1]
    unfold elen
    have := hm.2.2.2.2.2
    omega
  · rw [a12]
    have := h.2.1.2.1.len hn hm.1.2 hj hw
    omega
theorem RLr.wok {n t tq : Nat} {B : Nat → Nat} {σ : SG} {s : CSt} {mt tn : Nat → Nat} (h : RLr n t B σ s) (hn : n ≤ 40) (hmt : ∀ j, j < n → mt j < tq ∧ tn (mt j) ≤ 8) : WOK n tq mt tn s := by
  refine ⟨fun j hj hw => h.dok hn hmt hj (by rw [← h.1 23 (cf (by omega)) j]; exact hw), fun r hr j hj => ?_⟩
  rw [h.2.1.1.2 r hr] at hj
  have q := qf_mem.mp hj
  exact ⟨q.1, by rw [h.1 23 (cf (by omega))]; exact q.2.1⟩
theorem IGj_c {σ τ ev ev2 : SG} {zl zl2 : Nat → Nat} {j : Nat} (h : IGj σ ev zl j) (h23 : τ 23 j = σ 23 j) (h24 : τ 24 j = σ 24 j) (hp : ptM τ j = ptM σ j) (h15 : τ 15 j = σ 15 j) (he : ∀ k, ev2 j k = ev j k) (hz : zl2 j = zl j) : IGj τ ev2 zl2 j := by
  have e : ev2 j = ev j := funext he
  unfold IGj elen at *
  rw [h23, h24, hp, h15, e, hz]
  exact h
/-- an end that the log tells -/
theorem RLr.fin {n t : Nat} {B : Nat → Nat} {σ : SG} {s : CSt} (h : RLr n t B σ s) (hn : n ≤ 40) {j : Nat} (hj : j < n) (hw : σ 23 j = 0) {how : Int32} (hh : how = 2 ∨ how = 3 ∨ how = 4) : RLr n t B (enS σ j (nI j) how) (finT j how s) := by
  have h0 : ¬ how = 0 := by rcases hh with rfl | rfl | rfl <;> decide
  have h1 : ¬ how = 1 := by rcases hh with rfl | rfl | rfl <;> decide
  have hm := h.2.2.2.2 j hj
  have hz := h.it hj hw
  refine ⟨enS_AG h.1 j (nI j) how, ?_, fun i hi => ?_, fun r hr => okR_c (fun f hf => enS_o (by omega) r) (h.2.2.2.1 r hr), fun i hi => okM_c (fun f hf => enS_o (by omega) i) (h.2.2.2.2 i hi)⟩
  · show DY n t B (enS σ j (nI j) how) (fiL s.1 s.2.1 j) (fiZ s.2.2.2 j how)
    rw [fiL_AG h.1]
    exact h.2.1.fin hn hm hj hw h0 (fun i hi => by unfold fiZ; rw [if_neg h1, va_up_ne _ _ hi])
  · have q := h.2.2.1 i hi
    show IGj (enS σ j (nI j) how) (fiE s.2.2.1 s.2.2.2 j how) (fiZ s.2.2.2 j how) i
    by_cases e : i = j
    · subst e
      have p0 : ptM (enS σ i (nI i) how) i = ptM σ i := ptM_c (fun f hf => enS_o (by omega) i)
      unfold IGj elen
      rw [p0, enS_23, if_pos rfl, enS_o (by decide), enS_o (by decide)]
      unfold fiE fiZ
      rw [if_neg h1, if_neg h1, va_up_self, lgA_up, lgT_up]
      have z1 : ¬ (10 + how) = 1 := by rcases hh with rfl | rfl | rfl <;> decide
      have z2 : ¬ (10 + how) < 10 := by rcases hh with rfl | rfl | rfl <;> decide
      have z3 : (10 + how) - 10 = how := by rcases hh with rfl | rfl | rfl <;> decide
      rw [if_neg z1, if_neg z2, z3, if_neg h1]
      obtain ⟨d, hd1, hd2, hd3⟩ := q.2.2.1
      refine ⟨q.1, rfl, ⟨d, hd1, hd2, fun z => absurd z h1, fun z => ?_⟩, ?_⟩
      · have := hd3.mpr z
        rw [hw] at this
        exact absurd this (by decide)
      · exact hz
    · refine IGj_c q (by rw [enS_23, if_neg e]) (enS_o (by decide) i) (ptM_c (fun f hf => enS_o (by omega) i)) (enS_o (by decide) i) (fun k => ?_) ?_
      · unfold fiE
        rw [if_neg h1, up2_ne _ _ (fun z => e z.1)]
      · unfold fiZ
        rw [if_neg h1, va_up_ne _ _ e]
/-- expiry -/
theorem RLr.ex {n t : Nat} {B : Nat → Nat} {σ : SG} {s : CSt} (h : RLr n t B σ s) (hn : n ≤ 40) : ∀ k, k ≤ n → RLr n t B (exF σ k) (exT s k).1
  | 0, _ => h
  | k + 1, hk => by
    have ih := RLr.ex h hn k (by omega)
    have ec : exP (exT s k).1.1 k ↔ exP (exF σ k) k := by
      unfold exP
      rw [ih.1 23 (cf (by omega)), ih.1 0 (cf (by omega)), ih.1 16 (cf (by omega)), ih.1 15 (cf (by omega))]
    unfold exF exT
    by_cases c : exP (exF σ k) k
    · rw [if_pos c, if_pos (ec.mpr c)]
      exact ih.fin hn (by omega) c.1 (.inl rfl)
    · rw [if_neg c, if_neg (fun q => c (ec.mp q))]
      exact ih
theorem exF_f {σ : SG} {f : Nat} (hf : f ≠ 23 ∧ f ≠ 10 ∧ f ≠ 9) (i : Nat) : ∀ k, exF σ k f i = σ f i
  | 0 => rfl
  | k + 1 => by
    unfold exF
    split
    · rw [enS_o hf]; exact exF_f hf i k
    · exact exF_f hf i k
theorem exF_w {σ : SG} : ∀ k j, j < k → exF σ k 23 j = 0 → (σ 0 0) - (σ 16 j) < (σ 15 j)
  | k + 1, j, hj, hw => by
    by_cases c : exP (exF σ k) k
    · have e : exF σ (k + 1) = enS (exF σ k) k (nI k) 2 := if_pos c
      rw [e, enS_23] at hw
      by_cases z : j = k
      · rw [if_pos z] at hw; exact absurd hw (by decide)
      · rw [if_neg z] at hw
        exact exF_w k j (by omega) hw
    · have e : exF σ (k + 1) = exF σ k := if_neg c
      rw [e] at hw
      by_cases z : j = k
      · subst z
        have c2 : ¬ ¬ ((exF σ j 0 0) - (exF σ j 16 j)) < (exF σ j 15 j) := fun q => c ⟨hw, q⟩
        rw [exF_f (by decide), exF_f (by decide), exF_f (by decide)] at c2
        exact Classical.not_not.mp c2
      · exact exF_w k j (by omega) hw

