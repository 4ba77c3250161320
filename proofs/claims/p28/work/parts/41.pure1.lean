/-! what ties the two: σ is the reference's state; the class's numbers agree with it on the class's fields -/
def cfd (f : Nat) : Prop := f = 0 ∨ (4 ≤ f ∧ f ≤ 8) ∨ (12 ≤ f ∧ f ≤ 16) ∨ (20 ≤ f ∧ f ≤ 31)
def AG (σ τ : SG) : Prop := ∀ f, cfd f → ∀ i, τ f i = σ f i
theorem AG.id (σ : SG) : AG σ σ := fun _ _ _ => rfl
theorem AG.up {σ τ : SG} (h : AG σ τ) (f i : Nat) (v : Int32) : AG (up2 σ f i v) (up2 τ f i v) := by
  intro g hg b
  by_cases e : g = f ∧ b = i
  · rw [e.1, e.2, up2_self, up2_self]
  · rw [up2_ne _ _ e, up2_ne _ _ e]; exact h g hg b
theorem AG.upl {σ τ : SG} (h : AG σ τ) {f : Nat} (hf : ¬ cfd f) (i : Nat) (v : Int32) : AG (up2 σ f i v) τ := by
  intro g hg b
  rw [up2_ne _ _ (show ¬ (g = f ∧ b = i) from fun e => hf (by rw [← e.1]; exact hg))]; exact h g hg b
theorem AG.upr {σ τ : SG} (h : AG σ τ) {f : Nat} (hf : ¬ cfd f) (i : Nat) (v : Int32) : AG σ (up2 τ f i v) := by
  intro g hg b
  rw [up2_ne _ _ (show ¬ (g = f ∧ b = i) from fun e => hf (by rw [← e.1]; exact hg))]; exact h g hg b
theorem AG_cw {D : va_G} {ad : Nat → Nat → Nat} {cs : Nat → ClassId} {σ τ : SG} {Lx : Nat → List Nat} {cap : Nat → Nat} {mk : Nat → Int32} {ev : SG} {zl tx mt tn : Nat → Nat} {tc : SG} {w0 : CF} (h : AG σ τ) : cw D ad cs τ Lx cap mk ev zl tx mt tn tc w0 = cw D ad cs σ Lx cap mk ev zl tx mt tn tc w0 := by
  have q : ∀ f, cfd f → ∀ i, τ f i = σ f i := h
  have e0 : cO ad τ = cO ad σ := by unfold cO; rw [q 0 (by unfold cfd; omega)]
  have e1 : ∀ b, cA ad τ tx b = cA ad σ tx b := fun b => by unfold cA; rw [q 4 (by unfold cfd; omega), q 5 (by unfold cfd; omega), q 6 (by unfold cfd; omega), q 7 (by unfold cfd; omega), q 8 (by unfold cfd; omega)]
  have e2 : ∀ b, cR ad τ b = cR ad σ b := fun b => by unfold cR; rw [q 28 (by unfold cfd; omega), q 29 (by unfold cfd; omega), q 30 (by unfold cfd; omega), q 31 (by unfold cfd; omega)]
  have e3 : ∀ b, cM ad τ mt b = cM ad σ mt b := fun b => by unfold cM; rw [q 12 (by unfold cfd; omega), q 13 (by unfold cfd; omega), q 20 (by unfold cfd; omega), q 21 (by unfold cfd; omega), q 22 (by unfold cfd; omega), q 14 (by unfold cfd; omega), q 15 (by unfold cfd; omega), q 16 (by unfold cfd; omega), q 23 (by unfold cfd; omega), q 26 (by unfold cfd; omega), q 25 (by unfold cfd; omega), q 24 (by unfold cfd; omega)]
  have e4 : ∀ b, cF τ b = cF σ b := fun b => by funext x; unfold cF; rw [q 27 (by unfold cfd; omega)]
  have e5 : ∀ b, elen τ b = elen σ b := fun b => by unfold elen; rw [q 15 (by unfold cfd; omega)]
  have e6 : ∀ b, cV τ ev b = cV σ ev b := fun b => by funext x; unfold cV; rw [e5]
  funext k i
  unfold cw
  rw [e0, e1, e2, e3, e4, e5, e6]
theorem nodup_le : ∀ {n : Nat} {xs : List Nat}, xs.Nodup → (∀ x ∈ xs, x < n) → xs.length ≤ n
  | 0, xs, _, h => by
    cases xs with
    | nil => exact Nat.le_refl _
    | cons x xs => exact absurd (h x (List.mem_cons_self ..)) (Nat.not_lt_zero _)
  | n + 1, xs, hd, h => by
    have h1 : (xs.filter (fun x => decide (x ≠ n))).length ≤ n := nodup_le (List.Pairwise.filter _ hd) (fun x hx => by
      have h2 := List.mem_filter.mp hx
      have h3 := h x h2.1
      have h4 : x ≠ n := of_decide_eq_true h2.2
      omega)
    by_cases hm : n ∈ xs
    · have h5 := psn_lt hm
      rw [← psn_rm hd, List.length_eraseIdx, if_pos h5] at h1
      omega
    · rw [List.filter_eq_self.mpr (fun x hx => decide_eq_true (show x ≠ n from fun e => hm (by rw [← e]; exact hx)))] at h1
      omega
theorem nodup_lt {n j : Nat} {xs : List Nat} (hd : xs.Nodup) (h : ∀ x ∈ xs, x < n ∧ x ≠ j) (hj : j < n) : xs.length + 1 ≤ n :=
  nodup_le (xs := j :: xs) (List.nodup_cons.mpr ⟨fun q => (h j q).2 rfl, hd⟩) (fun x hx => by
    rcases List.mem_cons.mp hx with q | q
    · rw [q]; exact hj
    · exact (h x q).1)
/-- which messages wait for a recipient -/
def qf (σ : SG) (n r : Nat) : List Nat := (List.range n).filter (fun j => decide (σ 23 j = 0 ∧ ix (σ 13 j) = r))
theorem qf_mem {σ : SG} {n r j : Nat} : j ∈ qf σ n r ↔ j < n ∧ σ 23 j = 0 ∧ ix (σ 13 j) = r := by
  unfold qf
  rw [List.mem_filter, List.mem_range, decide_eq_true_iff]
theorem qf_nd (σ : SG) (n r : Nat) : (qf σ n r).Nodup := List.Pairwise.filter _ List.nodup_range
theorem qf_s (σ : SG) (n r : Nat) : qf σ (n + 1) r = qf σ n r ++ (if σ 23 n = 0 ∧ ix (σ 13 n) = r then [n] else []) := by
  unfold qf
  rw [List.range_succ, List.filter_append]
  congr 1
  by_cases h : σ 23 n = 0 ∧ ix (σ 13 n) = r
  · rw [if_pos h, List.filter_cons, if_pos (show decide (σ 23 n = 0 ∧ ix (σ 13 n) = r) = true from decide_eq_true h)]; rfl
  · rw [if_neg h, List.filter_cons, if_neg (show ¬ decide (σ 23 n = 0 ∧ ix (σ 13 n) = r) = true from fun q => h (of_decide_eq_true q))]; rfl
theorem qf_c {σ τ : SG} {n r : Nat} (h : ∀ j, j < n → (σ 23 j = 0 ∧ ix (σ 13 j) = r ↔ τ 23 j = 0 ∧ ix (τ 13 j) = r)) : qf σ n r = qf τ n r := by
  unfold qf
  refine List.filter_congr (fun j hj => ?_)
  rw [decide_eq_decide]
  exact h j (List.mem_range.mp hj)
theorem qf_rm {σ τ : SG} {n r j : Nat} (hj : ¬ τ 23 j = 0) (h : ∀ i, i ≠ j → τ 23 i = σ 23 i) (h3 : ∀ i, τ 13 i = σ 13 i) : (qf σ n r).eraseIdx (psn (qf σ n r) j) = qf τ n r := by
  rw [psn_rm (qf_nd σ n r)]
  unfold qf
  rw [List.filter_filter]
  refine List.filter_congr (fun i hi => ?_)
  by_cases e : i = j
  · subst e
    simp [hj]
  · simp [e, h i e, h3 i]
theorem qf_len (σ : SG) (n r : Nat) : (qf σ n r).length ≤ n := nodup_le (qf_nd σ n r) (fun x hx => (qf_mem.mp hx).1)
/-! invariants -/
def okM (σ : SG) (j : Nat) : Prop := (σ 12 j = nI (ix (σ 12 j)) ∧ ix (σ 12 j) < 4) ∧ roOK σ j ∧ txOK σ j ∧ (σ 15 j = nI (ix (σ 15 j)) ∧ 1 ≤ ix (σ 15 j) ∧ ix (σ 15 j) ≤ 500)
def okR (σ : SG) (r : Nat) : Prop := moOK σ r ∧ (∃ m, m < 4 ∧ σ 31 r = nI m) ∧ ∃ k m, k ≤ 50 ∧ m ≤ 50 ∧ σ 29 r = nI k ∧ σ 30 r = nI m
theorem okR_c {σ τ : SG} {r : Nat} (h : ∀ f, f = 28 ∨ f = 29 ∨ f = 30 ∨ f = 31 → τ f r = σ f r) (hr : okR σ r) : okR τ r := by
  unfold okR moOK at *
  rw [h 28 (by omega), h 29 (by omega), h 30 (by omega), h 31 (by omega)]
  exact hr
def okA (σ : SG) (i : Nat) : Prop := σ 3 i = bi (σ 3 i = 1) ∧ σ 6 i = bi (σ 6 i = 1) ∧ (σ 1 i = nI (ix (σ 1 i)) ∧ 0 < ix (σ 1 i) ∧ ix (σ 1 i) ≤ 500) ∧ (σ 2 i = nI (ix (σ 2 i)) ∧ ix (σ 2 i) ≤ 50)
def IQ (n : Nat) (σ : SG) (Lx : Nat → List Nat) : Prop := Lx 0 = List.range n ∧ ∀ r, r < 6 → Lx (5 + r) = qf σ n r
def ICa (n : Nat) (σ : SG) (a : Nat) (xs : List Nat) : Prop := σ 9 a = nI xs.length ∧ xs.Nodup ∧ (∀ j ∈ xs, j < n ∧ ¬ σ 23 j = 0) ∧ ∀ k, k < xs.length → σ 10 ((40 * a) + k) = (10 * nI (xs.getD k 0)) + σ 23 (xs.getD k 0)
def IC (n : Nat) (σ : SG) (Lx : Nat → List Nat) : Prop := ∀ a, a < 4 → ICa n σ a (Lx (1 + a))
def IGj (σ ev : SG) (zl : Nat → Nat) (j : Nat) : Prop := lgA (ev j) (zl j) = σ 24 j ∧ lgT (ev j) (zl j) = (if σ 23 j = 1 then 0 else σ 23 j) ∧ (∃ d, σ 24 j = nI d ∧ d ≤ ptM σ j ∧ (σ 23 j = 1 ↔ d = ptM σ j)) ∧ zl j ≤ elen σ j
def ITj (t : Nat) (B : Nat → Nat) (σ : SG) (zl : Nat → Nat) (j : Nat) : Prop := σ 16 j = nI (ix (σ 16 j)) ∧ ix (σ 16 j) ≤ t ∧ (σ 23 j = 0 → σ 25 j = nI (ix (σ 25 j)) ∧ ix (σ 25 j) ≤ B j ∧ B j < ix (σ 15 j) ∧ zl j ≤ 1 + ix (σ 25 j) ∧ ∀ x, x < 3 → ∃ q, q ≤ zl j ∧ σ 27 ((3 * j) + x) = nI q)
def IFz (n : Nat) (σ : SG) : Prop := ∀ j, n ≤ j → σ 23 j = 0 ∧ σ 24 j = 0 ∧ σ 25 j = 0 ∧ ∀ x, x < 3 → σ 27 ((3 * j) + x) = 0
/-- what changes with messages' fates -/
def DY (n t : Nat) (B : Nat → Nat) (σ : SG) (Lx : Nat → List Nat) (zl : Nat → Nat) : Prop := IQ n σ Lx ∧ IC n σ Lx ∧ IFz n σ ∧ (σ 0 0 = nI t) ∧ ∀ j, j < n → ITj t B σ zl j
theorem IC.len {n : Nat} {σ : SG} {Lx : Nat → List Nat} (h : IC n σ Lx) (hn : n ≤ 40) {a j : Nat} (ha : a < 4) (hj : j < n) (hw : σ 23 j = 0) : (Lx (1 + a)).length + 1 ≤ 40 :=
  Nat.le_trans (nodup_lt (h a ha).2.1 (fun x hx => ⟨((h a ha).2.2.1 x hx).1, fun e => ((h a ha).2.2.1 x hx).2 (by rw [e]; exact hw)⟩) hj) hn
theorem IC.len0 {n : Nat} {σ : SG} {Lx : Nat → List Nat} (h : IC n σ Lx) {a : Nat} (ha : a < 4) : (Lx (1 + a)).length ≤ n := nodup_le (h a ha).2.1 (fun x hx => ((h a ha).2.2.1 x hx).1)
theorem IC.en {n : Nat} {σ : SG} {Lx : Nat → List Nat} (h : IC n σ Lx) (hn : n ≤ 40) {j : Nat} (hm : okM σ j) (hj : j < n) (hw : σ 23 j = 0) : enOK σ j ∧ rcN σ j = (Lx (1 + ix (σ 12 j))).length := by
  have h1 := h (ix (σ 12 j)) hm.1.2
  have h2 := h.len hn hm.1.2 hj hw
  have e : rcN σ j = (Lx (1 + ix (σ 12 j))).length := by
    unfold rcN rcA
    rw [h1.1, ix_nI (by omega)]
  refine ⟨⟨hm.1.1, hm.1.2, ?_, by rw [e]; omega⟩, e⟩
  rw [e]
  exact h1.1

