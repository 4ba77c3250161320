/-! what ties the law's rows to the class: messages, recipients, accounts; LT: the law's record is up to date -/
def LM (σ la : SG) (j : Nat) : Prop := la 1 j = σ 12 j ∧ la 1 (24 + j) = σ 13 j ∧ la 2 j = σ 17 j ∧ la 4 j = σ 22 j
def LR (rd : Nat → Nat) (σ la : SG) (r : Nat) : Prop := la 5 r = σ 28 r ∧ la 5 (6 + r) = σ 29 r ∧ la 5 (12 + r) = nI (rd r)
def LA (n : Nat) (kt : Nat → Nat) (σ la : SG) (a : Nat) : Prop := la 6 a = σ 1 a ∧ la 6 (4 + a) = σ 7 a ∧ la 6 (8 + a) = σ 6 a ∧ (∃ q, q ≤ 40 ∧ σ 7 a = nI q) ∧ ∃ x, la 6 (12 + a) = nI x ∧ x + kt a = cnte σ (la 3) a n
def LJ (n t : Nat) (σ la : SG) (Lx : Nat → List Nat) (kt rd : Nat → Nat) : Prop := n ≤ 23 ∧ la 7 0 = nI n ∧ la 7 1 = nI t ∧ (∀ j, j < n → LM σ la j) ∧ (∀ r, r < 6 → LR rd σ la r) ∧ (∀ a, a < 4 → LA n kt σ la a) ∧ XV n t (la 3) kt rd σ Lx
def LT (n : Nat) (σ la : SG) : Prop := ∀ j, j < n → la 3 j = σ 23 j ∧ la 3 (24 + j) = σ 24 j
theorem cnte_le (σ : SG) (T : Nat → Int32) (a : Nat) : ∀ n, cnte σ T a n ≤ n
  | 0 => Nat.le_refl _
  | n + 1 => by
    have h := cnte_le σ T a n
    unfold cnte
    split <;> omega
section LJS
variable {n tq t : Nat} {σ la : SG} {Lx : Nat → List Nat} {ev : SG} {zl tx mt tn : Nat → Nat} {tc : SG} {kt rd : Nat → Nat}
theorem LJ.body (h : LJ n t σ la Lx kt rd) (hI : INV n tq t σ Lx ev zl tx mt tn tc) {k : Nat} (hk : k < n) : ∃ e d0 d q u a : Nat, (e < 5 ∧ a < 4 ∧ d0 ≤ d ∧ d ≤ q ∧ q ≤ 500 ∧ u ≤ t + 80 ∧ (e = 4 → d < q) ∧ d ≤ tn (mt k) ∧ (e = 1 ↔ d = tn (mt k)) ∧ tn (mt k) ≤ 8) ∧ (σ 23 k = nI e ∧ σ 24 k = nI d ∧ σ 25 k = nI q ∧ σ 26 k = nI u ∧ la 3 (24 + k) = nI d0 ∧ la 1 k = nI a ∧ σ 12 k = nI a) ∧ (la 3 k = 0 ∨ la 3 k = nI e) ∧ (σ 22 k = 0 ∨ σ 22 k = 1) := by
  obtain ⟨⟨e, he, e23⟩, e22, eT, d0, d, q, u, g1, g2, g3, g4, g5, g6, g7, g8, g9⟩ := h.2.2.2.2.2.2.1 k hk
  obtain ⟨-, -, ⟨d', f1, f2, f3⟩, -⟩ := hI.2.2.1.2.2.1 k hk
  obtain ⟨-, hT2, -⟩ := hI.2.2.2.2 k hk
  have h8 := (hI.hmt k hk).2
  have hm := (hI.2.2.1.2.2.2.2 k hk).1
  have ed : d' = d := (nI_eq (by omega) (by omega)).mp (f1.symm.trans g2)
  rw [← hT2] at f2 f3
  refine ⟨e, d0, d, q, u, ix (σ 12 k), ⟨he, hm.2, g5, g6, g7, g8, fun z => g9 (by rw [e23, z]; rfl), by omega, ?_, h8⟩, ⟨e23, g2, g3, g4, g1, ?_, hm.1⟩, ?_, e22⟩
  · rw [← ed, ← f3, e23]
    exact ⟨fun z => by rw [z]; rfl, fun z => (nI_eqE (show nI e = nI e from rfl) (show (1 : Int32) = nI 1 by decide) (by omega) (by decide)).mp z⟩
  · rw [(h.2.2.2.1 k hk).1]
    exact hm.1
  · rcases eT with z | z
    · exact .inl z
    · exact .inr (z.symm.trans e23)
theorem pts_0 (wd : Prop) [Decidable wd] (ev : Nat) : pts wd ev 0 = 0 := by
  rcases Nat.eq_zero_or_pos (pts wd ev 0) with h | h
  · exact h
  · have h1 := (pts_spec wd ev 0 (by decide)).2.2 0 h
    have h2 := lof_le wd ev 0 0
    omega
theorem lsum_lof0 (wd : Prop) [Decidable wd] (ev al : Nat) (hal : al ≤ 500) : lsum (lof wd ev al) (pts wd ev al) = al := by
  rcases Nat.eq_zero_or_pos al with h | h
  · subst h
    rw [pts_0]
    rfl
  · exact lsum_lof wd ev al hal h
theorem lsum_mono (f : Nat → Nat) {a b : Nat} (h : a ≤ b) : lsum f a ≤ lsum f b := by
  obtain ⟨d, rfl⟩ := Nat.le.dest h
  induction d with
  | zero => exact Nat.le_refl _
  | succ d ih => exact Nat.le_trans (ih (Nat.le_add_right _ _)) (Nat.le_add_right _ _)
theorem LJ.text (h : LJ n t σ la Lx kt rd) (hI : INV n tq t σ Lx ev zl tx mt tn tc) {k : Nat} (hk : k < n) : ∃ al, al ≤ 500 ∧ la 2 k = nI al ∧ (∀ x, x < tn (mt k) → tc (mt k) x = nI (loM σ k x) ∧ 0 < loM σ k x ∧ loM σ k x ≤ 500) ∧ lsum (loM σ k) (tn (mt k)) = al ∧ ∀ x, x ≤ tn (mt k) → lsum (loM σ k) x ≤ 500 := by
  obtain ⟨-, hT2, hT3⟩ := hI.2.2.2.2 k hk
  obtain ⟨h1, h2, -, -, -⟩ := (hI.2.2.1.2.2.2.2 k hk).2.2.1
  have hs : lsum (loM σ k) (tn (mt k)) = ix (σ 17 k) := by
    rw [hT2]
    exact lsum_lof0 _ _ _ h2
  refine ⟨ix (σ 17 k), h2, by rw [(h.2.2.2.1 k hk).2.2.1]; exact h1, fun x hx => ⟨hT3 x hx, ?_, ?_⟩, hs, fun x hx => ?_⟩
  · rw [hT2] at hx
    exact (pts_spec _ _ _ h2).2.2 x hx
  · exact Nat.le_trans (lof_le _ _ _ _) h2
  · have := lsum_mono (loM σ k) hx
    omega
theorem XV.T {T U : Nat → Int32} (h : XV n t T kt rd σ Lx) (hU : ∀ j, j < n → (U j = 0 ∨ σ 23 j = U j) ∧ ∃ d0 d, U (24 + j) = nI d0 ∧ σ 24 j = nI d ∧ d0 ≤ d ∧ d ≤ 500) : XV n t U kt rd σ Lx := by
  refine ⟨fun j hj => ?_, h.2.1, h.2.2⟩
  obtain ⟨h1, h2, -, d0, d, q, u, g1, g2, g3, g4, g5, g6, g7, g8, g9⟩ := h.1 j hj
  obtain ⟨k1, d0', d', k2, k3, k4, k5⟩ := hU j hj
  have ed : d' = d := (nI_eq (by omega) (by omega)).mp (k3.symm.trans g2)
  exact ⟨h1, h2, k1, d0', d, q, u, k2, g2, g3, g4, by omega, g6, g7, g8, g9⟩
/-- one message's round in areMessages -/
theorem LJ.set (h : LJ n t σ la Lx kt rd) {k a e d : Nat} {v : Int32} (hk : k < n) (hp : ∀ j, j < k → la 3 j = σ 23 j ∧ la 3 (24 + j) = σ 24 j) (ha : a < 4) (h12 : σ 12 k = nI a) (h23 : σ 23 k = nI e) (he : e < 5) (h24 : σ 24 k = nI d) (hd : d ≤ 500) (hv1 : la 3 k = 0 → ¬ e = 0 → v = la 6 (12 + a) + la 4 k) (hv2 : (¬ la 3 k = 0 ∨ e = 0) → v = la 6 (12 + a)) : LJ n t σ (up2 (up2 (up2 la 6 (12 + a) v) 3 k (nI e)) 3 (24 + k) (nI d)) Lx kt rd ∧ ∀ j, j < k + 1 → (up2 (up2 (up2 la 6 (12 + a) v) 3 k (nI e)) 3 (24 + k) (nI d)) 3 j = σ 23 j ∧ (up2 (up2 (up2 la 6 (12 + a) v) 3 k (nI e)) 3 (24 + k) (nI d)) 3 (24 + j) = σ 24 j := by
  obtain ⟨h1, h2, h3, h4, h5, h6, h7⟩ := h
  generalize hL : up2 (up2 (up2 la 6 (12 + a) v) 3 k (nI e)) 3 (24 + k) (nI d) = lb
  have k0 : ∀ f, f ≠ 3 → f ≠ 6 → ∀ i, lb f i = la f i := fun f q1 q2 i => by rw [← hL, up2_k q1, up2_k q1, up2_k q2]
  have k6 : ∀ i, i ≠ 12 + a → lb 6 i = la 6 i := fun i q => by rw [← hL, up2_k (by decide), up2_k (by decide), up2_ne _ _ (fun z => q z.2)]
  have k6a : lb 6 (12 + a) = v := by rw [← hL, up2_k (by decide), up2_k (by decide), up2_self]
  have k3k : lb 3 k = nI e := by rw [← hL, up2_ne _ _ (fun z => absurd z.2 (by omega)), up2_self]
  have k3d : lb 3 (24 + k) = nI d := by rw [← hL, up2_self]
  have k3 : ∀ i, i ≠ k → i ≠ 24 + k → lb 3 i = la 3 i := fun i q1 q2 => by rw [← hL, up2_ne _ _ (fun z => q2 z.2), up2_ne _ _ (fun z => q1 z.2), up2_k (by decide)]
  refine ⟨⟨h1, by rw [k0 7 (by decide) (by decide)]; exact h2, by rw [k0 7 (by decide) (by decide)]; exact h3, fun j hj => ?_, fun r hr => ?_, fun y hy => ?_, h7.T (fun j hj => ?_)⟩, fun j hj => ?_⟩
  · have q := h4 j hj
    unfold LM at q ⊢
    rw [k0 1 (by decide) (by decide), k0 1 (by decide) (by decide), k0 2 (by decide) (by decide), k0 4 (by decide) (by decide)]
    exact q
  · have q := h5 r hr
    unfold LR at q ⊢
    rw [k0 5 (by decide) (by decide), k0 5 (by decide) (by decide), k0 5 (by decide) (by decide)]
    exact q
  · obtain ⟨a1, a2, a3, a4, x, a5, a6⟩ := h6 y hy
    refine ⟨by rw [k6 _ (by omega)]; exact a1, by rw [k6 _ (by omega)]; exact a2, by rw [k6 _ (by omega)]; exact a3, a4, ?_⟩
    have hx40 : x ≤ n := by have := cnte_le σ (la 3) y n; omega
    by_cases c : la 3 k = 0 ∧ ¬ e = 0
    · have hu := cnte_1 (σ := σ) (τ := σ) (T := la 3) (U := lb 3) (a := y) hk (fun _ _ => ⟨rfl, rfl⟩) (fun i hi q => k3 i q (by omega)) c.1 (by rw [k3k]; exact fun q => c.2 ((nI_eqE (show nI e = nI e from rfl) (show (0 : Int32) = nI 0 by decide) (by omega) (by decide)).mp q))
      have hv := hv1 c.1 c.2
      rw [h12, ix_nI (by omega)] at hu
      by_cases g : y = a
      · subst g
        rw [k6a, hv, a5, (h4 k hk).2.2.2]
        rcases (h7.1 k hk).2.1 with w0 | w1
        · rw [w0] at hu ⊢
          refine ⟨x, Int32.add_zero _, ?_⟩
          rw [if_neg (fun q => q.1 rfl)] at hu
          omega
        · rw [w1] at hu ⊢
          refine ⟨x + 1, nI_1 _, ?_⟩
          rw [if_pos ⟨by decide, rfl⟩] at hu
          omega
      · rw [if_neg (fun q => g q.2)] at hu
        exact ⟨x, by rw [k6 _ (by omega)]; exact a5, by omega⟩
    · have hv := hv2 (by
        rcases Classical.em (la 3 k = 0) with q | q
        · exact .inr (Classical.not_not.mp (fun z => c ⟨q, z⟩))
        · exact .inl q)
      have eT : lb 3 k = la 3 k := by
        rw [k3k]
        rcases (h7.1 k hk).2.2.1 with q | q
        · have e0 : e = 0 := Classical.not_not.mp (fun z => c ⟨q, z⟩)
          rw [q, e0]; rfl
        · rw [← q, h23]
      have hu : cnte σ (lb 3) y n = cnte σ (la 3) y n := cnte_c (fun i hi => ⟨rfl, rfl, by
        by_cases q : i = k
        · rw [q]; exact eT
        · exact k3 i q (by omega)⟩)
      rw [hu]
      by_cases g : y = a
      · subst g
        exact ⟨x, by rw [k6a, hv]; exact a5, a6⟩
      · exact ⟨x, by rw [k6 _ (by omega)]; exact a5, a6⟩
  · by_cases q : j = k
    · subst q
      exact ⟨.inr (by rw [h23, k3k]), d, d, k3d, h24, Nat.le_refl _, hd⟩
    · obtain ⟨-, -, g3, d0, d', q', u', g4, g5, g6, g7, g8, g9, g10, -⟩ := h7.1 j hj
      rw [k3 j q (by omega), k3 (24 + j) (by omega) (by omega)]
      exact ⟨g3, d0, d', g4, g5, g8, by omega⟩
  · by_cases q : j = k
    · subst q
      exact ⟨k3k.trans h23.symm, k3d.trans h24.symm⟩
    · rw [k3 j q (by omega), k3 (24 + j) (by omega) (by omega)]
      exact hp j (by omega)
/-- receipts that are due, once the record is up to date -/
theorem LJ.rec (h : LJ n t σ la Lx kt rd) (hT : LT n σ la) {a : Nat} (ha : a < 4) : la 6 (12 + a) = nI (Lx (1 + a)).length ∧ (Lx (1 + a)).length ≤ n := by
  obtain ⟨-, -, -, -, x, a5, a6⟩ := h.2.2.2.2.2.1 a ha
  have g := (h.2.2.2.2.2.2.2.2 a ha).1
  have hu : cnte σ (la 3) a n = cnte σ (σ 23) a n := cnte_c (fun i hi => ⟨rfl, rfl, (hT i hi).1⟩)
  have hl := cnte_le σ (σ 23) a n
  have e : x = (Lx (1 + a)).length := by omega
  exact ⟨by rw [a5, e], by omega⟩
theorem frT_some {τ : SG} {t : Int32} {j k : Nat} : ∃ i, frT τ t (some j) k = some i := by
  unfold frT
  split
  · exact ⟨_, rfl⟩
  · dsimp only
    split <;> exact ⟨_, rfl⟩
theorem frL_some {τ : SG} {t : Int32} : ∀ (xs : List Nat) (j : Nat), ∃ i, xs.foldl (frT τ t) (some j) = some i
  | [], j => ⟨j, rfl⟩
  | x :: xs, j => by
    obtain ⟨i, hi⟩ := frT_some (τ := τ) (t := t) (j := j) (k := x)
    rw [List.foldl_cons, hi]
    exact frL_some xs i
/-- the next message, if one waits -/
theorem frL_ne {τ : SG} {xs : List Nat} (h : xs ≠ []) (hd : ∀ j ∈ xs, ¬ (2147483647 : Int32) < τ 26 j) : ∃ i, frL τ 2147483647 xs = some i ∧ i ∈ xs := by
  match xs, h with
  | x :: xs, _ =>
    have e : frT τ 2147483647 none x = some x := by
      unfold frT
      rw [if_neg (hd x List.mem_cons_self)]
    obtain ⟨i, hi⟩ := frL_some (τ := τ) (t := 2147483647) xs x
    have e2 : frL τ 2147483647 (x :: xs) = some i := by
      unfold frL
      rw [List.foldl_cons, e]
      exact hi
    exact ⟨i, e2, frL_mem e2⟩
theorem not_mx (v : Int32) : ¬ (2147483647 : Int32) < v := by
  rw [Int32.lt_iff_toInt_lt]
  have := v.toInt_lt
  have e : (2147483647 : Int32).toInt = 2147483647 := by decide
  omega
theorem INV.next (hI : INV n tq t σ Lx ev zl tx mt tn tc) {r : Nat} (hr : r < 6) : ((Lx (5 + r)).length = 0 ∧ ovN (frL σ 2147483647 (Lx (5 + r))) = (-1)) ∨ (¬ (Lx (5 + r)).length = 0 ∧ ∃ j, ovN (frL σ 2147483647 (Lx (5 + r))) = nI j ∧ j < n ∧ σ 23 j = 0 ∧ σ 13 j = nI r) := by
  have hQ : Lx (5 + r) = qf σ n r := hI.2.2.1.2.1.1.2 r hr
  by_cases c : Lx (5 + r) = []
  · left
    rw [c]
    exact ⟨rfl, rfl⟩
  · right
    obtain ⟨i, e, hi⟩ := frL_ne (τ := σ) c (fun j _ => not_mx _)
    refine ⟨fun q => c (List.length_eq_zero_iff.mp q), i, by rw [e]; rfl, ?_⟩
    rw [hQ] at hi
    obtain ⟨g1, g2, g3⟩ := qf_mem.mp hi
    refine ⟨g1, g2, ?_⟩
    have := (hI.2.2.1.2.2.2.2 i g1).2.1.1
    rw [this, g3]
end LJS
