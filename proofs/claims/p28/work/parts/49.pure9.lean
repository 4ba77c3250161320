/-! replaced messages; drafts; the beginning -/
theorem dlF_o {σ : SG} {a : Nat} {v to : Int32} {f : Nat} (hf : f ≠ 23 ∧ f ≠ 10 ∧ f ≠ 9) (i : Nat) : ∀ k, dlF σ a v to k f i = σ f i
  | 0 => rfl
  | k + 1 => by
    unfold dlF
    split
    · rw [enS_o hf]; exact dlF_o hf i k
    · exact dlF_o hf i k
theorem RLr.dq {n t a b : Nat} {B : Nat → Nat} {τ : SG} {s : CSt} (h : RLr (n + 1) t B τ s) (hn : n + 1 ≤ 40) (ha : a < 4) (hb : b < 6) (h12 : τ 12 n = nI a) (h13 : τ 13 n = nI b) (h20 : τ 20 n = τ 4 a) : ∀ k, k ≤ n → RLr (n + 1) t B (dlF τ a (nI a) (nI b) k) (dqT n s k).1
  | 0, _ => h
  | k + 1, hk => by
    have ih := RLr.dq h hn ha hb h12 h13 h20 k (by omega)
    have hm := ih.2.2.2.2 k (by omega)
    have o : ∀ f, f = 12 ∨ f = 13 ∨ f = 20 ∨ f = 4 → ∀ i, dlF τ a (nI a) (nI b) k f i = τ f i := fun f hf i => dlF_o (by omega) i k
    have ec : dqC (dqT n s k).1.1 n k ↔ dlP (dlF τ a (nI a) (nI b) k) a (nI a) (nI b) k := by
      have e12 : dlF τ a (nI a) (nI b) k 12 k = nI a ↔ ix (dlF τ a (nI a) (nI b) k 12 k) = a := ⟨fun q => by rw [q]; exact ix_nI (by omega), fun q => hm.1.1.trans (congrArg nI q)⟩
      have e13 : dlF τ a (nI a) (nI b) k 13 k = nI b ↔ ix (dlF τ a (nI a) (nI b) k 13 k) = b := ⟨fun q => by rw [q]; exact ix_nI (by omega), fun q => hm.2.1.1.trans (congrArg nI q)⟩
      have g12 : ix (dlF τ a (nI a) (nI b) k 12 n) = a := by rw [o 12 (by omega), h12]; exact ix_nI (by omega)
      have g13 : ix (dlF τ a (nI a) (nI b) k 13 n) = b := by rw [o 13 (by omega), h13]; exact ix_nI (by omega)
      have g20 : dlF τ a (nI a) (nI b) k 20 n = dlF τ a (nI a) (nI b) k 4 a := by rw [o 20 (by omega), o 4 (by omega)]; exact h20
      unfold dqC dlP
      rw [ih.1 23 (cf (by omega)), ih.1 24 (cf (by omega)), ih.1 20 (cf (by omega)), ih.1 20 (cf (by omega)), ih.1 12 (cf (by omega)), ih.1 12 (cf (by omega)), ih.1 13 (cf (by omega)), ih.1 13 (cf (by omega)), e12, e13, g12, g13, g20]
      constructor
      · intro q
        exact ⟨q.1, q.2.2.2.1, q.2.2.2.2, q.2.2.1, q.2.1⟩
      · intro q
        exact ⟨q.1, q.2.2.2.2, q.2.2.2.1, q.2.1, q.2.2.1⟩
    unfold dlF dqT
    by_cases c : dlP (dlF τ a (nI a) (nI b) k) a (nI a) (nI b) k
    · rw [if_pos c, if_pos (ec.mpr c)]
      exact ih.fin hn (by omega) c.1 (.inr (.inl rfl))
    · rw [if_neg c, if_neg (fun q => c (ec.mp q))]
      exact ih
theorem dqT_cost {j0 : Nat} {s : CSt} {n : Nat} : ∀ k, k ≤ n → (dqT j0 s k).2 + WN (dqT j0 s k).1.1 n = WN s.1 n
  | 0, _ => Nat.zero_add _
  | k + 1, hk => by
    have ih := dqT_cost (j0 := j0) (s := s) (n := n) k (by omega)
    unfold dqT
    by_cases c : dqC (dqT j0 s k).1.1 j0 k
    · rw [if_pos c]
      show (dqT j0 s k).2 + 1 + WN (up2 (dqT j0 s k).1.1 23 k 3) n = _
      have z := WN_fin (how := 3) (by decide) c.1 n (by omega)
      omega
    · rw [if_neg c]; exact ih
theorem dqA_cost {j0 : Nat} {s : CSt} : (dqA j0 s).2 ≤ j0 := by
  unfold dqA
  split
  · exact Nat.zero_le _
  · have z := dqT_cost (j0 := j0) (s := s) (n := j0) j0 (Nat.le_refl _)
    have z2 := WN_le s.1 j0
    omega
theorem sub_new {n tq t : Nat} {σ : SG} {Lx : Nat → List Nat} {ev : SG} {zl tx mt tn : Nat → Nat} {tc : SG} (h : INV n tq t σ Lx ev zl tx mt tn tc) (ht : t < 2000000) (hn : n < 40) {a b : Nat} (ha : a < 4) (hb : b < 6) {rank ticks : Int32} (hv : ticks = nI (ix ticks) ∧ 1 ≤ ix ticks ∧ ix ticks ≤ 500) (x : Int32) : (∀ k, k ≤ n → RLr (n + 1) t (fun j => t - ix (nwS (up2 σ 32 0 x) σ a n (nI a) (nI b) rank ticks 16 j)) (dlF (nwS (up2 σ 32 0 x) σ a n (nI a) (nI b) rank ticks) a (nI a) (nI b) k) (dqT n (nwS σ σ a n (nI a) (nI b) rank ticks, sbL Lx b n, va_up ev n (fun _ => 0), va_up zl n 1) k).1) ∧ AG (dlG (nwS (up2 σ 32 0 x) σ a n (nI a) (nI b) rank ticks) a (nI a) (nI b) n) (dqA n (nwS σ σ a n (nI a) (nI b) rank ticks, sbL Lx b n, va_up ev n (fun _ => 0), va_up zl n 1)).1.1 ∧ INV (n + 1) tq t (dlG (nwS (up2 σ 32 0 x) σ a n (nI a) (nI b) rank ticks) a (nI a) (nI b) n) (dqA n (nwS σ σ a n (nI a) (nI b) rank ticks, sbL Lx b n, va_up ev n (fun _ => 0), va_up zl n 1)).1.2.1 (dqA n (nwS σ σ a n (nI a) (nI b) rank ticks, sbL Lx b n, va_up ev n (fun _ => 0), va_up zl n 1)).1.2.2.1 (dqA n (nwS σ σ a n (nI a) (nI b) rank ticks, sbL Lx b n, va_up ev n (fun _ => 0), va_up zl n 1)).1.2.2.2 tx (va_up mt n (tx a)) tn tc := by
  generalize hs0 : (nwS σ σ a n (nI a) (nI b) rank ticks, sbL Lx b n, va_up ev n (fun _ => 0), va_up zl n 1) = s0
  generalize hτ : nwS (up2 σ 32 0 x) σ a n (nI a) (nI b) rank ticks = τ
  have h0 : RLr (n + 1) t (fun j => t - ix (τ 16 j)) τ s0 := by
    rw [← hs0, ← hτ]
    exact RLr.new h ht ((AG.id σ).upl (by unfold cfd; omega) 0 x) (fun f hf i => up2_k hf i) ha hb hv
  obtain ⟨n12, n13, n14, n15, n16, n26, n17, n18, n19, n20, n21, n22, n11⟩ := @nwS_n (up2 σ 32 0 x) σ a n (nI a) (nI b) rank ticks
  rw [hτ] at n12 n13 n14 n15 n16 n26 n17 n18 n19 n20 n21 n22 n11
  have t4 : τ 4 a = σ 4 a := by rw [← hτ, nwS_f (by omega), up2_k (by decide)]
  have hd := h0.dq hn ha hb n12 n13 (by rw [n20, t4])
  have hfin : RLr (n + 1) t (fun j => t - ix (τ 16 j)) (dlG τ a (nI a) (nI b) n) (dqA n s0).1 := by
    unfold dlG dqA
    have e4 : s0.1 20 n = τ 4 a := by rw [h0.1 20 (cf (by omega)), n20, t4]
    rw [e4]
    by_cases c : τ 4 a = 0
    · rw [if_pos c, if_pos c]; exact h0
    · rw [if_neg c, if_neg c]; exact hd n (Nat.le_refl _)
  have o : ∀ f, f ≠ 23 ∧ f ≠ 10 ∧ f ≠ 9 → ∀ i, dlG τ a (nI a) (nI b) n f i = τ f i := fun f hf i => by
    unfold dlG
    split
    · rfl
    · exact dlF_o hf i n
  have kf : ∀ f, ¬ (f = 11 ∨ (12 ≤ f ∧ f ≤ 22) ∨ f = 26) → f ≠ 32 → ∀ i, τ f i = σ f i := fun f hf h9 i => by rw [← hτ, nwS_f hf, up2_k h9]
  have ko : ∀ f, f ≠ 11 → f ≠ 32 → ∀ i, i ≠ n → τ f i = σ f i := fun f hf h9 i hi => by rw [← hτ, nwS_o hf hi, up2_k h9]
  refine ⟨hd, hfin.1, hn, ?_, ?_, fun i hi => ?_, fun j hj => ?_⟩
  · rw [o 11 (by omega), n11, nI_1]
  · refine ⟨AG.id _, ?_, hfin.2.2.1, hfin.2.2.2.1, hfin.2.2.2.2⟩
    have e : (fun j => t - ix (dlG τ a (nI a) (nI b) n 16 j)) = fun j => t - ix (τ 16 j) := funext (fun j => by rw [o 16 (by omega)])
    rw [e]
    exact hfin.2.1
  · obtain ⟨g1, g2, g3, g4⟩ := h.2.2.2.1 i hi
    unfold okA ptA loA at *
    simp only [o 1 (by omega), o 2 (by omega), o 3 (by omega), o 6 (by omega), kf 1 (by omega) (by decide), kf 2 (by omega) (by decide), kf 3 (by omega) (by decide), kf 6 (by omega) (by decide)]
    exact ⟨g1, g2, g3, g4⟩
  · by_cases ej : j = n
    · subst ej
      obtain ⟨g1, g2, g3, g4⟩ := h.2.2.2.1 a ha
      rw [va_up_self]
      unfold ptA loA at *
      unfold ptM loM
      simp only [o 17 (by omega), o 18 (by omega), o 19 (by omega), n17, n18, n19]
      exact ⟨g2, g3, g4⟩
    · rw [va_up_ne _ _ ej]
      obtain ⟨g1, g2, g3⟩ := h.2.2.2.2 j (by omega)
      unfold ptM loM at *
      simp only [o 17 (by omega), o 18 (by omega), o 19 (by omega), ko 17 (by decide) (by decide) j ej, ko 18 (by decide) (by decide) j ej, ko 19 (by decide) (by decide) j ej]
      exact ⟨g1, g2, g3⟩
theorem pts_iff {P Q : Prop} [i1 : Decidable P] [i2 : Decidable Q] (h : P ↔ Q) (ev al : Nat) : pts P ev al = pts Q ev al := by
  have e : P = Q := propext h
  subst e
  cases Subsingleton.elim i1 i2
  rfl
theorem lof_iff {P Q : Prop} [i1 : Decidable P] [i2 : Decidable Q] (h : P ↔ Q) (ev al x : Nat) : lof P ev al x = lof Q ev al x := by
  have e : P = Q := propext h
  subst e
  cases Subsingleton.elim i1 i2
  rfl
theorem bi_e1 (P : Prop) [Decidable P] : bi P = 1 ↔ P := by
  by_cases h : P
  · exact ⟨fun _ => h, fun _ => bi_t h⟩
  · exact ⟨fun q => absurd q (by rw [bi_f h]; decide), fun q => absurd q h⟩
theorem INV.draft {n tq t : Nat} {σ : SG} {Lx : Nat → List Nat} {ev : SG} {zl tx mt tn : Nat → Nat} {tc : SG} (h : INV n tq t σ Lx ev zl tx mt tn tc) {a : Nat} (ha : a < 4) {many each : Int32} (wb : Prop) [Decidable wb] (hm : many = nI (ix many) ∧ 0 < ix many ∧ ix many ≤ 500) (he : each = nI (ix each) ∧ ix each ≤ 50) : INV n (tq + 1) t (up2 (up2 (up2 σ 1 a many) 2 a each) 3 a (bi wb)) Lx ev zl (va_up tx a tq) mt (va_up tn tq (pts wb (ix each) (ix many))) (va_up tc tq (fun x => if x < pts wb (ix each) (ix many) then nI (lof wb (ix each) (ix many) x) else 0)) := by
  have k : ∀ f, f ≠ 1 → f ≠ 2 → f ≠ 3 → ∀ y, up2 (up2 (up2 σ 1 a many) 2 a each) 3 a (bi wb) f y = σ f y := fun f h1 h2 h3 y => by rw [up2_k h3, up2_k h2, up2_k h1]
  obtain ⟨h1, h2, h3, h4⟩ := h
  refine ⟨h1, by rw [k 11 (by decide) (by decide) (by decide)]; exact h2, RLr.c h3 (fun f hf y => k f (by omega) (by omega) (by omega) y) (AG.id _) rfl (fun r hr => okR_c (fun f hf => k f (by omega) (by omega) (by omega) r) (h3.2.2.2.1 r hr)) (fun j _ => by rw [k 16 (by decide) (by decide) (by decide)]), fun i hi => ?_, fun j hj => ?_⟩
  · obtain ⟨g1, g2, g3, g4⟩ := h4.1 i hi
    by_cases e : i = a
    · subst e
      have f1 : up2 (up2 (up2 σ 1 i many) 2 i each) 3 i (bi wb) 1 i = many := by rw [up2_k (by decide), up2_k (by decide), up2_self]
      have f2 : up2 (up2 (up2 σ 1 i many) 2 i each) 3 i (bi wb) 2 i = each := by rw [up2_k (by decide), up2_self]
      have f3 : up2 (up2 (up2 σ 1 i many) 2 i each) 3 i (bi wb) 3 i = bi wb := up2_self _ _ _ _
      have f6 := k 6 (by decide) (by decide) (by decide) i
      rw [va_up_self, va_up_self, va_up_self]
      refine ⟨?_, Nat.lt_succ_self _, ?_, fun x hx => ?_⟩
      · unfold okA
        simp only [f1, f2, f3, f6]
        exact ⟨bi_bi wb, g1.2.1, hm, he⟩
      · unfold ptA
        simp only [f1, f2, f3]
        exact (pts_iff (bi_e1 wb) _ _).symm
      · show (if x < pts wb (ix each) (ix many) then nI (lof wb (ix each) (ix many) x) else 0) = _
        rw [if_pos hx]
        unfold loA
        simp only [f1, f2, f3]
        rw [lof_iff (bi_e1 wb)]
    · have f1 : ∀ f, up2 (up2 (up2 σ 1 a many) 2 a each) 3 a (bi wb) f i = σ f i := fun f => by rw [up2_ne _ _ (fun z => e z.2), up2_ne _ _ (fun z => e z.2), up2_ne _ _ (fun z => e z.2)]
      rw [va_up_ne _ _ e, va_up_ne _ _ (Nat.ne_of_lt g2), va_up_ne _ _ (Nat.ne_of_lt g2)]
      unfold okA ptA loA at *
      simp only [f1]
      exact ⟨g1, by omega, g3, g4⟩
  · obtain ⟨g1, g2, g3⟩ := h4.2 j hj
    rw [va_up_ne _ _ (Nat.ne_of_lt g1), va_up_ne _ _ (Nat.ne_of_lt g1)]
    unfold ptM loM at *
    simp only [k 17 (by decide) (by decide) (by decide), k 18 (by decide) (by decide) (by decide), k 19 (by decide) (by decide) (by decide)]
    exact ⟨by omega, g2, g3⟩
theorem INV.start : INV 0 4 0 sgI (fun _ => []) (fun _ _ => 0) (fun _ => 0) (fun i => i) (fun _ => 0) (fun _ => 1) (fun _ => upd (fun _ => 0) 0 1) := by
  refine ⟨Nat.zero_le _, rfl, ⟨AG.id _, ⟨⟨rfl, fun r _ => rfl⟩, fun a _ => ⟨rfl, List.Pairwise.nil, fun j hj => absurd hj List.not_mem_nil, fun k hk => absurd hk (Nat.not_lt_zero _)⟩, fun j _ => ⟨rfl, rfl, rfl, fun _ _ => rfl⟩, rfl, fun j hj => absurd hj (Nat.not_lt_zero _)⟩, fun j hj => absurd hj (Nat.not_lt_zero _), fun r _ => ⟨⟨rfl, by show ix 0 < 4; decide⟩, ⟨0, by decide, rfl⟩, 10, 0, by decide, by decide, rfl, rfl⟩, fun j hj => absurd hj (Nat.not_lt_zero _)⟩, fun i hi => ⟨⟨by show (0 : Int32) = bi ((0 : Int32) = 1); decide, by show (0 : Int32) = bi ((0 : Int32) = 1); decide, ⟨by show (1 : Int32) = nI (ix 1); decide, by show 0 < ix 1; decide, by show ix 1 ≤ 500; decide⟩, by show (0 : Int32) = nI (ix 0); decide, by show ix 0 ≤ 50; decide⟩, hi, ?_, fun x hx => ?_⟩, fun j hj => absurd hj (Nat.not_lt_zero _)⟩
  · show 1 = pts ((0 : Int32) = 1) (ix 0) (ix 1)
    decide +kernel
  · have e : x = 0 := by
      have : x < 1 := hx
      omega
    subst e
    show (1 : Int32) = nI (lof ((0 : Int32) = 1) (ix 0) (ix 1) 0)
    decide +kernel

