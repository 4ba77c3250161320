/-! between calls: what calls keep -/
theorem RLr.c {n t : Nat} {B B2 : Nat → Nat} {σ τ : SG} {s s2 : CSt} (h : RLr n t B σ s) (hk : ∀ f, f = 0 ∨ (9 ≤ f ∧ f ≤ 10) ∨ (12 ≤ f ∧ f ≤ 25) ∨ f = 27 → ∀ i, τ f i = σ f i) (hag : AG τ s2.1) (hs : s2.2 = s.2) (hR : ∀ r, r < 6 → okR τ r) (hB : ∀ j, j < n → B2 j = B j) : RLr n t B2 τ s2 := by
  obtain ⟨a, b, c, d, e⟩ := h
  obtain ⟨u, v⟩ := s2
  cases hs
  have q5 := b.2.2.2.2
  refine ⟨hag, ?_, fun j hj => ?_, hR, fun j hj => okM_c (fun f hf => hk f (by omega) j) (e j hj)⟩
  · refine b.keep (fun f hf i => hk f (by omega) i) (fun i _ => ⟨hk 24 (by omega) i, hk 25 (by omega) i, fun x _ => hk 27 (by omega) _⟩) (fun j hj => ?_)
    have q := q5 j hj
    unfold ITj at *
    rw [hk 16 (by omega), hk 23 (by omega), hk 25 (by omega), hk 15 (by omega), hB j hj]
    refine ⟨q.1, q.2.1, fun z => ?_⟩
    obtain ⟨g1, g2, g3, g4, g5⟩ := q.2.2 z
    exact ⟨g1, g2, g3, g4, fun x hx => by rw [hk 27 (by omega)]; exact g5 x hx⟩
  · exact IGj_c (c j hj) (hk 23 (by omega) j) (hk 24 (by omega) j) (ptM_c (fun f hf => hk f (by omega) j)) (hk 15 (by omega) j) (fun _ => rfl) rfl
def ptA (σ : SG) (i : Nat) : Nat := pts ((σ 3 i) = 1) (ix (σ 2 i)) (ix (σ 1 i))
def loA (σ : SG) (i x : Nat) : Nat := lof ((σ 3 i) = 1) (ix (σ 2 i)) (ix (σ 1 i)) x
def TXA (n tq : Nat) (σ : SG) (tx mt tn : Nat → Nat) (tc : SG) : Prop := (∀ i, i < 4 → okA σ i ∧ tx i < tq ∧ tn (tx i) = ptA σ i ∧ ∀ x, x < tn (tx i) → tc (tx i) x = nI (loA σ i x)) ∧ ∀ j, j < n → mt j < tq ∧ tn (mt j) = ptM σ j ∧ ∀ x, x < tn (mt j) → tc (mt j) x = nI (loM σ j x)
def INV (n tq t : Nat) (σ : SG) (Lx : Nat → List Nat) (ev : SG) (zl tx mt tn : Nat → Nat) (tc : SG) : Prop := n ≤ 40 ∧ σ 11 0 = nI n ∧ LV n t σ (σ, Lx, ev, zl) ∧ TXA n tq σ tx mt tn tc
theorem TXA.c {n tq : Nat} {σ τ : SG} {tx mt tn : Nat → Nat} {tc : SG} (h : TXA n tq σ tx mt tn tc) (hk : ∀ f, (1 ≤ f ∧ f ≤ 3) ∨ f = 6 ∨ (17 ≤ f ∧ f ≤ 19) → ∀ i, τ f i = σ f i) : TXA n tq τ tx mt tn tc := by
  refine ⟨fun i hi => ?_, fun j hj => ?_⟩
  · obtain ⟨g1, g2, g3, g4⟩ := h.1 i hi
    unfold okA ptA loA at *
    simp only [hk 1 (by omega), hk 2 (by omega), hk 3 (by omega), hk 6 (by omega)]
    exact ⟨g1, g2, g3, g4⟩
  · obtain ⟨g1, g2, g3⟩ := h.2 j hj
    unfold ptM loM at *
    simp only [hk 17 (by omega), hk 18 (by omega), hk 19 (by omega)]
    exact ⟨g1, g2, g3⟩
theorem INV.hmt {n tq t : Nat} {σ : SG} {Lx : Nat → List Nat} {ev : SG} {zl tx mt tn : Nat → Nat} {tc : SG} (h : INV n tq t σ Lx ev zl tx mt tn tc) : ∀ j, j < n → mt j < tq ∧ tn (mt j) ≤ 8 := fun j hj => ⟨(h.2.2.2.2 j hj).1, by rw [(h.2.2.2.2 j hj).2.1]; exact ptM_le (h.2.2.1.2.2.2.2 j hj).2.2.1⟩
/-- the state behind a call, by the fields that it may have changed -/
theorem INV.c {n tq t : Nat} {σ τ : SG} {Lx : Nat → List Nat} {ev : SG} {zl tx mt tn : Nat → Nat} {tc : SG} (h : INV n tq t σ Lx ev zl tx mt tn tc) (hk : ∀ f, f ≤ 3 ∨ f = 6 ∨ (9 ≤ f ∧ f ≤ 25) ∨ f = 27 → ∀ i, τ f i = σ f i) (hR : ∀ r, r < 6 → okR τ r) : INV n tq t τ Lx ev zl tx mt tn tc := by
  obtain ⟨h1, h2, h3, h4⟩ := h
  refine ⟨h1, by rw [hk 11 (by omega)]; exact h2, ?_, h4.c (fun f hf i => hk f (by omega) i)⟩
  exact RLr.c h3 (fun f hf i => hk f (by omega) i) (AG.id τ) rfl hR (fun j _ => by rw [hk 16 (by omega)])
theorem INV.up {n tq t : Nat} {σ : SG} {Lx : Nat → List Nat} {ev : SG} {zl tx mt tn : Nat → Nat} {tc : SG} (h : INV n tq t σ Lx ev zl tx mt tn tc) (x : Int32) : INV n tq t (up2 σ 32 0 x) Lx ev zl tx mt tn tc :=
  h.c (fun f hf i => up2_k (by omega) i) (fun r hr => okR_c (fun f hf => up2_k (by omega) r) (h.2.2.1.2.2.2.1 r hr))
theorem INV.opt {n tq t : Nat} {σ : SG} {Lx : Nat → List Nat} {ev : SG} {zl tx mt tn : Nat → Nat} {tc : SG} (h : INV n tq t σ Lx ev zl tx mt tn tc) {f : Nat} (hf : f = 4 ∨ f = 5 ∨ f = 7 ∨ f = 8) (i : Nat) (x : Int32) : INV n tq t (up2 σ f i x) Lx ev zl tx mt tn tc :=
  h.c (fun g hg y => up2_k (by omega) y) (fun r hr => okR_c (fun g hg => up2_k (by omega) r) (h.2.2.1.2.2.2.1 r hr))
theorem bi_bi (P : Prop) [Decidable P] : bi P = bi (bi P = 1) := by
  by_cases h : P
  · rw [bi_t h, bi_t rfl]
  · rw [bi_f h, bi_f (by decide)]
theorem INV.wants {n tq t : Nat} {σ : SG} {Lx : Nat → List Nat} {ev : SG} {zl tx mt tn : Nat → Nat} {tc : SG} (h : INV n tq t σ Lx ev zl tx mt tn tc) (i : Nat) (P : Prop) [Decidable P] : INV n tq t (up2 σ 6 i (bi P)) Lx ev zl tx mt tn tc := by
  have k : ∀ f, f ≠ 6 → ∀ y, up2 σ 6 i (bi P) f y = σ f y := fun f hf y => up2_k hf y
  obtain ⟨h1, h2, h3, h4⟩ := h
  refine ⟨h1, by rw [k 11 (by decide)]; exact h2, RLr.c h3 (fun f hf y => k f (by omega) y) (AG.id _) rfl (fun r hr => okR_c (fun f hf => k f (by omega) r) (h3.2.2.2.1 r hr)) (fun j _ => by rw [k 16 (by decide)]), fun y hy => ?_, fun j hj => ?_⟩
  · obtain ⟨⟨g0, g1, g2, g3⟩, g4⟩ := h4.1 y hy
    unfold okA ptA loA at *
    simp only [k 1 (by decide), k 2 (by decide), k 3 (by decide)]
    refine ⟨⟨g0, ?_, g2, g3⟩, g4⟩
    by_cases e : y = i
    · rw [e, up2_self]; exact bi_bi P
    · rw [up2_ne _ _ (fun z => e z.2)]; exact g1
  · obtain ⟨g1, g2, g3⟩ := h4.2 j hj
    unfold ptM loM at *
    simp only [k 17 (by decide), k 18 (by decide), k 19 (by decide)]
    exact ⟨g1, g2, g3⟩
/-! counts and searches -/
theorem wt_eq {σ : SG} {r : Nat} (hr : r < 6) : ∀ n, (∀ j, j < n → roOK σ j) → wtF σ (nI r) n = nI (qf σ n r).length
  | 0, _ => rfl
  | k + 1, h => by
    have ih := wt_eq hr k (fun j hj => h j (by omega))
    have hw := waits_q (h k (by omega)) hr
    unfold wtF
    rw [ih, qf_s, List.length_append]
    by_cases c : σ 23 k = 0 ∧ ix (σ 13 k) = r
    · rw [if_pos c, bi_t (hw.mpr c), nI_1]; rfl
    · rw [if_neg c, bi_f (fun q => c (hw.mp q)), Int32.add_zero]; rfl
theorem kn_eq {σ : SG} {a b : Nat} (ha : a < 4) (hb : b < 6) (n : Nat) (h : ∀ j, j < n → okM σ j) : knG σ a (nI a) (nI b) n = ovN (knO σ a b n) := by
  unfold knG knO
  by_cases h5 : σ 5 a = (-1)
  · rw [if_pos h5, if_pos h5]; rfl
  · rw [if_neg h5, if_neg h5]
    induction n with
    | zero => rfl
    | succ k ih =>
      have ih := ih (fun j hj => h j (by omega))
      have hm := h k (by omega)
      have ec : knP σ a (nI a) (nI b) k ↔ knC σ a b k := by
        unfold knP knC
        have e12 : σ 12 k = nI a ↔ ix (σ 12 k) = a := ⟨fun q => by rw [q]; exact ix_nI (by omega), fun q => hm.1.1.trans (congrArg nI q)⟩
        have e13 : σ 13 k = nI b ↔ ix (σ 13 k) = b := ⟨fun q => by rw [q]; exact ix_nI (by omega), fun q => hm.2.1.1.trans (congrArg nI q)⟩
        rw [e12, e13]
        exact ⟨fun q => ⟨⟨q.1, q.2.1⟩, q.2.2⟩, fun q => ⟨q.1.1, q.1.2, q.2⟩⟩
      rw [knH_s]
      show (if knP σ a (nI a) (nI b) k then nI k else knF σ a (nI a) (nI b) k) = _
      by_cases c : knC σ a b k
      · rw [if_pos c, if_pos (ec.mpr c)]; rfl
      · rw [if_neg c, if_neg (fun q => c (ec.mp q))]; exact ih
theorem th_eq {σ : SG} {a : Nat} (ha : a < 4) : ∀ n, (∀ j, j < n → okM σ j) → thF σ a (nI a) n = thH σ a n
  | 0, _ => rfl
  | k + 1, h => by
    have ih := th_eq ha k (fun j hj => h j (by omega))
    have hm := h k (by omega)
    have ec : thP σ a (nI a) k ↔ (ix (σ 12 k) = a ∧ ¬ (σ 8 a) ≤ ((σ 0 0) - (σ 16 k))) := by
      unfold thP
      rw [hm.1.1, nI_eq (by have := hm.1.2; omega) (by omega), ix_nI (by have := hm.1.2; omega)]
    rw [thH_s]
    show thF σ a (nI a) k + bi (thP σ a (nI a) k) = _
    by_cases c : ix (σ 12 k) = a ∧ ¬ (σ 8 a) ≤ ((σ 0 0) - (σ 16 k))
    · rw [if_pos c, bi_t (ec.mpr c), ih]
    · rw [if_neg c, bi_f (fun q => c (ec.mp q)), ih, Int32.add_zero]
/-! waking -/
theorem duF_o {σ : SG} {v : Int32} {f : Nat} (hf : f ≠ 26) (i : Nat) : ∀ n, duF σ v n f i = σ f i
  | 0 => rfl
  | k + 1 => by
    unfold duF
    rw [up2_k hf]; exact duF_o hf i k
theorem duF_26 {σ : SG} {v : Int32} {i : Nat} : ∀ n, duF σ v n 26 i = if i < n ∧ waitsP σ i v then (if σ 26 i ≤ σ 0 0 then σ 26 i else σ 0 0) else σ 26 i
  | 0 => by rw [if_neg (fun q => absurd q.1 (Nat.not_lt_zero _))]; rfl
  | k + 1 => by
    have ih := duF_26 (σ := σ) (v := v) (i := i) k
    have ew : waitsP (duF σ v k) k v ↔ waitsP σ k v := by
      unfold waitsP
      rw [duF_o (by decide), duF_o (by decide)]
    unfold duF
    by_cases e : i = k
    · subst e
      have ih2 : duF σ v i 26 i = σ 26 i := by rw [ih, if_neg (fun q => absurd q.1 (Nat.lt_irrefl _))]
      have e00 : duF σ v i 0 0 = σ 0 0 := duF_o (by decide) 0 i
      rw [up2_self, ih2]
      by_cases c : waitsP σ i v
      · rw [if_pos (ew.mpr c), if_pos (show i < i + 1 ∧ waitsP σ i v from ⟨Nat.lt_succ_self _, c⟩), e00]
      · rw [if_neg (fun q => c (ew.mp q)), if_neg (show ¬ (i < i + 1 ∧ waitsP σ i v) from fun q => c q.2)]
    · rw [up2_ne _ _ (fun z => e z.2), ih]
      by_cases c : i < k ∧ waitsP σ i v
      · rw [if_pos c, if_pos (show i < k + 1 ∧ waitsP σ i v from ⟨Nat.lt_succ_of_lt c.1, c.2⟩)]
      · rw [if_neg c, if_neg (show ¬ (i < k + 1 ∧ waitsP σ i v) from fun q => c ⟨by have := q.1; omega, q.2⟩)]
theorem duL_o {t : Int32} {f : Nat} (hf : f ≠ 26) (i : Nat) : ∀ (xs : List Nat) (σ : SG), duL σ t xs f i = σ f i
  | [], _ => rfl
  | x :: xs, σ => by
    show duL (duT t σ x) t xs f i = _
    rw [duL_o hf i xs]
    exact up2_k hf i
theorem duL_26 {t : Int32} {i : Nat} : ∀ (xs : List Nat) (σ : SG), xs.Nodup → duL σ t xs 26 i = if i ∈ xs then (if t < σ 26 i then t else σ 26 i) else σ 26 i
  | [], σ, _ => by rw [if_neg List.not_mem_nil]; rfl
  | x :: xs, σ, h => by
    have hx := List.nodup_cons.mp h
    show duL (duT t σ x) t xs 26 i = _
    rw [duL_26 xs _ hx.2]
    by_cases e : i = x
    · subst e
      rw [if_neg hx.1, if_pos (List.mem_cons_self ..)]
      exact up2_self _ _ _ _
    · have e2 : duT t σ x 26 i = σ 26 i := up2_ne _ _ (fun z => e z.2)
      rw [e2]
      by_cases c : i ∈ xs
      · rw [if_pos c, if_pos (List.mem_cons_of_mem _ c)]
      · rw [if_neg c, if_neg (fun q => (List.mem_cons.mp q).elim e c)]
theorem mk_4 {m : Nat} (hm : m < 4) {mk : Int32} (hk : mk = 1 ∨ mk = 2) : ((nI m &&& mk) = mk ↔ ¬ (nI m &&& mk) = 0) ∧ ((nI m &&& mk) = mk → nI m - mk = nI m &&& (mk ^^^ (-1)) ∧ ∃ q, q < 4 ∧ nI m - mk = nI q) := by
  have h : m = 0 ∨ m = 1 ∨ m = 2 ∨ m = 3 := by omega
  rcases h with rfl | rfl | rfl | rfl <;> rcases hk with rfl | rfl
  · exact ⟨by decide, fun q => absurd q (by decide)⟩
  · exact ⟨by decide, fun q => absurd q (by decide)⟩
  · exact ⟨by decide, fun _ => ⟨by decide, 0, by decide, by decide⟩⟩
  · exact ⟨by decide, fun q => absurd q (by decide)⟩
  · exact ⟨by decide, fun q => absurd q (by decide)⟩
  · exact ⟨by decide, fun _ => ⟨by decide, 0, by decide, by decide⟩⟩
  · exact ⟨by decide, fun _ => ⟨by decide, 2, by decide, by decide⟩⟩
  · exact ⟨by decide, fun _ => ⟨by decide, 1, by decide, by decide⟩⟩
theorem wk_ag {σ τ : SG} (h : AG σ τ) {n r : Nat} (hr : r < 6) (hm : ∀ j, j < n → roOK σ j) (hk : okR σ r) {mk : Int32} (hmk : mk = 1 ∨ mk = 2) : AG (wkS σ r (nI r) mk n) (wkL τ r mk (σ 0 0) (qf σ n r)) := by
  obtain ⟨m, hm4, e31⟩ := hk.2.1
  have q := mk_4 hm4 hmk
  have t31 : τ 31 r = σ 31 r := h 31 (cf (by omega)) r
  unfold wkS wkL
  rw [t31, e31]
  by_cases c : (nI m &&& mk) = mk
  · rw [if_pos c, if_neg (q.1.mp c), (q.2 c).1]
    intro f hf i
    by_cases e : f = 26
    · subst e
      rw [duF_26, duL_26 _ _ (qf_nd σ n r), up2_k (show 26 ≠ 31 by decide), up2_k (show 26 ≠ 31 by decide), up2_k (show 0 ≠ 31 by decide), h 26 (cf (by omega))]
      have ew : (i < n ∧ waitsP (up2 σ 31 r (nI m &&& (mk ^^^ (-1)))) i (nI r)) ↔ i ∈ qf σ n r := by
        rw [qf_mem]
        unfold waitsP
        rw [up2_k (show 23 ≠ 31 by decide), up2_k (show 13 ≠ 31 by decide)]
        constructor
        · intro z
          exact ⟨z.1, (waits_q (hm i z.1) hr).mp z.2⟩
        · intro z
          exact ⟨z.1, (waits_q (hm i z.1) hr).mpr z.2⟩
      by_cases cq : i ∈ qf σ n r
      · rw [if_pos cq, if_pos (ew.mpr cq)]
        by_cases cl : σ 0 0 < σ 26 i
        · rw [if_pos cl, if_neg (Int32.not_le.mpr cl)]
        · rw [if_neg cl, if_pos (Int32.not_lt.mp cl)]
      · rw [if_neg cq, if_neg (fun z => cq (ew.mp z))]
    · rw [duF_o e, duL_o e]
      exact (h.up 31 r _) f hf i
  · rw [if_neg c, if_pos (Classical.not_not.mp (fun z => c (q.1.mpr z)))]
    exact h
theorem wkS_o {σ : SG} {r n : Nat} {v mk : Int32} {f : Nat} (h1 : f ≠ 26) (h2 : f ≠ 31) (i : Nat) : wkS σ r v mk n f i = σ f i := by
  unfold wkS
  split
  · rw [duF_o h1]; exact up2_k h2 i
  · rfl
theorem wkS_R {σ : SG} {r n : Nat} {v mk : Int32} (hmk : mk = 1 ∨ mk = 2) {y : Nat} (hr : okR σ r) (h : okR σ y) : okR (wkS σ r v mk n) y := by
  obtain ⟨m, hm4, e31⟩ := hr.2.1
  have q := mk_4 hm4 hmk
  unfold okR moOK at *
  rw [wkS_o (f := 28) (by decide) (by decide), wkS_o (f := 29) (by decide) (by decide), wkS_o (f := 30) (by decide) (by decide)]
  refine ⟨h.1, ?_, h.2.2⟩
  unfold wkS
  split
  · next c =>
    rw [duF_o (by decide)]
    by_cases e : y = r
    · rw [e, up2_self, e31]
      rw [e31] at c
      exact (q.2 c).2
    · rw [up2_ne _ _ (fun z => e z.2)]; exact h.2.1
  · exact h.2.1
theorem lk_ag {σ τ : SG} (h : AG σ τ) {n r : Nat} (hr : r < 6) (hm : ∀ j, j < n → roOK σ j) (hk : okR σ r) : AG (lkS σ r (nI r) n) (lkL τ r (qf σ n r)) := by
  unfold lkS lkL
  rw [h 29 (cf (by omega)), h 30 (cf (by omega)), h 0 (cf (by omega))]
  by_cases c : (σ 29 r) ≤ (σ 30 r)
  · rw [if_pos c, if_neg (fun z => z c)]; exact h
  · rw [if_neg c, if_pos c]
    exact wk_ag h hr hm hk (.inr rfl)
theorem lkS_o {σ : SG} {r n : Nat} {v : Int32} {f : Nat} (h1 : f ≠ 26) (h2 : f ≠ 31) (i : Nat) : lkS σ r v n f i = σ f i := by
  unfold lkS
  split
  · exact wkS_o h1 h2 i
  · rfl
theorem lkS_R {σ : SG} {r n : Nat} {v : Int32} {y : Nat} (hr : okR σ r) (h : okR σ y) : okR (lkS σ r v n) y := by
  unfold lkS
  split
  · exact wkS_R (.inr rfl) hr h
  · exact h

