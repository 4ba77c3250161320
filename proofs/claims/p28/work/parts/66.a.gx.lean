/-! what each call leaves: the class's state behind it, and the law's rows beside it -/
theorem up2_K {α : Type} {f : Nat → Nat → α} {k i : Nat} {v : α} {K : Nat} (h : K ≠ k) : up2 f k i v K = f K := funext (fun b => up2_k h b)
def GS (D : va_G) (cs : Nat → ClassId) (n t : Nat) (τ : SG) (Lx : Nat → List Nat) (w0 : CF) (ad ad1 : Nat → Nat → Nat) (dm dm1 : Nat → Nat → Prop) (w1 : CF) : Prop := ∃ (tq : Nat) (cap : Nat → Nat) (mk : Nat → Int32) (ev : SG) (zl tx mt tn : Nat → Nat) (tc : SG), CD dm1 n cap tq ∧ LO n Lx cap ∧ INV n tq t τ Lx ev zl tx mt tn tc ∧ (∀ k i, k ≤ 10 → ad1 k i = ad k i) ∧ (∀ k i, k < 10 → dm k i → dm1 k i) ∧ w1 = cw D ad1 cs τ Lx cap mk ev zl tx mt tn tc w0
theorem GS.mk {D : va_G} {cs : Nat → ClassId} {n tq t : Nat} {τ σ1 : SG} {Lx : Nat → List Nat} {cap : Nat → Nat} {mk : Nat → Int32} {ev : SG} {zl tx mt tn : Nat → Nat} {tc : SG} {w0 : CF} {ad ad1 : Nat → Nat → Nat} {dm dm1 : Nat → Nat → Prop} (h1 : CD dm1 n cap tq) (h2 : LO n Lx cap) (h3 : INV n tq t τ Lx ev zl tx mt tn tc) (h4 : AG τ σ1) (h5 : ∀ k i, k ≤ 10 → ad1 k i = ad k i) (h6 : ∀ k i, k < 10 → dm k i → dm1 k i) : GS D cs n t τ Lx w0 ad ad1 dm dm1 (cw D ad1 cs σ1 Lx cap mk ev zl tx mt tn tc w0) := ⟨tq, cap, mk, ev, zl, tx, mt, tn, tc, h1, h2, h3, h5, h6, AG_cw h4⟩
section GX
variable {D : va_G} {cs : Nat → ClassId} {w0 : CF} {ad ad1 : Nat → Nat → Nat} {dm dm1 : Nat → Nat → Prop} {n tq t : Nat} {σ τ la lb : SG} {Lx : Nat → List Nat} {cap : Nat → Nat} {mk : Nat → Int32} {ev : SG} {zl tx mt tn : Nat → Nat} {tc : SG} {kt rd : Nat → Nat}
theorem LM.c {j : Nat} (h : LM σ la j) (hs : ∀ f, f = 12 ∨ f = 13 ∨ f = 17 ∨ f = 22 → τ f j = σ f j) (hl : ∀ f, f = 1 ∨ f = 2 ∨ f = 4 → lb f = la f) : LM τ lb j := by
  unfold LM
  rw [hl 1 (by omega), hl 2 (by omega), hl 4 (by omega), hs 12 (by omega), hs 13 (by omega), hs 17 (by omega), hs 22 (by omega)]
  exact h
theorem LR.c {r : Nat} (h : LR rd σ la r) (hs : τ 28 r = σ 28 r ∧ τ 29 r = σ 29 r) (hl : lb 5 = la 5) : LR rd τ lb r := by
  unfold LR
  rw [hl, hs.1, hs.2]
  exact h
theorem LA.c {a : Nat} (h : LA n kt σ la a) (hs : ∀ f, f = 1 ∨ f = 6 ∨ f = 7 → τ f a = σ f a) (hM : ∀ f, f = 12 ∨ f = 22 → ∀ j, τ f j = σ f j) (hl : lb 6 = la 6) (h3 : lb 3 = la 3) : LA n kt τ lb a := by
  unfold LA
  rw [hl, h3, hs 1 (by omega), hs 6 (by omega), hs 7 (by omega), cnte_c (σ := σ) (τ := τ) (T := la 3) (U := la 3) (fun k _ => ⟨hM 12 (by omega) k, hM 22 (by omega) k, rfl⟩)]
  exact h
/-- an account's row: letters, rate, wants -/
theorem LA.u {a y : Nat} {f q : Nat} {v : Int32} (h : LA n kt σ la y) (hf : f = 1 ∧ q = 0 ∨ f = 7 ∧ q = 4 ∨ f = 6 ∧ q = 8) (ha : a < 4) (hy : y < 4) (hs : ∀ g, g = 1 ∨ g = 6 ∨ g = 7 → ∀ i, ¬ (g = f ∧ i = a) → τ g i = σ g i) (he : τ f a = v) (h7 : f = 7 → ∃ z, z ≤ 40 ∧ v = nI z) (hM : ∀ g, g = 12 ∨ g = 22 → ∀ j, τ g j = σ g j) : LA n kt τ (up2 la 6 (q + a) v) y := by
  obtain ⟨a1, a2, a3, ⟨z, a4, a5⟩, x, a6, a7⟩ := h
  have e3 : up2 la 6 (q + a) v 3 = la 3 := up2_K (by decide)
  have hc : cnte τ (la 3) y n = cnte σ (la 3) y n := cnte_c (fun k _ => ⟨hM 12 (by omega) k, hM 22 (by omega) k, rfl⟩)
  have kl : ∀ i, i ≠ q + a → up2 la 6 (q + a) v 6 i = la 6 i := fun i hi => up2_ne _ _ (fun w => hi w.2)
  unfold LA
  rw [e3, hc]
  rcases hf with ⟨rfl, rfl⟩ | ⟨rfl, rfl⟩ | ⟨rfl, rfl⟩
  · by_cases c : y = a
    · subst c
      refine ⟨by rw [Nat.zero_add, up2_self, he], by rw [kl _ (by omega), hs 7 (by omega) _ (by omega)]; exact a2, by rw [kl _ (by omega), hs 6 (by omega) _ (by omega)]; exact a3, ⟨z, a4, by rw [hs 7 (by omega) _ (by omega)]; exact a5⟩, x, by rw [kl _ (by omega)]; exact a6, a7⟩
    · refine ⟨by rw [kl _ (by omega), hs 1 (by omega) _ (by omega)]; exact a1, by rw [kl _ (by omega), hs 7 (by omega) _ (by omega)]; exact a2, by rw [kl _ (by omega), hs 6 (by omega) _ (by omega)]; exact a3, ⟨z, a4, by rw [hs 7 (by omega) _ (by omega)]; exact a5⟩, x, by rw [kl _ (by omega)]; exact a6, a7⟩
  · by_cases c : y = a
    · subst c
      obtain ⟨z2, b1, b2⟩ := h7 rfl
      refine ⟨by rw [kl _ (by omega), hs 1 (by omega) _ (by omega)]; exact a1, by rw [up2_self, he], by rw [kl _ (by omega), hs 6 (by omega) _ (by omega)]; exact a3, ⟨z2, b1, he.trans b2⟩, x, by rw [kl _ (by omega)]; exact a6, a7⟩
    · refine ⟨by rw [kl _ (by omega), hs 1 (by omega) _ (by omega)]; exact a1, by rw [kl _ (by omega), hs 7 (by omega) _ (by omega)]; exact a2, by rw [kl _ (by omega), hs 6 (by omega) _ (by omega)]; exact a3, ⟨z, a4, by rw [hs 7 (by omega) _ (by omega)]; exact a5⟩, x, by rw [kl _ (by omega)]; exact a6, a7⟩
  · by_cases c : y = a
    · subst c
      refine ⟨by rw [kl _ (by omega), hs 1 (by omega) _ (by omega)]; exact a1, by rw [kl _ (by omega), hs 7 (by omega) _ (by omega)]; exact a2, by rw [up2_self, he], ⟨z, a4, by rw [hs 7 (by omega) _ (by omega)]; exact a5⟩, x, by rw [kl _ (by omega)]; exact a6, a7⟩
    · refine ⟨by rw [kl _ (by omega), hs 1 (by omega) _ (by omega)]; exact a1, by rw [kl _ (by omega), hs 7 (by omega) _ (by omega)]; exact a2, by rw [kl _ (by omega), hs 6 (by omega) _ (by omega)]; exact a3, ⟨z, a4, by rw [hs 7 (by omega) _ (by omega)]; exact a5⟩, x, by rw [kl _ (by omega)]; exact a6, a7⟩
/-- an account's row changes, nothing else that the law sees -/
theorem LJ.acc {a : Nat} {f q : Nat} {v : Int32} (h : LJ n t σ la Lx kt rd) (hf : f = 1 ∧ q = 0 ∨ f = 7 ∧ q = 4 ∨ f = 6 ∧ q = 8) (ha : a < 4) (hs : ∀ g, g = 1 ∨ g = 6 ∨ g = 7 → ∀ i, ¬ (g = f ∧ i = a) → τ g i = σ g i) (he : τ f a = v) (h7 : f = 7 → ∃ z, z ≤ 40 ∧ v = nI z) (hM : ∀ g, xfd g ∨ g = 17 → ∀ j, τ g j = σ g j) : LJ n t τ (up2 la 6 (q + a) v) Lx kt rd := by
  obtain ⟨h1, h2, h3, h4, h5, h6, h7'⟩ := h
  have hx : ∀ g, (g = 12 ∨ g = 13 ∨ g = 17 ∨ g = 22) → xfd g ∨ g = 17 := fun g hg => by unfold xfd; omega
  refine ⟨h1, by rw [up2_k (by decide)]; exact h2, by rw [up2_k (by decide)]; exact h3, fun j hj => (h4 j hj).c (fun g hg => hM g (hx g hg) j) (fun g hg => up2_K (by omega)), fun r hr => (h5 r hr).c ⟨hM 28 (by unfold xfd; omega) r, hM 29 (by unfold xfd; omega) r⟩ (up2_K (by decide)), fun y hy => (h6 y hy).u hf ha hy hs he h7 (fun g hg => hM g (hx g (by omega))), ?_⟩
  rw [up2_K (show (3 : Nat) ≠ 6 by decide)]
  exact h7'.c (Nat.le_refl _) (fun g hg => hM g (.inl hg)) (fun _ _ => rfl)
theorem gx_draft (hC : CD dm n cap tq) (hlo : LO n Lx cap) (hI : INV n tq t σ Lx ev zl tx mt tn tc) {a x y : Nat} (ha : a < 4) (hx : 1 ≤ x ∧ x ≤ 500) (hy : y ≤ 50) (wb : Prop) [Decidable wb] (q : Nat) : ∃ τ, GS D cs n t τ Lx w0 ad (up2 ad 21 tq q) dm (fun a b => dm a b ∨ (a = 21 ∧ b = tq)) (cw D (up2 ad 21 tq q) cs σ Lx cap mk ev zl (va_up tx a tq) mt (va_up tn tq (pts wb y x)) (va_up tc tq (fun z => if z < pts wb y x then nI (lof wb y x z) else 0)) w0) ∧ ∀ la kt rd, LJ n t σ la Lx kt rd → LJ n t τ (up2 la 6 a (nI x)) Lx kt rd := by
  have NC : ∀ f, f = 1 ∨ f = 2 ∨ f = 3 → ¬ cfd f := fun f hf => by unfold cfd; omega
  have ex : ix (nI x) = x := ix_nI (by omega)
  have ey : ix (nI y) = y := ix_nI (by omega)
  have i1 := (hI.up 0).draft ha (many := nI x) (each := nI y) wb ⟨by rw [ex], by rw [ex]; omega, by rw [ex]; omega⟩ ⟨by rw [ey], by rw [ey]; omega⟩
  rw [ex, ey] at i1
  refine ⟨_, GS.mk hC.text hlo i1 (((((AG.id σ).upl n32 0 0).upl (NC 1 (by omega)) _ _).upl (NC 2 (by omega)) _ _).upl (NC 3 (by omega)) _ _) (fun k i hk => up2_k (by omega) i) (fun k i _ h => .inl h), fun la kt rd h => ?_⟩
  have e := h.acc (τ := up2 (up2 (up2 (up2 σ 32 0 0) 1 a (nI x)) 2 a (nI y)) 3 a (bi wb)) (f := 1) (q := 0) (a := a) (v := nI x) (.inl ⟨rfl, rfl⟩) ha (fun g hg i hi => ?_) ?_ (fun z => absurd z (by decide)) (fun g hg j => ?_)
  · rw [Nat.zero_add] at e
    exact e
  · rw [up2_k (by omega), up2_k (by omega)]
    by_cases c : g = 1
    · subst c
      rw [up2_ne _ _ (fun w => hi ⟨rfl, w.2⟩), up2_k (by decide)]
    · rw [up2_k (by omega), up2_k (by omega)]
  · rw [up2_k (by decide), up2_k (by decide), up2_self]
  · unfold xfd at hg
    rw [up2_k (by omega), up2_k (by omega), up2_k (by omega), up2_k (by omega)]
theorem gx_options (hC : CD dm n cap tq) (hlo : LO n Lx cap) (hI : INV n tq t σ Lx ev zl tx mt tn tc) {a : Nat} (ha : a < 4) (kd rf : Int32) (wb : Prop) [Decidable wb] : ∃ τ, GS D cs n t τ Lx w0 ad ad dm dm (cw D ad cs (up2 (up2 (up2 σ 4 a kd) 5 a rf) 6 a (bi wb)) Lx cap mk ev zl tx mt tn tc w0) ∧ ∀ la kt rd, LJ n t σ la Lx kt rd → LJ n t τ (up2 la 6 (8 + a) (bi wb)) Lx kt rd := by
  refine ⟨_, GS.mk hC hlo ((((hI.up 0).opt (.inl rfl) a kd).opt (.inr (.inl rfl)) a rf).wants a wb) (((((AG.id σ).upl n32 0 0).up 4 _ _).up 5 _ _).up 6 _ _) (fun _ _ _ => rfl) (fun _ _ _ h => h), fun la kt rd h => h.acc (f := 6) (q := 8) (.inr (.inr ⟨rfl, rfl⟩)) ha (fun g hg i hi => ?_) (up2_self _ _ _ _) (fun z => absurd z (by decide)) (fun g hg j => ?_)⟩
  · by_cases c : g = 6
    · subst c
      rw [up2_ne _ _ (fun w => hi ⟨rfl, w.2⟩), up2_k (by decide), up2_k (by decide), up2_k (by decide)]
    · rw [up2_k (by omega), up2_k (by omega), up2_k (by omega), up2_k (by omega)]
  · unfold xfd at hg
    rw [up2_k (by omega), up2_k (by omega), up2_k (by omega), up2_k (by omega)]
theorem gx_rate (hC : CD dm n cap tq) (hlo : LO n Lx cap) (hI : INV n tq t σ Lx ev zl tx mt tn tc) {a z : Nat} (ha : a < 4) (hz : z ≤ 40) (wd : Int32) : ∃ τ, GS D cs n t τ Lx w0 ad ad dm dm (cw D ad cs (up2 (up2 σ 7 a (nI z)) 8 a wd) Lx cap mk ev zl tx mt tn tc w0) ∧ ∀ la kt rd, LJ n t σ la Lx kt rd → LJ n t τ (up2 la 6 (4 + a) (nI z)) Lx kt rd := by
  refine ⟨_, GS.mk hC hlo (((hI.up 0).opt (.inr (.inr (.inl rfl))) a (nI z)).opt (.inr (.inr (.inr rfl))) a wd) ((((AG.id σ).upl n32 0 0).up 7 _ _).up 8 _ _) (fun _ _ _ => rfl) (fun _ _ _ h => h), fun la kt rd h => h.acc (f := 7) (q := 4) (.inr (.inl ⟨rfl, rfl⟩)) ha (fun g hg i hi => ?_) (by rw [up2_k (by decide), up2_self]) (fun _ => ⟨z, hz, rfl⟩) (fun g hg j => ?_)⟩
  · rw [up2_k (by omega)]
    by_cases c : g = 7
    · subst c
      rw [up2_ne _ _ (fun w => hi ⟨rfl, w.2⟩), up2_k (by decide)]
    · rw [up2_k (by omega), up2_k (by omega)]
  · unfold xfd at hg
    rw [up2_k (by omega), up2_k (by omega), up2_k (by omega)]
/-- nothing but messages' states, recipients' rooms and marks, lists changes -/
theorem LJ.k {Lx1 : Nat → List Nat} (h : LJ n t σ la Lx kt rd) (hk : ∀ f, f = 1 ∨ f = 6 ∨ f = 7 ∨ f = 12 ∨ f = 13 ∨ f = 17 ∨ f = 22 ∨ f = 28 ∨ f = 29 → ∀ i, τ f i = σ f i) (hX : XV n t (la 3) kt rd τ Lx1) : LJ n t τ la Lx1 kt rd := by
  obtain ⟨h1, h2, h3, h4, h5, h6, -⟩ := h
  exact ⟨h1, h2, h3, fun j hj => (h4 j hj).c (fun f hf => hk f (by omega) j) (fun _ _ => rfl), fun r hr => (h5 r hr).c ⟨hk 28 (by omega) r, hk 29 (by omega) r⟩ rfl, fun a ha => (h6 a ha).c (fun f hf => hk f (by omega) a) (fun f hf => hk f (by omega)) rfl rfl, hX⟩
/-- a recipient's row changes: mode, room, parts read -/
theorem LJ.rc {Lx1 : Nat → List Nat} {rd1 : Nat → Nat} {r q : Nat} {v : Int32} (h : LJ n t σ la Lx kt rd) (hq : q = 0 ∨ q = 6 ∨ q = 12) (hr : r < 6) (hk : ∀ f, f = 1 ∨ f = 6 ∨ f = 7 ∨ f = 12 ∨ f = 13 ∨ f = 17 ∨ f = 22 → ∀ i, τ f i = σ f i) (h28 : ∀ i, i < 6 → τ 28 i = if q = 0 ∧ i = r then v else σ 28 i) (h29 : ∀ i, i < 6 → τ 29 i = if q = 6 ∧ i = r then v else σ 29 i) (h12 : ∀ i, i < 6 → nI (rd1 i) = if q = 12 ∧ i = r then v else nI (rd i)) (hX : XV n t (la 3) kt rd1 τ Lx1) : LJ n t τ (up2 la 5 (q + r) v) Lx1 kt rd1 := by
  obtain ⟨h1, h2, h3, h4, h5, h6, -⟩ := h
  refine ⟨h1, by rw [up2_k (by decide)]; exact h2, by rw [up2_k (by decide)]; exact h3, fun j hj => (h4 j hj).c (fun f hf => hk f (by omega) j) (fun f hf => up2_K (by omega)), fun i hi => ?_, fun a ha => (h6 a ha).c (fun f hf => hk f (by omega) a) (fun f hf => hk f (by omega)) (up2_K (by decide)) (up2_K (by decide)), ?_⟩
  · obtain ⟨g1, g2, g3⟩ := h5 i hi
    have kl : ∀ y, y ≠ q + r → up2 la 5 (q + r) v 5 y = la 5 y := fun y hy => up2_ne _ _ (fun w => hy w.2)
    have ks : up2 la 5 (q + r) v 5 (q + r) = v := up2_self _ _ _ _
    unfold LR
    rw [h28 i hi, h29 i hi, h12 i hi]
    by_cases c : i = r
    · subst c
      rcases hq with rfl | rfl | rfl
      · rw [if_pos ⟨rfl, rfl⟩, if_neg (by omega), if_neg (by omega)]
        rw [Nat.zero_add] at ks kl ⊢
        exact ⟨ks, by rw [kl _ (by omega)]; exact g2, by rw [kl _ (by omega)]; exact g3⟩
      · rw [if_neg (by omega), if_pos ⟨rfl, rfl⟩, if_neg (by omega)]
        exact ⟨by rw [kl _ (by omega)]; exact g1, ks, by rw [kl _ (by omega)]; exact g3⟩
      · rw [if_neg (by omega), if_neg (by omega), if_pos ⟨rfl, rfl⟩]
        exact ⟨by rw [kl _ (by omega)]; exact g1, by rw [kl _ (by omega)]; exact g2, ks⟩
    · rw [if_neg (fun w => c w.2), if_neg (fun w => c w.2), if_neg (fun w => c w.2)]
      exact ⟨by rw [kl _ (by omega)]; exact g1, by rw [kl _ (by omega)]; exact g2, by rw [kl _ (by omega)]; exact g3⟩
  · rw [up2_K (show (3 : Nat) ≠ 5 by decide)]
    exact hX
theorem gx_del {w1 : CF} (hI : INV n tq t σ Lx ev zl tx mt tn tc) {j : Nat} (hj : j < n) (hw : σ 23 j = 0) (h : EXP D cs n tq ad dm (finT j 3 (σ, Lx, ev, zl)).1 (finT j 3 (σ, Lx, ev, zl)).2.1 (finT j 3 (σ, Lx, ev, zl)).2.2.1 (finT j 3 (σ, Lx, ev, zl)).2.2.2 tx mt tn tc w0 ad1 dm1 w1) : ∃ τ L1, GS D cs n t τ L1 w0 ad ad1 dm dm1 w1 ∧ (τ 23 j = 3) ∧ ∀ la kt rd, LJ n t σ la Lx kt rd → LJ n t τ la L1 kt rd := by
  obtain ⟨g, d, cp, mq, rfl, rfl, hC1, hlo1, rfl⟩ := h
  obtain ⟨i1, i2⟩ := sm_del hI hj hw 0
  refine ⟨_, _, GS.mk hC1 hlo1 i1 i2 (fun k i hk => r16_ne (by omega) i) (fun k i hk h => by rw [r16_ne (by omega)]; exact h), by rw [enS_23, if_pos rfl], fun la kt rd h => h.k (fun f hf i => by rw [enS_o (by omega), up2_k (by omega)]) ?_⟩
  have hX := XV.fin (s := (σ, Lx, ev, zl)) (e := 3) h.2.2.2.2.2.2 hj hw ⟨by decide, by decide⟩ (fun z => absurd z (by decide)) (hI.2.2.1.2.2.2.2 j hj).1.2
  exact XV.ag hX i2
theorem gx_mode (hC : CD dm n cap tq) (hlo : LO n Lx cap) (hI : INV n tq t σ Lx ev zl tx mt tn tc) {r u : Nat} (hr : r < 6) (hu : u < 4) : ∃ τ, GS D cs n t τ Lx w0 ad ad dm dm (cw D ad cs (if nI u = 0 then wkL (up2 σ 28 r (nI u)) r 1 (σ 0 0) (Lx (5 + r)) else (up2 σ 28 r (nI u))) Lx cap mk ev zl tx mt tn tc w0) ∧ ∀ la kt rd, LJ n t σ la Lx kt rd → LJ n t τ (up2 la 5 (0 + r) (nI u)) Lx kt rd := by
  have er : ix (nI r) = r := ix_nI (by omega)
  obtain ⟨i1, i2, -⟩ := sm_mode hI (rc_in hr) (u := nI u) ⟨nI_pos (by omega), fun q => absurd ((nI_ltE (show (3 : Int32) = nI 3 from rfl) (show nI u = nI u from rfl) (by decide) (by omega)).mp q) (by omega)⟩
  rw [er] at i1 i2
  have h0 : σ 0 0 = nI t := hI.2.2.1.2.1.2.2.2.1
  refine ⟨_, GS.mk hC hlo i1 i2 (fun _ _ _ => rfl) (fun _ _ _ h => h), fun la kt rd h => ?_⟩
  have kw : ∀ f, f ≠ 26 → f ≠ 31 → ∀ i, (if nI u = 0 then (wkS (up2 (up2 σ 32 0 0) 28 r (nI u)) r (nI r) 1 n) else (up2 (up2 σ 32 0 0) 28 r (nI u))) f i = up2 (up2 σ 32 0 0) 28 r (nI u) f i := fun f h1 h2 i => by
    split
    · exact wkS_o h1 h2 i
    · rfl
  refine h.rc (.inl rfl) hr (fun f hf i => by rw [kw f (by omega) (by omega), up2_k (by omega), up2_k (by omega)]) (fun i hi => ?_) (fun i hi => by rw [kw 29 (by decide) (by decide), up2_k (by decide), up2_k (by decide), if_neg (by omega)]) (fun i hi => by rw [if_neg (by omega)]) ?_
  · rw [kw 28 (by decide) (by decide)]
    by_cases c : i = r
    · rw [c, up2_self, if_pos ⟨rfl, rfl⟩]
    · rw [up2_ne _ _ (fun w => c w.2), up2_k (by decide), if_neg (fun w => c w.2)]
  · have hX := XV.mode h.2.2.2.2.2.2 hr (nI u) (Lx (5 + r))
    rw [← h0] at hX
    exact XV.ag hX i2
theorem gx_room (hC : CD dm n cap tq) (hlo : LO n Lx cap) (hI : INV n tq t σ Lx ev zl tx mt tn tc) {r u : Nat} (hr : r < 6) (hu : u ≤ 50) : ∃ τ, GS D cs n t τ Lx w0 ad ad dm dm (cw D ad cs (lkL (up2 σ 29 r (nI u)) r (Lx (5 + r))) Lx cap mk ev zl tx mt tn tc w0) ∧ ∀ la kt rd, LJ n t σ la Lx kt rd → LJ n t τ (up2 la 5 (6 + r) (nI u)) Lx kt rd := by
  have er : ix (nI r) = r := ix_nI (by omega)
  obtain ⟨i1, i2, -⟩ := sm_look hI (f := 29) (.inl rfl) (rc_in hr) (u := nI u) ⟨u, hu, rfl⟩
  rw [er] at i1 i2
  have h0 : σ 0 0 = nI t := hI.2.2.1.2.1.2.2.2.1
  refine ⟨_, GS.mk hC hlo i1 i2 (fun _ _ _ => rfl) (fun _ _ _ h => h), fun la kt rd h => ?_⟩
  refine h.rc (.inr (.inl rfl)) hr (fun f hf i => by rw [lkS_o (by omega) (by omega), up2_k (by omega), up2_k (by omega)]) (fun i hi => by rw [lkS_o (by decide) (by decide), up2_k (by decide), up2_k (by decide), if_neg (by omega)]) (fun i hi => ?_) (fun i hi => by rw [if_neg (by omega)]) ?_
  · rw [lkS_o (by decide) (by decide)]
    by_cases c : i = r
    · rw [c, up2_self, if_pos ⟨rfl, rfl⟩]
    · rw [up2_ne _ _ (fun w => c w.2), up2_k (by decide), if_neg (fun w => c w.2)]
  · exact XV.ag (XV.room h.2.2.2.2.2.2 h0 hr hu (Lx (5 + r))) i2
theorem gx_read (hC : CD dm n cap tq) (hlo : LO n Lx cap) (hI : INV n tq t σ Lx ev zl tx mt tn tc) {r y z : Nat} (hr : r < 6) (h30 : σ 30 r = nI y) (hy : y ≤ 50) (hz : z ≤ y) : ∃ τ, GS D cs n t τ Lx w0 ad ad dm dm (cw D ad cs (lkL (up2 σ 30 r (nI z)) r (Lx (5 + r))) Lx cap mk ev zl tx mt tn tc w0) ∧ ∀ la kt rd, LJ n t σ la Lx kt rd → LJ n t τ (up2 la 5 (12 + r) (la 5 (12 + r) + nI (y - z))) Lx kt (va_up rd r (rd r + (y - z))) := by
  have er : ix (nI r) = r := ix_nI (by omega)
  obtain ⟨i1, i2, -⟩ := sm_look hI (f := 30) (.inr rfl) (rc_in hr) (u := nI z) ⟨z, by omega, rfl⟩
  rw [er] at i1 i2
  have h0 : σ 0 0 = nI t := hI.2.2.1.2.1.2.2.2.1
  refine ⟨_, GS.mk hC hlo i1 i2 (fun _ _ _ => rfl) (fun _ _ _ h => h), fun la kt rd h => ?_⟩
  have e12 := (h.2.2.2.2.1 r hr).2.2
  refine h.rc (.inr (.inr rfl)) hr (fun f hf i => by rw [lkS_o (by omega) (by omega), up2_k (by omega), up2_k (by omega)]) (fun i hi => by rw [lkS_o (by decide) (by decide), up2_k (by decide), up2_k (by decide), if_neg (by omega)]) (fun i hi => by rw [lkS_o (by decide) (by decide), up2_k (by decide), up2_k (by decide), if_neg (by omega)]) (fun i hi => ?_) ?_
  · by_cases c : i = r
    · rw [c, va_up_self, if_pos ⟨rfl, rfl⟩, e12, nI_add]
    · rw [va_up_ne _ _ c, if_neg (fun w => c w.2)]
  · exact XV.ag (XV.read h.2.2.2.2.2.2 h0 hr h30 hy hz (Lx (5 + r))) i2
theorem gx_pass (hI : INV n tq t σ Lx ev zl tx mt tn tc) (ht : t < 900000) {k : Nat} (hk : k ≤ 100) {w1 : CF} (h : EXP D cs n tq ad dm (psT (fun j => nI (tn (mt j))) n (σ, Lx, ev, zl) k).1.1 (psT (fun j => nI (tn (mt j))) n (σ, Lx, ev, zl) k).1.2.1 (psT (fun j => nI (tn (mt j))) n (σ, Lx, ev, zl) k).1.2.2.1 (psT (fun j => nI (tn (mt j))) n (σ, Lx, ev, zl) k).1.2.2.2 tx mt tn tc w0 ad1 dm1 w1) : ∃ τ L1, GS D cs n (t + k) τ L1 w0 ad ad1 dm dm1 w1 ∧ ∀ la kt rd, LJ n t σ la Lx kt rd → LJ n (t + k) τ (up2 la 7 1 (la 7 1 + nI k)) L1 kt rd ∧ ∃ c, c ≤ 6 * k ∧ (psT (fun j => nI (tn (mt j))) n (σ, Lx, ev, zl) k).2.2 = nI c ∧ totd τ n = totd σ n + c := by
  obtain ⟨g, d, cp, mq, rfl, rfl, hC1, hlo1, rfl⟩ := h
  obtain ⟨i1, i2, i3, i4⟩ := sm_pass hI ht 0 hk
  refine ⟨_, _, GS.mk hC1 hlo1 i1 i2 (fun k i hk => r16_ne (by omega) i) (fun k i hk h => by rw [r16_ne (by omega)]; exact h), fun la kt rd h => ?_⟩
  have hp : ∀ j, j < n → (fun j => nI (tn (mt j))) j = nI (ptM σ j) := fun j hj => congrArg nI (hI.2.2.2.2 j hj).2.1
  obtain ⟨hX, c, c1, c2, c3⟩ := XV.ps (s := (σ, Lx, ev, zl)) h.2.2.2.2.2.2 hI.2.2.1 hI.1 hp k (by omega)
  have kf : ∀ f, (1 ≤ f ∧ f < 9) ∨ (11 ≤ f ∧ f ≤ 22) ∨ f = 28 ∨ f = 29 → ∀ i, psF (up2 σ 32 0 0) n k f i = σ f i := fun f hf i => by rw [psF_f (by omega), up2_k (by omega)]
  refine ⟨?_, c, c1, c2, ?_⟩
  · obtain ⟨h1, h2, h3, h4, h5, h6, -⟩ := h
    refine ⟨h1, by rw [up2_ne _ _ (fun w => absurd w.2 (by decide))]; exact h2, by rw [up2_self, h3, nI_add], fun j hj => (h4 j hj).c (fun f hf => kf f (by omega) j) (fun f hf => up2_K (by omega)), fun r hr => (h5 r hr).c ⟨kf 28 (by omega) r, kf 29 (by omega) r⟩ (up2_K (by decide)), fun a ha => (h6 a ha).c (fun f hf => kf f (by omega) a) (fun f hf => kf f (by omega)) (up2_K (by decide)) (up2_K (by decide)), ?_⟩
    rw [up2_K (show (3 : Nat) ≠ 7 by decide)]
    exact XV.ag hX i2
  · rw [← c3]
    exact totd_c (fun y _ => (i2 24 (cf (by omega)) y).symm)
theorem gx_take (hC : CD dm n cap tq) (hlo : LO n Lx cap) (hI : INV n tq t σ Lx ev zl tx mt tn tc) {a : Nat} (ha : a < 4) (hl : ¬ (Lx (1 + a)).length = 0) (m9 : Nat → Int32) : ∃ τ, GS D cs n t τ (va_up Lx (1 + a) ((Lx (1 + a)).eraseIdx 0)) w0 ad ad dm dm (cw D ad cs σ (va_up Lx (1 + a) ((Lx (1 + a)).eraseIdx 0)) cap m9 ev zl tx mt tn tc w0) ∧ ∀ la kt rd, LJ n t σ la Lx kt rd → LT n σ la → LJ n t τ (up2 la 6 (12 + a) (la 6 (12 + a) - 1)) (va_up Lx (1 + a) ((Lx (1 + a)).eraseIdx 0)) (va_up kt a (kt a + 1)) rd ∧ ∃ j e, (10 * (nI ((Lx (1 + a)).getD 0 0))) + (σ 23 ((Lx (1 + a)).getD 0 0)) = nI (10 * j + e) ∧ j < n ∧ 1 ≤ e ∧ e < 5 ∧ la 1 j = nI a ∧ la 4 j = 1 ∧ la 3 j = nI e := by
  obtain ⟨i1, i2, -, -⟩ := sm_take hI ha hl
  refine ⟨_, GS.mk hC (hlo.rm (1 + a) 0) i1 i2 (fun _ _ _ => rfl) (fun _ _ _ h => h), fun la kt rd h hT => ?_⟩
  have kf : ∀ f, f ≠ 9 → f ≠ 10 → f ≠ 32 → ∀ i, tkS (up2 σ 32 0 0) a (Lx (1 + a)).length f i = σ f i := fun f h1 h2 h3 i => by rw [tkS_o h1 h2, up2_k h3]
  have hmem : (Lx (1 + a)).getD 0 0 ∈ Lx (1 + a) := getD_mem9 (Nat.pos_of_ne_zero hl)
  obtain ⟨hrl, hrn⟩ := h.rec hT ha
  have hX := XV.take h.2.2.2.2.2.2 ha hl
  refine ⟨?_, ?_⟩
  · obtain ⟨h1, h2, h3, h4, h5, h6, -⟩ := h
    refine ⟨h1, by rw [up2_k (by decide)]; exact h2, by rw [up2_k (by decide)]; exact h3, fun j hj => (h4 j hj).c (fun f hf => kf f (by omega) (by omega) (by omega) j) (fun f hf => up2_K (by omega)), fun r hr => (h5 r hr).c ⟨kf 28 (by decide) (by decide) (by decide) r, kf 29 (by decide) (by decide) (by decide) r⟩ (up2_K (by decide)), fun y hy => ?_, ?_⟩
    · obtain ⟨a1, a2, a3, ⟨z, a4, a5⟩, x, a6, a7⟩ := h6 y hy
      have kl : ∀ i, i ≠ 12 + a → up2 la 6 (12 + a) (la 6 (12 + a) - 1) 6 i = la 6 i := fun i hi => up2_ne _ _ (fun w => hi w.2)
      have e3 : up2 la 6 (12 + a) (la 6 (12 + a) - 1) 3 = la 3 := up2_K (by decide)
      have hc : cnte (tkS (up2 σ 32 0 0) a (Lx (1 + a)).length) (la 3) y n = cnte σ (la 3) y n := cnte_c (fun k _ => ⟨kf 12 (by decide) (by decide) (by decide) k, kf 22 (by decide) (by decide) (by decide) k, rfl⟩)
      unfold LA
      rw [e3, hc]
      refine ⟨by rw [kl _ (by omega), kf 1 (by decide) (by decide) (by decide)]; exact a1, by rw [kl _ (by omega), kf 7 (by decide) (by decide) (by decide)]; exact a2, by rw [kl _ (by omega), kf 6 (by decide) (by decide) (by decide)]; exact a3, ⟨z, a4, by rw [kf 7 (by decide) (by decide) (by decide)]; exact a5⟩, ?_⟩
      by_cases c : y = a
      · subst c
        have ex : x = (Lx (1 + y)).length := (nI_eq (by have := cnte_le σ (la 3) y n; omega) (by omega)).mp (a6.symm.trans hrl)
        refine ⟨x - 1, ?_, by rw [va_up_self]; omega⟩
        rw [up2_self, a6]
        exact nI_m1 (by omega)
      · exact ⟨x, by rw [kl _ (by omega)]; exact a6, by rw [va_up_ne _ _ c]; exact a7⟩
    · rw [up2_K (show (3 : Nat) ≠ 6 by decide)]
      exact XV.ag hX i2
  · generalize (Lx (1 + a)).getD 0 0 = j at hmem ⊢
    obtain ⟨hj, hne⟩ := (hI.2.2.1.2.1.2.1 a ha).2.2.1 j hmem
    obtain ⟨e12, e22⟩ := (h.2.2.2.2.2.2.2.2 a ha).2 j hmem
    obtain ⟨⟨e, he, e23⟩, w22, -⟩ := h.2.2.2.2.2.2.1 j hj
    have hm := h.2.2.2.1 j hj
    have he0 : ¬ e = 0 := fun q => hne (by rw [e23, q]; rfl)
    refine ⟨j, e, ?_, hj, by omega, he, ?_, ?_, ?_⟩
    · rw [e23, show (10 : Int32) = nI 10 from rfl, pk_mul, nI_add]
    · rw [hm.1, (hI.2.2.1.2.2.2.2 j hj).1.1, e12]
    · rw [hm.2.2.2]
      exact w22.resolve_left e22
    · rw [(hT j hj).1, e23]
theorem knH_at {a b j : Nat} : ∀ {n : Nat}, knH σ a b n = some j → ix (σ 12 j) = a ∧ ix (σ 13 j) = b
  | 0, h => by cases h
  | n + 1, h => by
    rw [knH_s] at h
    by_cases c : knC σ a b n
    · rw [if_pos c] at h
      cases h
      exact c.1
    · rw [if_neg c] at h
      exact knH_at h
theorem knO_at {a b j : Nat} (h : knO σ a b n = some j) : ix (σ 12 j) = a ∧ ix (σ 13 j) = b := by
  unfold knO at h
  by_cases c : σ 5 a = (-1)
  · rw [if_pos c] at h
    cases h
  · rw [if_neg c] at h
    exact knH_at h
theorem dqT_o {j0 : Nat} {s : CSt} : ∀ k, (∀ f, f ≠ 23 → ∀ i, (dqT j0 s k).1.1 f i = s.1 f i) ∧ ∀ i, k ≤ i → (dqT j0 s k).1.1 23 i = s.1 23 i
  | 0 => ⟨fun _ _ _ => rfl, fun _ _ => rfl⟩
  | k + 1 => by
    obtain ⟨i2, i3⟩ := dqT_o (j0 := j0) (s := s) k
    unfold dqT
    split
    · exact ⟨fun f hf i => (up2_k hf i).trans (i2 f hf i), fun i hi => (up2_ne _ _ (fun z => absurd z.2 (by omega))).trans (i3 i (by omega))⟩
    · exact ⟨i2, fun i hi => i3 i (by omega)⟩
theorem dqA_o {j0 : Nat} {s : CSt} : (∀ f, f ≠ 23 → ∀ i, (dqA j0 s).1.1 f i = s.1 f i) ∧ ∀ i, j0 ≤ i → (dqA j0 s).1.1 23 i = s.1 23 i := by
  unfold dqA
  split
  · exact ⟨fun _ _ _ => rfl, fun _ _ => rfl⟩
  · exact dqT_o j0
theorem bi_01 {v : Int32} (h : v = bi (v = 1)) : v = 0 ∨ v = 1 := by
  by_cases c : v = 1
  · exact .inr c
  · rw [bi_f c] at h
    exact .inl h
set_option maxHeartbeats 2000000 in
theorem gx_new {w1 : CF} (hI : INV n tq t σ Lx ev zl tx mt tn tc) (ht : t < 900000) (hn : n ≤ 22) {a b : Nat} (ha : a < 4) (hb : b < 6) {pr u : Int32} (hv : u = nI (ix u) ∧ 1 ≤ ix u ∧ ix u ≤ 500) {q17 q18 q19 q20 : Nat} (h : EXP D cs (n + 1) tq (up2 (up2 (up2 (up2 ad 17 n q17) 18 n q18) 19 n q19) 20 n q20) (fun a b => (fun a b => (fun a b => (fun a b => dm a b ∨ (a = 17 ∧ b = n)) a b ∨ (a = 18 ∧ b = n)) a b ∨ (a = 19 ∧ b = n)) a b ∨ (a = 20 ∧ b = n)) (dqA n (nwS σ σ a n (nI a) (nI b) pr u, sbL Lx b n, va_up ev n (fun _ => 0), va_up zl n 1)).1.1 (dqA n (nwS σ σ a n (nI a) (nI b) pr u, sbL Lx b n, va_up ev n (fun _ => 0), va_up zl n 1)).1.2.1 (dqA n (nwS σ σ a n (nI a) (nI b) pr u, sbL Lx b n, va_up ev n (fun _ => 0), va_up zl n 1)).1.2.2.1 (dqA n (nwS σ σ a n (nI a) (nI b) pr u, sbL Lx b n, va_up ev n (fun _ => 0), va_up zl n 1)).1.2.2.2 tx (va_up mt n (tx a)) tn tc w0 ad1 dm1 w1) : ∃ τ L1, GS D cs (n + 1) t τ L1 w0 ad ad1 dm dm1 w1 ∧ (τ 23 n = 0 ∧ τ 26 n = nI t ∧ τ 25 n = 0) ∧ ∀ la kt rd v7, v7 = nI (n + 1) → LJ n t σ la Lx kt rd → LJ (n + 1) t τ (up2 (up2 (up2 (up2 (up2 (up2 (up2 la 1 n (nI a)) 1 (24 + n) (nI b)) 2 n (la 6 a)) 3 n 0) 3 (24 + n) 0) 4 n (la 6 (8 + a))) 7 0 v7) L1 kt rd := by
  obtain ⟨g, d, cp, mq, rfl, rfl, hC1, hlo1, rfl⟩ := h
  obtain ⟨-, i2, i1⟩ := sub_new hI (show t < 2000000 by omega) (show n < 40 by omega) ha hb (rank := pr) hv 0
  have hz := hI.2.2.1.2.1.2.2.1 n (Nat.le_refl _)
  have h0 : σ 0 0 = nI t := hI.2.2.1.2.1.2.2.2.1
  have hmm : ∀ j, j < n → okM σ j := hI.2.2.1.2.2.2.2
  generalize hS : (nwS σ σ a n (nI a) (nI b) pr u, sbL Lx b n, va_up ev n (fun _ => (0 : Int32)), va_up zl n 1) = s0 at *
  have es1 : s0.1 = nwS σ σ a n (nI a) (nI b) pr u := by rw [← hS]
  have es2 : s0.2.1 = sbL Lx b n := by rw [← hS]
  obtain ⟨n12, n13, n14, n15, n16, n26, n17, n18, n19, n20, n21, n22, n11⟩ := @nwS_n (up2 σ 32 0 0) σ a n (nI a) (nI b) pr u
  generalize hτ : dlG (nwS (up2 σ 32 0 0) σ a n (nI a) (nI b) pr u) a (nI a) (nI b) n = τ at *
  have kd : ∀ f, f ≠ 23 ∧ f ≠ 10 ∧ f ≠ 9 → ∀ i, τ f i = nwS (up2 σ 32 0 0) σ a n (nI a) (nI b) pr u f i := fun f hf i => by
    rw [← hτ]
    unfold dlG
    split
    · rfl
    · exact dlF_o hf i n
  have ko : ∀ f, f ≠ 11 → f ≠ 23 ∧ f ≠ 10 ∧ f ≠ 9 → f ≠ 32 → ∀ i, i ≠ n → τ f i = σ f i := fun f h1 h2 h3 i hi => by rw [kd f h2, nwS_o h1 hi, up2_k h3]
  have kf : ∀ f, ¬ (f = 11 ∨ (12 ≤ f ∧ f ≤ 22) ∨ f = 26) → f ≠ 23 ∧ f ≠ 10 ∧ f ≠ 9 → f ≠ 32 → ∀ i, τ f i = σ f i := fun f h1 h2 h3 i => by rw [kd f h2, nwS_f h1, up2_k h3]
  have h12 : ∀ j, j < n + 1 → ix (s0.1 12 j) < 4 := fun j hj => by
    rw [es1]
    by_cases c : j = n
    · rw [c, (@nwS_n σ σ a n (nI a) (nI b) pr u).1, ix_nI (by omega)]
      exact ha
    · rw [nwS_o (by decide) c]
      exact (hmm j (by omega)).1.2
  have t23 : τ 23 n = (dqA n s0).1.1 23 n := (i2 23 (cf (by omega)) n).symm
  refine ⟨τ, (dqA n s0).1.2.1, GS.mk hC1 hlo1 i1 i2 (fun k i hk => by rw [r16_ne (by omega), up2_k (by omega), up2_k (by omega), up2_k (by omega), up2_k (by omega)]) (fun k i hk h => by rw [r16_ne (by omega)]; exact .inl (.inl (.inl (.inl h)))), ?_, fun la kt rd v7 hv7 h => ?_⟩
  · refine ⟨?_, by rw [kd 26 (by decide), n26, h0], by rw [kf 25 (by omega) (by decide) (by decide)]; exact hz.2.2.1⟩
    rw [t23, dqA_o.2 n (Nat.le_refl _), es1, nwS_f (by omega)]
    exact hz.1
  · obtain ⟨h1, h2, h3, h4, h5, h6, h7⟩ := h
    generalize hL : up2 (up2 (up2 (up2 (up2 (up2 (up2 la 1 n (nI a)) 1 (24 + n) (nI b)) 2 n (la 6 a)) 3 n 0) 3 (24 + n) 0) 4 n (la 6 (8 + a))) 7 0 v7 = lb
    have l1 : ∀ i, i ≠ n → i ≠ 24 + n → lb 1 i = la 1 i := fun i q1 q2 => by rw [← hL, up2_k (by decide), up2_k (by decide), up2_k (by decide), up2_k (by decide), up2_k (by decide), up2_ne _ _ (fun z => q2 z.2), up2_ne _ _ (fun z => q1 z.2)]
    have l1n : lb 1 n = nI a := by rw [← hL, up2_k (by decide), up2_k (by decide), up2_k (by decide), up2_k (by decide), up2_k (by decide), up2_ne _ _ (fun z => absurd z.2 (by omega)), up2_self]
    have l1r : lb 1 (24 + n) = nI b := by rw [← hL, up2_k (by decide), up2_k (by decide), up2_k (by decide), up2_k (by decide), up2_k (by decide), up2_self]
    have l2 : ∀ i, i ≠ n → lb 2 i = la 2 i := fun i q1 => by rw [← hL, up2_k (by decide), up2_k (by decide), up2_k (by decide), up2_k (by decide), up2_ne _ _ (fun z => q1 z.2), up2_k (by decide), up2_k (by decide)]
    have l2n : lb 2 n = la 6 a := by rw [← hL, up2_k (by decide), up2_k (by decide), up2_k (by decide), up2_k (by decide), up2_self]
    have l3 : ∀ i, i ≠ n → i ≠ 24 + n → lb 3 i = la 3 i := fun i q1 q2 => by rw [← hL, up2_k (by decide), up2_k (by decide), up2_ne _ _ (fun z => q2 z.2), up2_ne _ _ (fun z => q1 z.2), up2_k (by decide), up2_k (by decide), up2_k (by decide)]
    have l3n : lb 3 n = 0 := by rw [← hL, up2_k (by decide), up2_k (by decide), up2_ne _ _ (fun z => absurd z.2 (by omega)), up2_self]
    have l3d : lb 3 (24 + n) = 0 := by rw [← hL, up2_k (by decide), up2_k (by decide), up2_self]
    have l4 : ∀ i, i ≠ n → lb 4 i = la 4 i := fun i q1 => by rw [← hL, up2_k (by decide), up2_ne _ _ (fun z => q1 z.2), up2_k (by decide), up2_k (by decide), up2_k (by decide), up2_k (by decide), up2_k (by decide)]
    have l4n : lb 4 n = la 6 (8 + a) := by rw [← hL, up2_k (by decide), up2_self]
    have l5 : lb 5 = la 5 := by rw [← hL, up2_K (by decide), up2_K (by decide), up2_K (by decide), up2_K (by decide), up2_K (by decide), up2_K (by decide), up2_K (by decide)]
    have l6 : lb 6 = la 6 := by rw [← hL, up2_K (by decide), up2_K (by decide), up2_K (by decide), up2_K (by decide), up2_K (by decide), up2_K (by decide), up2_K (by decide)]
    have l70 : lb 7 0 = v7 := by rw [← hL, up2_self]
    have l71 : lb 7 1 = la 7 1 := by rw [← hL, up2_ne _ _ (fun z => absurd z.2 (by decide)), up2_k (by decide), up2_k (by decide), up2_k (by decide), up2_k (by decide), up2_k (by decide), up2_k (by decide)]
    obtain ⟨b1, b2, b3, -, -⟩ := h6 a ha
    have hX0 := XV.new (U := lb 3) h7 (by omega) ⟨hz.1, hz.2.1, hz.2.2.1⟩ h0 (a := a) (b := b) (bi_01 ((hI.2.2.2.1 a ha).1.2.1)) (fun j hj => ⟨l3 j (by omega) (by omega), l3 (24 + j) (by omega) (by omega)⟩) ⟨l3n, l3d⟩ (fun y hy j hj => ((hI.2.2.1.2.1.2.1 y hy).2.2.1 j hj).1) (nI a) (nI b) pr u
    have hX1 := (XV.dA (s := s0) (n := n + 1) (j0 := n) (by rw [es1, es2]; exact hX0) (by omega) h12).1
    refine ⟨by omega, l70.trans hv7, l71.trans h3, fun j hj => ?_, fun r hr => (h5 r hr).c ⟨kf 28 (by omega) (by decide) (by decide) r, kf 29 (by omega) (by decide) (by decide) r⟩ l5, fun y hy => ?_, hX1.ag i2⟩
    · by_cases c : j = n
      · subst c
        refine ⟨?_, ?_, ?_, ?_⟩
        · rw [l1n, kd 12 (by decide), n12]
        · rw [l1r, kd 13 (by decide), n13]
        · rw [l2n, kd 17 (by decide), n17, b1]
        · rw [l4n, kd 22 (by decide), n22, b3]
      · obtain ⟨c1, c2, c3, c4⟩ := h4 j (by omega)
        refine ⟨?_, ?_, ?_, ?_⟩
        · rw [l1 _ c (by omega), ko 12 (by decide) (by decide) (by decide) j c]; exact c1
        · rw [l1 _ (by omega) (by omega), ko 13 (by decide) (by decide) (by decide) j c]; exact c2
        · rw [l2 _ c, ko 17 (by decide) (by decide) (by decide) j c]; exact c3
        · rw [l4 _ c, ko 22 (by decide) (by decide) (by decide) j c]; exact c4
    · obtain ⟨c1, c2, c3, c4, x, c5, c6⟩ := h6 y hy
      unfold LA
      rw [l6, kf 1 (by omega) (by decide) (by decide), kf 7 (by omega) (by decide) (by decide), kf 6 (by omega) (by decide) (by decide)]
      refine ⟨c1, c2, c3, c4, x, c5, ?_⟩
      unfold cnte
      rw [if_neg (fun q => q.2.2 l3n), c6]
      exact (cnte_c (fun k hk => ⟨ko 12 (by decide) (by decide) (by decide) k (by omega), ko 22 (by decide) (by decide) (by decide) k (by omega), l3 k (by omega) (by omega)⟩)).symm
end GX
