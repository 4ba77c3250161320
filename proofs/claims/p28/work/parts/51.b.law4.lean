/-! what holds at the law's loop head; what a call leaves -/
def LI (D : va_G) (cs : Nat → ClassId) (x0 xm xo t : Nat) (σ : SG) (ad : Nat → Nat → Nat) (dm : Nat → Nat → Prop) (w : CF) : Prop := ∃ (n tq : Nat) (Lx : Nat → List Nat) (cap : Nat → Nat) (mk : Nat → Int32) (ev : SG) (zl tx mt tn : Nat → Nat) (tc : SG) (w0 : CF) (f9 : Nat → Int64), CD dm n cap tq ∧ LO n Lx cap ∧ MD dm ∧ dm 2 0 ∧ (ad 10 0 = x0 ∧ ad 0 0 = xm ∧ ad 2 0 = xo) ∧ INV n tq t σ Lx ev zl tx mt tn tc ∧ w0 2 0 = .inl (cs 2, 1, .inr (.inl f9)) ∧ w = mw ad cs σ (cw D ad cs σ Lx cap mk ev zl tx mt tn tc w0)
def NX (D : va_G) (cs : Nat → ClassId) (x0 xm xo t : Nat) (σ τ : SG) (b : Int32) (P : Prop) (rz : Option Value) (ad : Nat → Nat → Nat) (dm : Nat → Nat → Prop) (w : CF) : Prop := ∃ (n tq : Nat) (Lx : Nat → List Nat) (cap : Nat → Nat) (mk : Nat → Int32) (ev : SG) (zl tx mt tn : Nat → Nat) (tc : SG) (w0 : CF) (f9 : Nat → Int64), CD dm n cap tq ∧ LO n Lx cap ∧ MD dm ∧ dm 2 0 ∧ (ad 10 0 = x0 ∧ ad 0 0 = xm ∧ ad 2 0 = xo) ∧ INV n tq t τ Lx ev zl tx mt tn tc ∧ w0 2 0 = .inl (cs 2, 1, .inr (.inl f9)) ∧ w = mw ad cs σ (cw D ad cs τ Lx cap mk ev zl tx mt tn tc w0) ∧ rz = some (.int (τ 32 0)) ∧ (P → τ 32 0 = 0 → f9 0 = b.toInt64)
/-- the cells that matter -/
def rs9 (dm : Nat → Nat → Prop) (n tq : Nat) : Nat → Nat → Prop := fun k i => dm k i ∧ (k < 10 ∨ dmC n tq k i)
theorem n32 : ¬ cfd 32 := by unfold cfd; omega
theorem rs9_CD {dm : Nat → Nat → Prop} {n tq : Nat} {cap : Nat → Nat} (h : CD dm n cap tq) : CD (rs9 dm n tq) n cap tq := by
  obtain ⟨h0, h1, h2, h3, h4, h5, h6, h7, h8⟩ := h
  refine ⟨⟨h0, .inr ?_⟩, ⟨h1, .inr ?_⟩, ⟨h2, .inr ?_⟩, fun i q => ⟨h3 i q, .inr ?_⟩, fun i q => ⟨h4 i q, .inr ?_⟩, fun i q => ⟨h5 i q, .inr ?_⟩, fun i q z => ⟨h6 i q z, .inr ?_⟩, fun j q => ⟨⟨(h7 j q).1, .inr ?_⟩, ⟨(h7 j q).2.1, .inr ?_⟩, ⟨(h7 j q).2.2.1, .inr ?_⟩, ⟨(h7 j q).2.2.2, .inr ?_⟩⟩, fun z q => ⟨h8 z q, .inr ?_⟩⟩ <;> unfold dmC <;> omega
theorem rs9_UB (dm : Nat → Nat → Prop) (n tq : Nat) : UB (rs9 dm n tq) n tq := fun _ _ q => q.2
theorem rs9_MD {dm : Nat → Nat → Prop} (h : MD dm) (n tq : Nat) : MD (rs9 dm n tq) := ⟨⟨h.1, .inl (by decide)⟩, fun f hf => ⟨h.2 f hf, .inl (by decide)⟩⟩
section NX9
variable {D : va_G} {cs : Nat → ClassId} {ad ad1 : Nat → Nat → Nat} {dm dm1 : Nat → Nat → Prop} {σ σ1 τ : SG} {Lx : Nat → List Nat} {cap : Nat → Nat} {mk : Nat → Int32} {ev : SG} {zl tx mt tn : Nat → Nat} {tc : SG} {w0 : CF} {n tq t : Nat} {f9 : Nat → Int64}
theorem NX.good {P : Prop} {v b : Int32} (hC : CD dm1 n cap tq) (hlo : LO n Lx cap) (hM : MD dm1) (h2 : dm1 2 0) (had : ∀ k i, k ≤ 10 → ad1 k i = ad k i) (hI : INV n tq t τ Lx ev zl tx mt tn tc) (hag : AG τ σ1) (h0 : τ 32 0 = 0) (hv : v = b) : NX D cs (ad 10 0) (ad 0 0) (ad 2 0) t σ τ b P (some (.int 0)) ad1 dm1 (up2 (cw D ad1 cs σ1 Lx cap mk ev zl tx mt tn tc (mw ad cs σ w0)) 2 0 (.inl (cs 2, 1, .inr (.inl (vp_updL f9 0 v.toInt64))))) := by
  refine ⟨n, tq, Lx, cap, mk, ev, zl, tx, mt, tn, tc, up2 w0 2 0 (.inl (cs 2, 1, .inr (.inl (vp_updL f9 0 v.toInt64)))), vp_updL f9 0 v.toInt64, hC, hlo, hM, h2, ⟨had 10 0 (by decide), had 0 0 (by decide), had 2 0 (by decide)⟩, hI, up2_self _ _ _ _, ?_, by rw [h0], fun _ _ => ?_⟩
  · rw [AG_cw hag, mw_cw D ad ad1 cs σ τ Lx cap mk ev zl tx mt tn tc w0 (fun f => had 1 f (by decide)), mw_up ad1 cs σ _ (by decide), cw_u9 D ad1 cs τ Lx cap mk ev zl tx mt tn tc w0 (by decide)]
  · rw [hv]; unfold vp_updL; rfl
theorem NX.good0 {b : Int32} (hC : CD dm1 n cap tq) (hlo : LO n Lx cap) (hM : MD dm1) (h2 : dm1 2 0) (had : ∀ k i, k ≤ 10 → ad1 k i = ad k i) (hI : INV n tq t τ Lx ev zl tx mt tn tc) (hag : AG τ σ1) (h0 : τ 32 0 = 0) (he : w0 2 0 = .inl (cs 2, 1, .inr (.inl f9))) : NX D cs (ad 10 0) (ad 0 0) (ad 2 0) t σ τ b False (some (.int 0)) ad1 dm1 (cw D ad1 cs σ1 Lx cap mk ev zl tx mt tn tc (mw ad cs σ w0)) := by
  refine ⟨n, tq, Lx, cap, mk, ev, zl, tx, mt, tn, tc, w0, f9, hC, hlo, hM, h2, ⟨had 10 0 (by decide), had 0 0 (by decide), had 2 0 (by decide)⟩, hI, he, ?_, by rw [h0], fun q => q.elim⟩
  rw [AG_cw hag, mw_cw D ad ad1 cs σ τ Lx cap mk ev zl tx mt tn tc w0 (fun f => had 1 f (by decide))]
theorem NX.thr {P : Prop} {k b : Int32} (hC : CD dm n cap tq) (hlo : LO n Lx cap) (hM : MD dm) (h2 : dm 2 0) (hI : INV n tq t σ Lx ev zl tx mt tn tc) (he : w0 2 0 = .inl (cs 2, 1, .inr (.inl f9))) (hk : ¬ k = 0) : NX D cs (ad 10 0) (ad 0 0) (ad 2 0) t σ (up2 σ 32 0 k) b P (some (.int k)) ad dm (cw D ad cs σ Lx cap mk ev zl tx mt tn tc (mw ad cs σ w0)) := by
  refine ⟨n, tq, Lx, cap, mk, ev, zl, tx, mt, tn, tc, w0, f9, hC, hlo, hM, h2, ⟨rfl, rfl, rfl⟩, hI.up k, he, ?_, by rw [up2_self], fun _ q => absurd q (by rw [up2_self]; exact hk)⟩
  rw [AG_cw (((AG.id σ).upl n32 0 k) : AG (up2 σ 32 0 k) σ), mw_cw D ad ad cs σ _ Lx cap mk ev zl tx mt tn tc w0 (fun _ => rfl)]
end NX9
section SM9
variable {n tq t : Nat} {σ : SG} {Lx : Nat → List Nat} {ev : SG} {zl tx mt tn : Nat → Nat} {tc : SG}
theorem INV.lv32 (h : INV n tq t σ Lx ev zl tx mt tn tc) (x : Int32) : LV n t (up2 σ 32 0 x) (σ, Lx, ev, zl) := by
  have k : ∀ f, f ≠ 32 → ∀ i, up2 σ 32 0 x f i = σ f i := fun f hf i => up2_k hf i
  exact h.2.2.1.c (fun f hf i => k f (by omega) i) ((AG.id σ).upl n32 0 x) rfl (fun r hr => okR_c (fun f hf => k f (by omega) r) (h.2.2.1.2.2.2.1 r hr)) (fun j _ => by rw [k 16 (by decide)])
/-- back to the reference's own state -/
theorem INV.of {B : Nat → Nat} {τ : SG} {s1 : CSt} (h : INV n tq t σ Lx ev zl tx mt tn tc) {t1 : Nat} (hr : RLr n t1 B τ s1) (hB : ∀ j, j < n → t1 - ix (τ 16 j) = B j) (hk : ∀ f, (1 ≤ f ∧ f ≤ 3) ∨ f = 6 ∨ f = 11 ∨ (17 ≤ f ∧ f ≤ 19) → ∀ i, τ f i = σ f i) : INV n tq t1 τ s1.2.1 s1.2.2.1 s1.2.2.2 tx mt tn tc :=
  ⟨h.1, by rw [hk 11 (by omega)]; exact h.2.1, hr.c (s2 := (τ, s1.2.1, s1.2.2.1, s1.2.2.2)) (fun _ _ _ => rfl) (AG.id τ) rfl hr.2.2.2.1 hB, h.2.2.2.c (fun f hf i => hk f (by omega) i)⟩
theorem sm_log (h : INV n tq t σ Lx ev zl tx mt tn tc) {j : Nat} (hj : j < n) : (if lgA (ev j) (zl j) < nI (tn (mt j)) then lgT (ev j) (zl j) else 1) = σ 23 j := by
  obtain ⟨g1, g2, ⟨d, d1, d2, d3⟩, -⟩ := h.2.2.1.2.2.1 j hj
  have hp := ptM_le (h.2.2.1.2.2.2.2 j hj).2.2.1
  have e1 : lgA (ev j) (zl j) = nI d := by rw [← d1]; exact g1
  have e2 : lgT (ev j) (zl j) = (if σ 23 j = 1 then 0 else σ 23 j) := g2
  rw [e1, e2, (h.2.2.2.2 j hj).2.1]
  have hl : nI d < nI (ptM σ j) ↔ d < ptM σ j := nI_ltI (by omega) (by omega)
  by_cases c : σ 23 j = 1
  · have hd : d = ptM σ j := d3.mp c
    rw [if_neg (fun q => absurd (hl.mp q) (by omega)), c]
  · have hd : d ≠ ptM σ j := fun q => c (d3.mpr q)
    rw [if_pos (hl.mpr (by omega)), if_neg c]
theorem sm_del (h : INV n tq t σ Lx ev zl tx mt tn tc) {j : Nat} (hj : j < n) (hw : σ 23 j = 0) (x : Int32) : INV n tq t (enS (up2 σ 32 0 x) j (nI j) 3) (finT j 3 (σ, Lx, ev, zl)).2.1 (finT j 3 (σ, Lx, ev, zl)).2.2.1 (finT j 3 (σ, Lx, ev, zl)).2.2.2 tx mt tn tc ∧ AG (enS (up2 σ 32 0 x) j (nI j) 3) (finT j 3 (σ, Lx, ev, zl)).1 := by
  have h1 := RLr.fin (h.lv32 x) h.1 hj (by rw [up2_k (by decide)]; exact hw) (how := 3) (.inr (.inl rfl))
  have k : ∀ f, f ≠ 23 ∧ f ≠ 10 ∧ f ≠ 9 ∧ f ≠ 32 → ∀ i, enS (up2 σ 32 0 x) j (nI j) 3 f i = σ f i := fun f hf i => by rw [enS_o ⟨hf.1, hf.2.1, hf.2.2.1⟩, up2_k hf.2.2.2]
  exact ⟨h.of h1 (fun i _ => by rw [k 16 (by omega), up2_k (by decide)]) (fun f hf i => k f (by omega) i), h1.1⟩
theorem en_dl {τ : SG} (hn : n ≤ 40) (h : ∃ L, IC n τ L) (hm : ∀ j, j < n → okM τ j) (a : Nat) (v to : Int32) : ∀ k, k ≤ n → (∃ L, IC n (dlF τ a v to k) L) ∧ ∀ j, j < n → okM (dlF τ a v to k) j
  | 0, _ => ⟨h, hm⟩
  | k + 1, hk => by
    obtain ⟨⟨L, i1⟩, i2⟩ := en_dl hn h hm a v to k (by omega)
    unfold dlF
    by_cases c : dlP (dlF τ a v to k) a v to k
    · rw [if_pos c]
      exact ⟨⟨_, i1.fin hn (i2 k (by omega)) (by omega) c.1 (by decide)⟩, fun j hj => okM_c (fun f hf => enS_o (by omega) j) (i2 j hj)⟩
    · rw [if_neg c]
      exact ⟨⟨L, i1⟩, i2⟩
theorem sm_dl (h : INV n tq t σ Lx ev zl tx mt tn tc) (x : Int32) (a : Nat) (v to rank ticks : Int32) : ∀ k, k < n → dlP (dlG (nwS (up2 σ 32 0 x) σ a n v to rank ticks) a v to k) a v to k → enOK (dlG (nwS (up2 σ 32 0 x) σ a n v to rank ticks) a v to k) k := by
  have h1 : ∃ L, IC n (nwS (up2 σ 32 0 x) σ a n v to rank ticks) L := ⟨Lx, fun y hy => by
    obtain ⟨q1, q2, q3, q4⟩ := h.2.2.1.2.1.2.1 y hy
    have k : ∀ f, f = 9 ∨ f = 10 ∨ f = 23 → ∀ i, nwS (up2 σ 32 0 x) σ a n v to rank ticks f i = σ f i := fun f hf i => by rw [nwS_f (by omega), up2_k (by omega)]
    exact ⟨by rw [k 9 (by omega)]; exact q1, q2, fun j hj => ⟨(q3 j hj).1, by rw [k 23 (by omega)]; exact (q3 j hj).2⟩, fun z hz => by rw [k 10 (by omega), k 23 (by omega)]; exact q4 z hz⟩⟩
  have h2 : ∀ j, j < n → okM (nwS (up2 σ 32 0 x) σ a n v to rank ticks) j := fun j hj => okM_c (fun f hf => by rw [nwS_o (by omega) (by omega), up2_k (by omega)]) (h.2.2.1.2.2.2.2 j hj)
  generalize nwS (up2 σ 32 0 x) σ a n v to rank ticks = τ at h1 h2 ⊢
  intro k hk c
  by_cases e : τ 4 a = 0
  · have g : dlG τ a v to k = τ := if_pos e
    rw [g] at c ⊢
    exact (IC.en h1.choose_spec h.1 (h2 k hk) hk c.1).1
  · have g : dlG τ a v to k = dlF τ a v to k := if_neg e
    rw [g] at c ⊢
    obtain ⟨⟨L, i1⟩, i2⟩ := en_dl h.1 h1 h2 a v to k (by omega)
    exact (i1.en h.1 (i2 k hk) hk c.1).1
end SM9

