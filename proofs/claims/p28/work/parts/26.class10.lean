/-- the cells that may be there, of kinds 10 and on -/
def dmC (n tq : Nat) (k i : Nat) : Prop := (k = 10 ∧ i = 0) ∨ (k = 11 ∧ i = 0) ∨ (k = 12 ∧ i = 0) ∨ (k = 13 ∧ i < 4) ∨ (k = 14 ∧ i < 6) ∨ (k = 15 ∧ i < 11) ∨ (k = 16 ∧ i < 11) ∨ (k = 17 ∧ i < n) ∨ (k = 18 ∧ i < n) ∨ (k = 19 ∧ i < n) ∨ (k = 20 ∧ i < n) ∨ (k = 21 ∧ i < tq)
theorem dmC.mono {n n2 tq tq2 : Nat} (h1 : n ≤ n2) (h2 : tq ≤ tq2) {k i : Nat} : dmC n tq k i → dmC n2 tq2 k i :=
  Or.imp id (Or.imp id (Or.imp id (Or.imp id (Or.imp id (Or.imp id (Or.imp id (Or.imp (fun z => ⟨z.1, Nat.lt_of_lt_of_le z.2 h1⟩) (Or.imp (fun z => ⟨z.1, Nat.lt_of_lt_of_le z.2 h1⟩) (Or.imp (fun z => ⟨z.1, Nat.lt_of_lt_of_le z.2 h1⟩) (Or.imp (fun z => ⟨z.1, Nat.lt_of_lt_of_le z.2 h1⟩) (fun z => ⟨z.1, Nat.lt_of_lt_of_le z.2 h2⟩)))))))))))
def UB (dm : Nat → Nat → Prop) (n tq : Nat) : Prop := ∀ k i, dm k i → k < 10 ∨ dmC n tq k i
theorem UB.no22 {dm : Nat → Nat → Prop} {n tq : Nat} (h : UB dm n tq) (i : Nat) : ¬ dm 22 i := by
  intro q
  rcases h 22 i q with z | z
  · exact absurd z (by decide)
  · rcases z with z | z | z | z | z | z | z | z | z | z | z | z <;> exact absurd z.1 (by decide)
theorem UB.no21 {dm : Nat → Nat → Prop} {n tq : Nat} (h : UB dm n tq) : ¬ dm 21 tq := by
  intro q
  rcases h 21 tq q with z | z
  · exact absurd z (by decide)
  · rcases z with z | z | z | z | z | z | z | z | z | z | z | z <;> first | exact absurd z.1 (by decide) | exact absurd z.2 (Nat.lt_irrefl _)
theorem UB.non {dm : Nat → Nat → Prop} {n tq : Nat} (h : UB dm n tq) {k : Nat} (hk : 17 ≤ k ∧ k ≤ 20) : ¬ dm k n := by
  intro q
  rcases h k n q with z | z
  · omega
  · rcases z with z | z | z | z | z | z | z | z | z | z | z | z <;> omega
theorem cw_lo {D : va_G} {ad : Nat → Nat → Nat} {cs : Nat → ClassId} {σ : SG} {Lx : Nat → List Nat} {cap : Nat → Nat} {mk : Nat → Int32} {ev : SG} {zl tx mt tn : Nat → Nat} {tc : SG} {w0 : CF} {k : Nat} (h : k < 10) (i : Nat) : cw D ad cs σ Lx cap mk ev zl tx mt tn tc w0 k i = w0 k i := by
  unfold cw
  rw [if_neg (by omega), if_neg (by omega), if_neg (by omega), if_neg (by omega), if_neg (by omega), if_neg (by omega), if_neg (by omega), if_neg (by omega), if_neg (by omega), if_neg (by omega), if_neg (by omega), if_neg (by omega)]
theorem up2_k {α : Type} {f : Nat → Nat → α} {k i : Nat} {v : α} {a : Nat} (h : a ≠ k) (b : Nat) : up2 f k i v a b = f a b := up2_ne _ _ (fun q => h q.1)
/-- a new text, and an account that has it -/
theorem dr_w {D : va_G} {dm : Nat → Nat → Prop} {ad : Nat → Nat → Nat} {cs : Nat → ClassId} {σ : SG} {Lx : Nat → List Nat} {cap : Nat → Nat} {mk : Nat → Int32} {ev : SG} {zl tx mt tn : Nat → Nat} {tc : SG} {w0 : CF} {n tq a q N : Nat} {f : Nat → Int32} (hub : UB dm n tq) (htx : ∀ i, i < 4 → tx i < tq) (hmt : ∀ j, j < n → mt j < tq) : ∀ k i, (dm k i ∨ (k = 21 ∧ i = tq)) → cw D (up2 ad 21 tq q) cs σ Lx cap mk ev zl (va_up tx a tq) mt (va_up tn tq N) (va_up tc tq f) w0 k i = up2 (up2 (cw D ad cs σ Lx cap mk ev zl tx mt tn tc w0) 21 tq (.inl (cs 0, N, .inl f))) 13 a (.inr (1, (cA ad σ tx a).set 0 (.ref q))) k i := by
  intro k i h
  by_cases z : k = 21 ∧ i = tq
  · obtain ⟨rfl, rfl⟩ := z
    rw [up2_k (by decide), up2_self]
    show va_E_id (.inl (cs 0, va_up tn i N i, .inl (va_up tc i f i))) = _
    rw [va_up_self, va_up_self]
  · have hd := h.resolve_right z
    rcases hub k i hd with h9 | h9
    · rw [cw_lo h9, up2_k (by omega), up2_k (by omega), cw_lo h9]
    · unfold dmC at h9
      rcases h9 with ⟨rfl, rfl⟩ | ⟨rfl, rfl⟩ | ⟨rfl, rfl⟩ | ⟨rfl, hi⟩ | ⟨rfl, hi⟩ | ⟨rfl, hi⟩ | ⟨rfl, hi⟩ | ⟨rfl, hi⟩ | ⟨rfl, hi⟩ | ⟨rfl, hi⟩ | ⟨rfl, hi⟩ | ⟨rfl, hi⟩
      · rw [up2_k (by decide), up2_k (by decide)]
        show va_E_id (.inr (5, cO (up2 ad 21 tq q) σ)) = .inr (5, cO ad σ)
        unfold cO
        rw [up2_k (by decide), up2_k (by decide), up2_k (by decide)]
      · rw [up2_k (by decide), up2_k (by decide)]
        show va_E_id (.inl (cs 3, 4, .inr (.inr (.inr (.inr (fun x => if x < 4 then some (up2 ad 21 tq q 13 x) else none)))))) = .inl (cs 3, 4, .inr (.inr (.inr (.inr (fun x => if x < 4 then some (ad 13 x) else none)))))
        simp only [up2_k (show 13 ≠ 21 by decide)]
      · rw [up2_k (by decide), up2_k (by decide)]
        show va_E_id (.inl (cs 4, 6, .inr (.inr (.inr (.inr (fun x => if x < 6 then some (up2 ad 21 tq q 14 x) else none)))))) = .inl (cs 4, 6, .inr (.inr (.inr (.inr (fun x => if x < 6 then some (ad 14 x) else none)))))
        simp only [up2_k (show 14 ≠ 21 by decide)]
      · by_cases e : i = a
        · subst e
          rw [up2_self]
          show va_E_id (.inr (1, cA (up2 ad 21 tq q) σ (va_up tx i tq) i)) = _
          unfold cA
          rw [va_up_self, up2_self, up2_k (by decide)]
          rfl
        · rw [up2_ne _ _ (fun y => e y.2), up2_k (by decide)]
          show va_E_id (.inr (1, cA (up2 ad 21 tq q) σ (va_up tx a tq) i)) = .inr (1, cA ad σ tx i)
          unfold cA
          rw [va_up_ne _ _ e, up2_ne _ _ (fun y => Nat.ne_of_lt (htx i hi) y.2), up2_k (by decide)]
      · rw [up2_k (by decide), up2_k (by decide)]
        show va_E_id (.inr (4, cR (up2 ad 21 tq q) σ i)) = .inr (4, cR ad σ i)
        unfold cR
        rw [up2_k (by decide)]
      · rw [up2_k (by decide), up2_k (by decide)]
        show va_E_id (.inr (0, cL D (up2 ad 21 tq q) Lx cap mk i)) = .inr (0, cL D ad Lx cap mk i)
        unfold cL cE
        rw [up2_k (by decide)]
      · rw [up2_k (by decide), up2_k (by decide)]
        show va_E_id (.inl (cs 5, cap i, .inr (.inr (.inr (.inr (cX (up2 ad 21 tq q) (Lx i))))))) = .inl (cs 5, cap i, .inr (.inr (.inr (.inr (cX ad (Lx i))))))
        have e : up2 ad 21 tq q 17 = ad 17 := funext (fun b => up2_k (by decide) b)
        unfold cX
        rw [e]
      · rw [up2_k (by decide), up2_k (by decide)]
        show va_E_id (.inr (3, cM (up2 ad 21 tq q) σ mt i)) = .inr (3, cM ad σ mt i)
        unfold cM
        rw [up2_k (by decide), up2_k (by decide), up2_ne _ _ (fun y => Nat.ne_of_lt (hmt i hi) y.2), up2_k (by decide), up2_k (by decide)]
      · rw [up2_k (by decide), up2_k (by decide)]; rfl
      · rw [up2_k (by decide), up2_k (by decide)]
        show va_E_id (.inr (2, [.ref (up2 ad 21 tq q 20 i), .int (nI (zl i))])) = .inr (2, [.ref (ad 20 i), .int (nI (zl i))])
        rw [up2_k (by decide)]
      · rw [up2_k (by decide), up2_k (by decide)]; rfl
      · rw [up2_k (by decide), up2_ne _ _ (fun y => z y)]
        show va_E_id (.inl (cs 0, va_up tn tq N i, .inl (va_up tc tq f i))) = .inl (cs 0, tn i, .inl (tc i))
        rw [va_up_ne _ _ (by omega), va_up_ne _ _ (by omega)]
theorem CD.text {dm : Nat → Nat → Prop} {n : Nat} {cap : Nat → Nat} {tq : Nat} (h : CD dm n cap tq) : CD (fun a b => dm a b ∨ (a = 21 ∧ b = tq)) n cap (tq + 1) := by
  obtain ⟨h0, h1, h2, h3, h4, h5, h6, h7, h8⟩ := h
  exact ⟨.inl h0, .inl h1, .inl h2, fun i q => .inl (h3 i q), fun i q => .inl (h4 i q), fun i q => .inl (h5 i q), fun i q z => .inl (h6 i q z), fun j q => ⟨.inl (h7 j q).1, .inl (h7 j q).2.1, .inl (h7 j q).2.2.1, .inl (h7 j q).2.2.2⟩, fun t q => by
    rcases Nat.lt_or_ge t tq with z | z
    · exact .inl (h8 t z)
    · exact .inr ⟨rfl, by omega⟩⟩
theorem UB.text {dm : Nat → Nat → Prop} {n tq : Nat} (h : UB dm n tq) : UB (fun a b => dm a b ∨ (a = 21 ∧ b = tq)) n (tq + 1) := by
  intro k i q
  rcases q with q | q
  · exact (h k i q).imp id (dmC.mono (Nat.le_refl _) (Nat.le_succ _))
  · exact .inr (.inr (.inr (.inr (.inr (.inr (.inr (.inr (.inr (.inr (.inr (.inr ⟨q.1, by rw [q.2]; exact Nat.lt_succ_self _⟩)))))))))))
set_option maxHeartbeats 4000000 in
set_option maxRecDepth 100000 in
theorem cc_draft (l : Launch) (D : va_G) (A : Nat → Prop) (cs : Nat → ClassId) (ad : Nat → Nat → Nat) (dm : Nat → Nat → Prop) (σ : SG) (Lx : Nat → List Nat) (cap : Nat → Nat) (mk : Nat → Int32) (ev : SG) (zl tx mt tn : Nat → Nat) (tc : SG) (w0 : CF) (n tq : Nat) (hC : CD dm n cap tq) (y v u : Int32) (wb : Prop) [Decidable wb] (hub : UB dm n tq) (htx : ∀ i, i < 4 → tx i < tq) (hmt : ∀ j, j < n → mt j < tq) (hfl : l.stackTraces = false) : vx_Met l yX5_draft wsX5_draft ({ frames := 7, cells := 5, slots := 34, locals := 119 }) (va_Pc [.ref (ad 10 0), .int y, .int v, .int u, .int (bi (wb))] (PW D A (tysG cs) ad dm (cw D ad cs σ Lx cap mk ev zl tx mt tn tc w0))) (QW D A (tysG cs) (fun rz ad1 dm1 w1 => (accP y ∧ inR v 1 500 ∧ inR u 0 50) ∧ rz = some (.int (nI (pts wb (ix u) (ix v)))) ∧ ∃ q, ad1 = (up2 ad 21 tq q) ∧ dm1 = (fun a b => dm a b ∨ (a = 21 ∧ b = tq)) ∧ w1 = (cw D (up2 ad 21 tq q) cs σ Lx cap mk ev zl (va_up tx (ix y) tq) mt (va_up tn tq (pts wb (ix u) (ix v))) (va_up tc tq (fun x => if x < pts wb (ix u) (ix v) then nI (lof wb (ix u) (ix v) x) else 0)) w0))) (XW D A (tysG cs) ad dm (cw D ad cs σ Lx cap mk ev zl tx mt tn tc w0) (fun E => (E = xIO ∧ ¬ accP y) ∨ (E = xIA ∧ accP y ∧ ¬ (inR v 1 500 ∧ inR u 0 50)))) 5 34 A := by
  refine q_start (own := RX5) [.ref (ad 10 0), .int y, .int v, .int u, .int (bi (wb))] (cc := cX5_draft) (maxL := 6) (ret := (some .int)) (lv0 := [(0, .ref (ad 10 0)), (1, .int y), (2, .int v), (3, .int u), (4, .int (bi (wb)))]) (by decide) rfl rfl (Nat.le_of_ble_eq_true rfl) rfl ?_
  intro p e s m below meth c F hr hlocks hno
  have hinX0 : ∀ w ∈ wsX00, w ∈ wsX5_draft := by decide +kernel
  refine g_aload_n F 0 dX5_draft_0 rfl rfl ?_
  refine g_iload_n F 1 dX5_draft_1 rfl rfl ?_
  refine x_callV F (C := RX5) (k := 10) (i := 0) (ci := 5) (T := TX5) (N := 4) (rest := []) [.int y] (cc_accountAt l D A cs ad dm σ Lx cap mk ev zl tx mt tn tc w0 n tq hC y hfl) (cwV 1 F.1.2.2.2.2 gX5_draft_X5_accountAt rfl rfl rfl (by decide +kernel) ⟨Nat.le_of_ble_eq_true rfl, Nat.le_of_ble_eq_true rfl⟩) rfl hC.1 rfl rfl rfl rfl (Nat.le_of_ble_eq_true rfl) dX5_draft_2 ⟨Nat.le_of_ble_eq_true rfl, Nat.le_of_ble_eq_true rfl⟩ (x_prop F hno hlocks (fun _ h => .inl h) (Nat.le_of_ble_eq_true rfl) (Nat.le_of_ble_eq_true rfl)) (fun _ _ _ _ zv1 => ?_)
  obtain ⟨hc2, rfl, rfl, rfl, rfl⟩ := zv1
  have hb2 := (ix_acc hc2).2
  show GG p l e _ s m _ below meth c D A ad dm _ _ _ _ (cw D ad cs σ Lx cap mk ev zl tx mt tn tc w0) 5 _ [.ref (ad 13 (ix y))]
  refine g_astore F (lv1 := [(5, .ref (ad 13 (ix y))), (0, .ref (ad 10 0)), (1, .int y), (2, .int v), (3, .int u), (4, .int (bi (wb)))]) dX5_draft_5 (by decide) rfl ?_
  refine g_iload_n F 3 dX5_draft_7 rfl rfl ?_
  refine g_iconst F dX5_draft_8 (v := 1) (by decide) ?_
  refine g_sipush F dX5_draft_9 (v := 500) (by decide) ?_
  refine x_callS F (rest := []) [.int v, .int 1, .int 500] (cc_require l D A cs ad dm σ Lx cap mk ev zl tx mt tn tc w0 n tq hC v 1 500 hfl) (va_cwS 3 F.1.2.2.2.2 gX5_draft_X5_requireInRange rfl rfl rfl (by decide +kernel) ⟨Nat.le_of_ble_eq_true rfl, Nat.le_of_ble_eq_true rfl⟩) rfl rfl (Nat.le_of_ble_eq_true rfl) dX5_draft_12 ⟨Nat.le_of_ble_eq_true rfl, Nat.le_of_ble_eq_true rfl⟩ (x_prop F hno hlocks (fun _ h => .inr ⟨h.1, hc2, fun q => h.2 q.1⟩) (Nat.le_of_ble_eq_true rfl) (Nat.le_of_ble_eq_true rfl)) (fun _ _ _ _ zv2 => ?_)
  obtain ⟨hc12, rfl, rfl, rfl, rfl⟩ := zv2
  show GG p l e _ s m _ below meth c D A ad dm _ _ _ _ (cw D ad cs σ Lx cap mk ev zl tx mt tn tc w0) 15 _ []
  refine g_iload_n F 4 dX5_draft_15 rfl rfl ?_
  refine g_iconst F dX5_draft_16 (v := 0) (by decide) ?_
  refine g_bipush F dX5_draft_17 (v := 50) (by decide) ?_
  refine x_callS F (rest := []) [.int u, .int 0, .int 50] (cc_require l D A cs ad dm σ Lx cap mk ev zl tx mt tn tc w0 n tq hC u 0 50 hfl) (va_cwS 3 F.1.2.2.2.2 gX5_draft_X5_requireInRange rfl rfl rfl (by decide +kernel) ⟨Nat.le_of_ble_eq_true rfl, Nat.le_of_ble_eq_true rfl⟩) rfl rfl (Nat.le_of_ble_eq_true rfl) dX5_draft_19 ⟨Nat.le_of_ble_eq_true rfl, Nat.le_of_ble_eq_true rfl⟩ (x_prop F hno hlocks (fun _ h => .inr ⟨h.1, hc2, fun q => h.2 q.2⟩) (Nat.le_of_ble_eq_true rfl) (Nat.le_of_ble_eq_true rfl)) (fun _ _ _ _ zv3 => ?_)
  obtain ⟨hc19, rfl, rfl, rfl, rfl⟩ := zv3
  show GG p l e _ s m _ below meth c D A ad dm _ _ _ _ (cw D ad cs σ Lx cap mk ev zl tx mt tn tc w0) 22 _ []
  obtain ⟨hmn, hmn5⟩ := ix_in (n := 500) rfl (show inR v 0 500 from ⟨fun q => hc12.1 (Int32.lt_trans q (by decide)), hc12.2⟩)
  obtain ⟨hea, hea5⟩ := ix_in (n := 50) rfl hc19
  have hal0 : 0 < ix v := by
    rcases Nat.eq_zero_or_pos (ix v) with z | z
    · exact absurd (by rw [hmn, z]; decide) hc12.1
    · exact z
  refine g_aload F 0 dX5_draft_22 rfl ?_
  refine g_iload F 5 dX5_draft_24 rfl ?_
  refine g_ifb_eq F (tgt := 41) dX5_draft_26 (by decide) (fun zc4 => ?_) (fun zc4 => ?_)
  ·
    refine g_iload_n F 3 dX5_draft_41 rfl rfl ?_
    refine g_iload_n F 4 dX5_draft_42 rfl rfl ?_
    refine g_sipush F dX5_draft_43 (v := 160) (by decide) ?_
    refine g_sipush F dX5_draft_46 (v := 153) (by decide) ?_
    refine q_callS F (rest := [.ref (ad 13 (ix y))]) [.int v, .int u, .int 160, .int 153] (by have h9 := cw_cut l D A cs ad dm (cw D ad cs σ Lx cap mk ev zl tx mt tn tc w0) wb tq (ix u) (ix v) (ix u) 160 153 (Nat.le_of_lt_succ hmn5) hal0 (Nat.le_of_lt_succ hea5) (if_neg zc4).symm (if_neg zc4).symm (if_neg zc4).symm (hub.no22 0) hub.no21; rw [← hmn, ← hea] at h9; exact h9) (va_cwS 4 F.1.2.2.2.2 gX5_draft_X5_cut rfl rfl rfl (by decide +kernel) ⟨Nat.le_of_ble_eq_true rfl, Nat.le_of_ble_eq_true rfl⟩) rfl rfl (Nat.le_of_ble_eq_true rfl) dX5_draft_49 ⟨Nat.le_of_ble_eq_true rfl, Nat.le_of_ble_eq_true rfl⟩ (fun _ _ _ _ hv => ?_)
    obtain ⟨q, rfl, rfl, rfl, rfl⟩ := hv
    refine g_ls (lv1 := [(5, .ref ((up2 ad 21 tq q) 13 (ix y))), (0, .ref ((up2 ad 21 tq q) 10 0)), (1, .int y), (2, .int v), (3, .int u), (4, .int (bi (wb)))]) (st1 := [.ref q, .ref ((up2 ad 21 tq q) 13 (ix y))]) (by rw [up2_k (by decide), up2_k (by decide)]) (by rw [up2_k (by decide)]; rfl) ?_
    refine g_putf (k := 13) (i := (ix y)) (ci := 1) (C := RX0) (T := TX0) (N := 7) (fs := cA ad σ tx (ix y)) (fk := 0) (v := .ref q) (ty := .array .int) (tf := tyX0) F hinX0 tyX0_ok nmX0 (.inl (hC.2.2.2.1 (ix y) hb2)) ((up2_k (by decide) _).trans rfl) rfl (by decide) (by decide +kernel) rfl rfl (by decide +kernel) rfl rfl (show 0 < 7 by decide) dX5_draft_52 ?_
    refine g_forget (dm1 := (fun a b => dm a b ∨ (a = 21 ∧ b = tq))) (ad1 := (up2 ad 21 tq q)) (w1 := (cw D (up2 ad 21 tq q) cs σ Lx cap mk ev zl (va_up tx (ix y) tq) mt (va_up tn tq (pts wb (ix u) (ix v))) (va_up tc tq (fun x => if x < pts wb (ix u) (ix v) then nI (lof wb (ix u) (ix v) x) else 0)) w0)) (fun _ _ h => h) (fun _ _ _ => rfl) (dr_w hub htx hmt) ?_
    have hC1 := hC.text
    refine g_aload F 0 dX5_draft_55 rfl ?_
    refine g_getf (k := 13) (i := (ix y)) (ci := 1) (C := RX0) (T := TX0) (N := 7) (fs := cA (up2 ad 21 tq q) σ (va_up tx (ix y) tq) (ix y)) (fk := 0) (v := .ref ((up2 ad 21 tq q) 21 tq)) F hinX0 (hC1.2.2.2.1 (ix y) hb2) rfl rfl (by decide) (by decide +kernel) rfl (congrArg (fun z => some (Value.ref ((up2 ad 21 tq q) 21 z))) (va_up_self tx (ix y) tq)) dX5_draft_57 ?_
    refine g_alen (t0 := 0) (k := 21) (i := tq) (cA := cs 0) (x := (va_up tn tq (pts wb (ix u) (ix v)) tq, .inl (va_up tc tq (fun x => if x < pts wb (ix u) (ix v) then nI (lof wb (ix u) (ix v) x) else 0) tq))) (v := nI (pts wb (ix u) (ix v))) F (.inr ⟨rfl, rfl⟩) rfl rfl (congrArg nI (va_up_self tn tq (pts wb (ix u) (ix v)))) dX5_draft_60 ?_
    exact x_qi F hr hlocks (fun _ h => h) ⟨⟨hc2, hc12, hc19⟩, rfl, q, rfl, rfl, rfl⟩ (by decide) (by decide) dX5_draft_61
  ·
    refine g_iload_n F 3 dX5_draft_29 rfl rfl ?_
    refine g_iconst F dX5_draft_30 (v := 0) (by decide) ?_
    refine g_bipush F dX5_draft_31 (v := 70) (by decide) ?_
    refine g_bipush F dX5_draft_33 (v := 67) (by decide) ?_
    refine q_callS F (rest := [.ref (ad 13 (ix y))]) [.int v, .int 0, .int 70, .int 67] (by have h9 := cw_cut l D A cs ad dm (cw D ad cs σ Lx cap mk ev zl tx mt tn tc w0) wb tq (ix u) (ix v) 0 70 67 (Nat.le_of_lt_succ hmn5) hal0 (Nat.le_of_lt_succ hea5) (if_pos zc4).symm (if_pos zc4).symm (if_pos zc4).symm (hub.no22 0) hub.no21; rw [← hmn] at h9; exact h9) (va_cwS 4 F.1.2.2.2.2 gX5_draft_X5_cut rfl rfl rfl (by decide +kernel) ⟨Nat.le_of_ble_eq_true rfl, Nat.le_of_ble_eq_true rfl⟩) rfl rfl (Nat.le_of_ble_eq_true rfl) dX5_draft_35 ⟨Nat.le_of_ble_eq_true rfl, Nat.le_of_ble_eq_true rfl⟩ (fun _ _ _ _ hv => ?_)
    obtain ⟨q, rfl, rfl, rfl, rfl⟩ := hv
    refine g_ls (lv1 := [(5, .ref ((up2 ad 21 tq q) 13 (ix y))), (0, .ref ((up2 ad 21 tq q) 10 0)), (1, .int y), (2, .int v), (3, .int u), (4, .int (bi (wb)))]) (st1 := [.ref q, .ref ((up2 ad 21 tq q) 13 (ix y))]) (by rw [up2_k (by decide), up2_k (by decide)]) (by rw [up2_k (by decide)]; rfl) ?_
    refine g_goto F (tgt := 52) dX5_draft_38 (by decide) ?_
    refine g_putf (k := 13) (i := (ix y)) (ci := 1) (C := RX0) (T := TX0) (N := 7) (fs := cA ad σ tx (ix y)) (fk := 0) (v := .ref q) (ty := .array .int) (tf := tyX0) F hinX0 tyX0_ok nmX0 (.inl (hC.2.2.2.1 (ix y) hb2)) ((up2_k (by decide) _).trans rfl) rfl (by decide) (by decide +kernel) rfl rfl (by decide +kernel) rfl rfl (show 0 < 7 by decide) dX5_draft_52 ?_
    refine g_forget (dm1 := (fun a b => dm a b ∨ (a = 21 ∧ b = tq))) (ad1 := (up2 ad 21 tq q)) (w1 := (cw D (up2 ad 21 tq q) cs σ Lx cap mk ev zl (va_up tx (ix y) tq) mt (va_up tn tq (pts wb (ix u) (ix v))) (va_up tc tq (fun x => if x < pts wb (ix u) (ix v) then nI (lof wb (ix u) (ix v) x) else 0)) w0)) (fun _ _ h => h) (fun _ _ _ => rfl) (dr_w hub htx hmt) ?_
    have hC1 := hC.text
    refine g_aload F 0 dX5_draft_55 rfl ?_
    refine g_getf (k := 13) (i := (ix y)) (ci := 1) (C := RX0) (T := TX0) (N := 7) (fs := cA (up2 ad 21 tq q) σ (va_up tx (ix y) tq) (ix y)) (fk := 0) (v := .ref ((up2 ad 21 tq q) 21 tq)) F hinX0 (hC1.2.2.2.1 (ix y) hb2) rfl rfl (by decide) (by decide +kernel) rfl (congrArg (fun z => some (Value.ref ((up2 ad 21 tq q) 21 z))) (va_up_self tx (ix y) tq)) dX5_draft_57 ?_
    refine g_alen (t0 := 0) (k := 21) (i := tq) (cA := cs 0) (x := (va_up tn tq (pts wb (ix u) (ix v)) tq, .inl (va_up tc tq (fun x => if x < pts wb (ix u) (ix v) then nI (lof wb (ix u) (ix v) x) else 0) tq))) (v := nI (pts wb (ix u) (ix v))) F (.inr ⟨rfl, rfl⟩) rfl rfl (congrArg nI (va_up_self tn tq (pts wb (ix u) (ix v)))) dX5_draft_60 ?_
    exact x_qi F hr hlocks (fun _ h => h) ⟨⟨hc2, hc12, hc19⟩, rfl, q, rfl, rfl, rfl⟩ (by decide) (by decide) dX5_draft_61

