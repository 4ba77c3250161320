section SM10
variable {n tq t : Nat} {σ : SG} {Lx : Nat → List Nat} {ev : SG} {zl tx mt tn : Nat → Nat} {tc : SG}
theorem sm_pass (h : INV n tq t σ Lx ev zl tx mt tn tc) (ht : t < 900000) (x : Int32) {k : Nat} (hk : k ≤ 100) : INV n tq (t + k) (psF (up2 σ 32 0 x) n k) (psT (fun j => nI (tn (mt j))) n (σ, Lx, ev, zl) k).1.2.1 (psT (fun j => nI (tn (mt j))) n (σ, Lx, ev, zl) k).1.2.2.1 (psT (fun j => nI (tn (mt j))) n (σ, Lx, ev, zl) k).1.2.2.2 tx mt tn tc ∧ AG (psF (up2 σ 32 0 x) n k) (psT (fun j => nI (tn (mt j))) n (σ, Lx, ev, zl) k).1.1 ∧ (psT (fun j => nI (tn (mt j))) n (σ, Lx, ev, zl) k).2.2 = psN (up2 σ 32 0 x) n k ∧ (psT (fun j => nI (tn (mt j))) n (σ, Lx, ev, zl) k).2.1 ≤ 40 := by
  have hp : ∀ j, j < n → (fun j => nI (tn (mt j))) j = nI (ptM (up2 σ 32 0 x) j) := fun j hj => congrArg nI ((h.2.2.2.2 j hj).2.1.trans (ptM_c (fun f hf => by rw [up2_k (by omega)])))
  obtain ⟨a, b, c⟩ := LV.ps (h.lv32 x) h.1 hp k (by omega)
  refine ⟨h.of a (fun _ _ => rfl) (fun f hf i => by rw [psF_f (by omega), up2_k (by omega)]), a.1, b, ?_⟩
  have d := WN_le (σ, Lx, ev, zl).1 n
  have e := h.1
  omega
theorem sm_tick (h : INV n tq t σ Lx ev zl tx mt tn tc) (ht : t < 900000) (x : Int32) {k : Nat} (hk : k < 100) : (∀ i, i < n → WOK n tq mt tn (exT (tkT (psT (fun j => nI (tn (mt j))) n (σ, Lx, ev, zl) k).1) i).1) ∧ (∀ r, r < 6 → WOK n tq mt tn (atR (fun j => nI (tn (mt j))) (psT (fun j => nI (tn (mt j))) n (σ, Lx, ev, zl) k).2.2 (exT (tkT (psT (fun j => nI (tn (mt j))) n (σ, Lx, ev, zl) k).1) n).1 r).1) ∧ (∀ i, i < n → exP (exF (pt1 (psF (up2 σ 32 0 x) n k)) i) i → enOK (exF (pt1 (psF (up2 σ 32 0 x) n k)) i) i) ∧ (∀ r, r < 6 → ¬ atB (atF (exF (pt1 (psF (up2 σ 32 0 x) n k)) n) n r) n r = (-1) → tryOK (atF (exF (pt1 (psF (up2 σ 32 0 x) n k)) n) n r) (ix (atB (atF (exF (pt1 (psF (up2 σ 32 0 x) n k)) n) n r) n r))) := by
  have hp : ∀ j, j < n → (fun j => nI (tn (mt j))) j = nI (ptM (up2 σ 32 0 x) j) := fun j hj => congrArg nI ((h.2.2.2.2 j hj).2.1.trans (ptM_c (fun f hf => by rw [up2_k (by omega)])))
  obtain ⟨a, -, -⟩ := LV.ps (h.lv32 x) h.1 hp k (by omega)
  have z := a.tick (p := fun j => nI (tn (mt j))) (x := (psT (fun j => nI (tn (mt j))) n (σ, Lx, ev, zl) k).2.2) h.1 (by omega) (fun j hj => (hp j hj).trans (congrArg nI (ptM_c (σ := up2 σ 32 0 x) (τ := psF (up2 σ 32 0 x) n k) (fun f hf => psF_f (by omega) j k)).symm))
  have hmt := h.hmt
  refine ⟨fun i hi => (z.2.2.1 i (by omega)).wok h.1 hmt, fun r hr => (z.2.2.2.1 r (by omega)).wok h.1 hmt, fun i hi c => ?_, z.2.2.2.2.1⟩
  have q := z.2.2.1 i (by omega)
  exact (q.2.1.2.1.en h.1 (q.2.2.2.2 i hi) hi c.1).1
theorem sm_read (h : INV n tq t σ Lx ev zl tx mt tn tc) {r : Nat} (hr : r < 6) {u : Int32} (hu : inR u 1 50) : (σ 30 r) - (if (σ 30 r) ≤ u then (σ 30 r) else u) = (if (0 : Int32) < ((σ 30 r) - u) then ((σ 30 r) - u) else 0) ∧ ∃ m, m ≤ 50 ∧ (σ 30 r) - (if (σ 30 r) ≤ u then (σ 30 r) else u) = nI m := by
  obtain ⟨-, -, k, m, -, hm, -, e⟩ := h.2.2.1.2.2.2.1 r hr
  obtain ⟨eu, hu50⟩ := ix_in (n := 50) rfl (show inR u 0 50 from ⟨fun q => hu.1 (Int32.lt_trans q (by decide)), hu.2⟩)
  have hall : (List.range 51).all (fun a => (List.range 51).all (fun b => decide (nI a - (if nI a ≤ nI b then nI a else nI b) = (if (0 : Int32) < (nI a - nI b) then (nI a - nI b) else 0) ∧ nI a - (if nI a ≤ nI b then nI a else nI b) = nI (a - b)))) = true := by decide +kernel
  have q := of_decide_eq_true (List.all_eq_true.mp (List.all_eq_true.mp hall m (List.mem_range.mpr (by omega))) (ix u) (List.mem_range.mpr (by omega)))
  rw [e, eu]
  exact ⟨q.1, m - ix u, by omega, q.2⟩
theorem AG.q28 {f r : Nat} {v : Int32} (x : Int32) : AG (up2 (up2 σ 32 0 x) f r v) (up2 σ f r v) := ((AG.id σ).upl n32 0 x).up f r v
theorem qf_u {f r : Nat} {v x : Int32} (hf : f ≠ 23 ∧ f ≠ 13) (y : Nat) : qf (up2 (up2 σ 32 0 x) f r v) n y = qf σ n y := qf_c (fun j _ => by rw [up2_k (Ne.symm hf.1), up2_k (Ne.symm hf.2), up2_k (by decide), up2_k (by decide)])
theorem sm_mode (h : INV n tq t σ Lx ev zl tx mt tn tc) {v u : Int32} (hv : recP v) (hu : inR u 0 3) : INV n tq t (if u = 0 then (wkS (up2 (up2 σ 32 0 0) 28 (ix v) u) (ix v) v 1 n) else (up2 (up2 σ 32 0 0) 28 (ix v) u)) Lx ev zl tx mt tn tc ∧ AG (if u = 0 then (wkS (up2 (up2 σ 32 0 0) 28 (ix v) u) (ix v) v 1 n) else (up2 (up2 σ 32 0 0) 28 (ix v) u)) (if u = 0 then wkL (up2 σ 28 (ix v) u) (ix v) 1 (σ 0 0) (Lx (5 + (ix v))) else (up2 σ 28 (ix v) u)) ∧ (if u = 0 then (wkS (up2 (up2 σ 32 0 0) 28 (ix v) u) (ix v) v 1 n) else (up2 (up2 σ 32 0 0) 28 (ix v) u)) 32 0 = 0 := by
  obtain ⟨ev9, hr⟩ := ix_rec hv
  obtain ⟨eu, hu4⟩ := ix_in (n := 3) rfl hu
  have hR : ∀ y, y < 6 → okR (up2 (up2 σ 32 0 0) 28 (ix v) u) y := fun y hy => by
    obtain ⟨q1, ⟨m, q2, q2'⟩, k, m', q3, q4, q5, q6⟩ := h.2.2.1.2.2.2.1 y hy
    refine ⟨?_, ⟨m, q2, by rw [up2_k (by decide), up2_k (by decide)]; exact q2'⟩, k, m', q3, q4, by rw [up2_k (by decide), up2_k (by decide)]; exact q5, by rw [up2_k (by decide), up2_k (by decide)]; exact q6⟩
    unfold moOK
    by_cases e : y = ix v
    · subst e
      rw [up2_self]
      exact ⟨eu, by omega⟩
    · rw [up2_ne _ _ (fun q => e q.2), up2_k (by decide)]
      exact q1
  have hi : INV n tq t (up2 (up2 σ 32 0 0) 28 (ix v) u) Lx ev zl tx mt tn tc := h.c (fun f hf i => by rw [up2_k (by omega), up2_k (by omega)]) hR
  by_cases c : u = 0
  · rw [if_pos c, if_pos c]
    refine ⟨hi.c (fun f hf i => wkS_o (by omega) (by omega) i) (fun y hy => wkS_R (.inl rfl) (hR _ hr) (hR y hy)), ?_, ?_⟩
    · have q := wk_ag (AG.q28 (σ := σ) (f := 28) (r := ix v) (v := u) 0) hr (n := n) (fun j hj => (hi.2.2.1.2.2.2.2 j hj).2.1) (hR _ hr) (mk := 1) (.inl rfl)
      rw [← ev9, qf_u ⟨by decide, by decide⟩, ← h.2.2.1.2.1.1.2 _ hr] at q
      rw [up2_k (by decide), up2_k (by decide)] at q
      exact q
    · rw [wkS_o (by decide) (by decide), up2_k (by decide), up2_self]
  · rw [if_neg c, if_neg c]
    exact ⟨hi, AG.q28 0, by rw [up2_k (by decide), up2_self]⟩
theorem sm_look (h : INV n tq t σ Lx ev zl tx mt tn tc) {v u : Int32} {f : Nat} (hf : f = 29 ∨ f = 30) (hv : recP v) (hu : ∃ m, m ≤ 50 ∧ u = nI m) : INV n tq t (lkS (up2 (up2 σ 32 0 0) f (ix v) u) (ix v) v n) Lx ev zl tx mt tn tc ∧ AG (lkS (up2 (up2 σ 32 0 0) f (ix v) u) (ix v) v n) (lkL (up2 σ f (ix v) u) (ix v) (Lx (5 + (ix v)))) ∧ (lkS (up2 (up2 σ 32 0 0) f (ix v) u) (ix v) v n) 32 0 = 0 := by
  obtain ⟨ev9, hr⟩ := ix_rec hv
  obtain ⟨z, hz, eu⟩ := hu
  have hR : ∀ y, y < 6 → okR (up2 (up2 σ 32 0 0) f (ix v) u) y := fun y hy => by
    obtain ⟨q1, ⟨m, q2, q2'⟩, k, m', q3, q4, q5, q6⟩ := h.2.2.1.2.2.2.1 y hy
    have a28 : up2 (up2 σ 32 0 0) f (ix v) u 28 y = σ 28 y := by rw [up2_k (by omega), up2_k (by decide)]
    have a31 : up2 (up2 σ 32 0 0) f (ix v) u 31 y = σ 31 y := by rw [up2_k (by omega), up2_k (by decide)]
    refine ⟨by unfold moOK; rw [a28]; exact q1, ⟨m, q2, by rw [a31]; exact q2'⟩, ?_⟩
    rcases hf with rfl | rfl
    · by_cases e : y = ix v
      · subst e
        exact ⟨z, m', hz, q4, by rw [up2_self]; exact eu, by rw [up2_k (by decide), up2_k (by decide)]; exact q6⟩
      · exact ⟨k, m', q3, q4, by rw [up2_ne _ _ (fun q => e q.2), up2_k (by decide)]; exact q5, by rw [up2_k (by decide), up2_k (by decide)]; exact q6⟩
    · by_cases e : y = ix v
      · subst e
        exact ⟨k, z, q3, hz, by rw [up2_k (by decide), up2_k (by decide)]; exact q5, by rw [up2_self]; exact eu⟩
      · exact ⟨k, m', q3, q4, by rw [up2_k (by decide), up2_k (by decide)]; exact q5, by rw [up2_ne _ _ (fun q => e q.2), up2_k (by decide)]; exact q6⟩
  have hi : INV n tq t (up2 (up2 σ 32 0 0) f (ix v) u) Lx ev zl tx mt tn tc := h.c (fun g hg i => by rw [up2_k (by omega), up2_k (by omega)]) hR
  refine ⟨hi.c (fun g hg i => lkS_o (by omega) (by omega) i) (fun y hy => lkS_R (hR _ hr) (hR y hy)), ?_, ?_⟩
  · have q := lk_ag (AG.q28 (σ := σ) (f := f) (r := ix v) (v := u) 0) hr (n := n) (fun j hj => (hi.2.2.1.2.2.2.2 j hj).2.1) (hR _ hr)
    rw [← ev9, qf_u ⟨by omega, by omega⟩, ← h.2.2.1.2.1.1.2 _ hr] at q
    exact q
  · rw [lkS_o (by decide) (by decide), up2_k (by omega), up2_self]
theorem sm_take (h : INV n tq t σ Lx ev zl tx mt tn tc) {a : Nat} (ha : a < 4) (hl : ¬ (Lx (1 + a)).length = 0) : INV n tq t (tkS (up2 σ 32 0 0) a (Lx (1 + a)).length) (va_up Lx (1 + a) ((Lx (1 + a)).eraseIdx 0)) ev zl tx mt tn tc ∧ AG (tkS (up2 σ 32 0 0) a (Lx (1 + a)).length) σ ∧ (tkS (up2 σ 32 0 0) a (Lx (1 + a)).length) 32 0 = 0 ∧ (10 * (nI ((Lx (1 + a)).getD 0 0))) + (σ 23 ((Lx (1 + a)).getD 0 0)) = σ 10 (40 * a) := by
  have q := h.2.2.1.2.1.2.1 a ha
  have e1 : σ 10 ((40 * a) + 0) = (10 * nI ((Lx (1 + a)).getD 0 0)) + σ 23 ((Lx (1 + a)).getD 0 0) := q.2.2.2 0 (Nat.pos_of_ne_zero hl)
  refine ⟨?_, fun f hf i => ?_, ?_, e1.symm⟩
  · match hL : Lx (1 + a), hl with
    | [], hl => exact absurd rfl hl
    | x :: xs, _ => exact (h.up 0).take ha hL
  · have h9 : f ≠ 9 ∧ f ≠ 10 ∧ f ≠ 32 := by unfold cfd at hf; omega
    rw [tkS_o h9.1 h9.2.1, up2_k h9.2.2]
  · rw [tkS_o (by decide) (by decide), up2_self]
theorem in_m1 {u : Int32} : inR u (-1) 99 ↔ (u = (-1) ∨ inR u 0 99) := by
  have e1 : u < (-1) ↔ u.toInt < -1 := Int32.lt_iff_toInt_lt
  have e2 : (99 : Int32) < u ↔ 99 < u.toInt := Int32.lt_iff_toInt_lt
  have e3 : u < 0 ↔ u.toInt < 0 := Int32.lt_iff_toInt_lt
  have e4 : u = (-1) ↔ u.toInt = -1 := ⟨fun q => by rw [q]; decide, fun q => Int32.toInt_inj.mp (by rw [q]; decide)⟩
  unfold inR
  rw [e1, e2, e3, e4]
  omega
theorem in_lt {u : Int32} {m : Nat} (hm : m ≤ 1000) : ((¬ u < 0) ∧ (¬ (nI m) ≤ u)) ↔ inR u 0 (nI m - 1) := by
  rw [inR_n hm]
  exact and_congr_right fun _ => Int32.not_le
end SM10

