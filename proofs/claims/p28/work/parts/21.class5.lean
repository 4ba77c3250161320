section LPP
variable {p : Program} {l : Launch} {e : Env} {R : Room} {s : State} {m : MethodId} {args : Array Value} {below : List Frame} {meth : Method} {c : Code} {cells slots : Nat} {Q : State → Prop} {cc : ByteArray} {nL : Nat} {Ts : List Cond} {own : String} {D : va_G} {A : Nat → Prop} {ad : Nat → Nat → Nat} {dm : Nat → Nat → Prop} {w : CF} {pc : Nat} {lv : List (Nat × Value)} {rest : List Value}
/-- a loop over worlds of which we know a property alone -/
theorem g_loopP (N k0 : Nat) (h0 : k0 ≤ N) (P : Nat → (Nat → Nat → Nat) → (Nat → Nat → Prop) → CF → List (Nat × Value) → Prop) (cf sf : Nat → Nat) (ec : cf k0 = cells) (es : sf k0 = slots) (i0 : P k0 ad dm w lv)
    (hx : ∀ (ad : Nat → Nat → Nat) (dm : Nat → Nat → Prop) (w : CF) (lv : List (Nat × Value)), P N ad dm w lv → GG p l e R s m args below meth c D A ad dm nL (cf N) (sf N) Q w pc lv rest)
    (hs : ∀ k, k0 ≤ k → k < N → (∀ (ad : Nat → Nat → Nat) (dm : Nat → Nat → Prop) (w : CF) (lv : List (Nat × Value)), P (k + 1) ad dm w lv → GG p l e R s m args below meth c D A ad dm nL (cf (k + 1)) (sf (k + 1)) Q w pc lv rest) → ∀ (ad : Nat → Nat → Nat) (dm : Nat → Nat → Prop) (w : CF) (lv : List (Nat × Value)), P k ad dm w lv → GG p l e R s m args below meth c D A ad dm nL (cf k) (sf k) Q w pc lv rest) : GG p l e R s m args below meth c D A ad dm nL cells slots Q w pc lv rest := by
  subst ec
  subst es
  obtain ⟨j, hj⟩ : ∃ j, N = k0 + j := ⟨N - k0, by omega⟩
  have go : ∀ j k, k0 ≤ k → N = k + j → ∀ (ad : Nat → Nat → Nat) (dm : Nat → Nat → Prop) (w : CF) (lv : List (Nat × Value)), P k ad dm w lv → GG p l e R s m args below meth c D A ad dm nL (cf k) (sf k) Q w pc lv rest := by
    intro j
    induction j with
    | zero =>
      intro k _ h
      have : k = N := by omega
      rw [this]
      exact hx
    | succ j ih => exact fun k h1 h => hs k h1 (by omega) (ih (k + 1) (by omega) (by omega))
  exact go j k0 (Nat.le_refl _) hj ad dm w lv i0
end LPP
def faT (i : Nat) (f x : Int32) (j : Nat) (t : Int32) (s : CSt) : CSt := (up2 (up2 s.1 27 ((3 * j) + (2 - i)) (s.1 27 ((3 * j) + (2 - i)) + 1)) 26 j (t + (dlA f (s.1 27 ((3 * j) + (2 - i)) + 1))), s.2.1, up2 s.2.2.1 j (s.2.2.2 j) x, va_up s.2.2.2 j (s.2.2.2 j + 1))
def mkT (r : Nat) (m : Int32) (s : CSt) : CSt := (up2 s.1 31 r (s.1 31 r ||| m), s.2)
def t1T (j : Nat) (s : CSt) : CSt := (up2 s.1 25 j (s.1 25 j + 1), s.2)
def fdT (i : Nat) : Int32 := if i = 0 then 2 else if i = 1 then 5 else 10
def fxT (i : Nat) : Int32 := if i = 0 then (2 + 0) else if i = 1 then (2 + 1) else (2 + 2)
def fmT (i : Nat) : Int32 := if i = 0 then 0 else if i = 1 then 1 else 2
def att (p : Nat → Int32) (r : Nat) (s : CSt) : CSt × Nat × Int32 := match frL s.1 (s.1 0 0) (s.2.1 (5 + r)) with
  | none => (s, 0, 0)
  | some j => if s.1 28 r = 3 then (finT j 4 (t1T j s), 1, 0) else match caF s.1 r with
    | none => (arrT (p j) j (s.1 0 0) (t1T j s), arC (p j) j (s.1 0 0) (t1T j s), 1)
    | some i => (mkT r (fmT i) (faT i (fdT i) (fxT i) j (s.1 0 0) (t1T j s)), 0, 0)
theorem att_0 {p : Nat → Int32} {r : Nat} {s : CSt} (h : frL s.1 (s.1 0 0) (s.2.1 (5 + r)) = none) : att p r s = (s, 0, 0) := by
  unfold att; rw [h]
theorem att_1 {p : Nat → Int32} {r j : Nat} {s : CSt} (h : frL s.1 (s.1 0 0) (s.2.1 (5 + r)) = some j) (hb : s.1 28 r = 3) : att p r s = (finT j 4 (t1T j s), 1, 0) := by
  unfold att; rw [h]; exact if_pos hb
theorem att_2 {p : Nat → Int32} {r j : Nat} {s : CSt} (h : frL s.1 (s.1 0 0) (s.2.1 (5 + r)) = some j) (hb : ¬ s.1 28 r = 3) (hc : caF s.1 r = none) : att p r s = (arrT (p j) j (s.1 0 0) (t1T j s), arC (p j) j (s.1 0 0) (t1T j s), 1) := by
  unfold att; rw [h]; refine (if_neg hb).trans ?_; rw [hc]
theorem att_3 {p : Nat → Int32} {r j i : Nat} {s : CSt} (h : frL s.1 (s.1 0 0) (s.2.1 (5 + r)) = some j) (hb : ¬ s.1 28 r = 3) (hc : caF s.1 r = some i) : att p r s = (mkT r (fmT i) (faT i (fdT i) (fxT i) j (s.1 0 0) (t1T j s)), 0, 0) := by
  unfold att; rw [h]; refine (if_neg hb).trans ?_; rw [hc]
theorem att_30 {p : Nat → Int32} {r j : Nat} {s : CSt} (h : frL s.1 (s.1 0 0) (s.2.1 (5 + r)) = some j) (hb : ¬ s.1 28 r = 3) (hc : caF s.1 r = some 0) : att p r s = (mkT r 0 (faT 0 2 (2 + 0) j (s.1 0 0) (t1T j s)), 0, 0) := att_3 h hb hc
theorem att_31 {p : Nat → Int32} {r j : Nat} {s : CSt} (h : frL s.1 (s.1 0 0) (s.2.1 (5 + r)) = some j) (hb : ¬ s.1 28 r = 3) (hc : caF s.1 r = some 1) : att p r s = (mkT r 1 (faT 1 5 (2 + 1) j (s.1 0 0) (t1T j s)), 0, 0) := att_3 h hb hc
theorem att_32 {p : Nat → Int32} {r j : Nat} {s : CSt} (h : frL s.1 (s.1 0 0) (s.2.1 (5 + r)) = some j) (hb : ¬ s.1 28 r = 3) (hc : caF s.1 r = some 2) : att p r s = (mkT r 2 (faT 2 10 (2 + 2) j (s.1 0 0) (t1T j s)), 0, 0) := att_3 h hb hc
theorem caF_c (σ : SG) (r : Nat) : caF σ r = none ∨ caF σ r = some 0 ∨ caF σ r = some 1 ∨ caF σ r = some 2 := by
  unfold caF
  split
  · exact .inr (.inl rfl)
  · split
    · exact .inr (.inr (.inl rfl))
    · split
      · exact .inr (.inr (.inr rfl))
      · exact .inl rfl
theorem frL_mem {σ : SG} {t : Int32} {xs : List Nat} {j : Nat} (h : frL σ t xs = some j) : j ∈ xs := (frL_in σ t xs none j h).resolve_right (fun q => by cases q)
section STE
variable {p : Program} {l : Launch} {e : Env} {R : Room} {s : State} {m : MethodId} {args : Array Value} {below : List Frame} {meth : Method} {c : Code} {cells slots : Nat} {Q : State → Prop} {cc : ByteArray} {nL : Nat} {Ts : List Cond} {own : String} {D : va_G} {A : Nat → Prop} {ad : Nat → Nat → Nat} {dm : Nat → Nat → Prop} {w : CF} {pc : Nat} {lv : List (Nat × Value)} {rest : List Value}
theorem g_stE {st st1 : List Value} (ee : st = st1) (kk : GG p l e R s m args below meth c D A ad dm nL cells slots Q w pc lv st1) : GG p l e R s m args below meth c D A ad dm nL cells slots Q w pc lv st := ee ▸ kk
end STE
set_option maxHeartbeats 4000000 in
set_option maxRecDepth 100000 in
theorem cc_attempt (l : Launch) (D : va_G) (A : Nat → Prop) (cs : Nat → ClassId) (ad : Nat → Nat → Nat) (dm : Nat → Nat → Prop) (σ : SG) (Lx : Nat → List Nat) (cap : Nat → Nat) (mk : Nat → Int32) (ev : SG) (zl tx mt tn : Nat → Nat) (tc : SG) (w0 : CF) (n tq : Nat) (hC : CD dm n cap tq) (r : Nat) (hr6 : r < 6) (hlo : LO n Lx cap) (hn22 : ¬ dm 22 0) (hqr : ∀ j, j ∈ Lx (5 + r) → σ 23 j = 0 ∧ FIN n σ Lx j ∧ zl j < elen σ j ∧ mt j < tq ∧ tn (mt j) ≤ 8) : Met l yX5_attemptFor wsX5_attemptFor ({ frames := 9, cells := (att (fun j => nI (tn (mt j))) r (σ, Lx, ev, zl)).2.1, slots := (60 * (att (fun j => nI (tn (mt j))) r (σ, Lx, ev, zl)).2.1), locals := 283 }) (va_Pc [.ref (ad 10 0), .ref (ad 14 r)] (PW D A (tysG cs) ad dm (cw D ad cs σ Lx cap mk ev zl tx mt tn tc w0))) (QW D A (tysG cs) (fun rz ad1 dm1 w1 => rz = some (.int (att (fun j => nI (tn (mt j))) r (σ, Lx, ev, zl)).2.2) ∧ EXP D cs n tq ad dm (att (fun j => nI (tn (mt j))) r (σ, Lx, ev, zl)).1.1 (att (fun j => nI (tn (mt j))) r (σ, Lx, ev, zl)).1.2.1 (att (fun j => nI (tn (mt j))) r (σ, Lx, ev, zl)).1.2.2.1 (att (fun j => nI (tn (mt j))) r (σ, Lx, ev, zl)).1.2.2.2 tx mt tn tc w0 ad1 dm1 w1)) (att (fun j => nI (tn (mt j))) r (σ, Lx, ev, zl)).2.1 (60 * (att (fun j => nI (tn (mt j))) r (σ, Lx, ev, zl)).2.1) A := by
  refine g_start (own := RX5) [.ref (ad 10 0), .ref (ad 14 r)] (cc := cX5_attemptFor) (maxL := 4) (ret := (some .int)) (lv0 := [(0, .ref (ad 10 0)), (1, .ref (ad 14 r))]) (by decide) rfl rfl (Nat.le_of_ble_eq_true rfl) rfl ?_
  intro p e s m below meth c F hr hlocks hno
  have hinX3 : ∀ w ∈ wsX30, w ∈ wsX5_attemptFor := by decide +kernel
  have hinX4 : ∀ w ∈ wsX40, w ∈ wsX5_attemptFor := by decide +kernel
  have hinX5 : ∀ w ∈ wsX50, w ∈ wsX5_attemptFor := by decide +kernel
  refine g_aload_n F 1 dX5_attemptFor_0 rfl rfl ?_
  refine g_aload_n F 0 dX5_attemptFor_1 rfl rfl ?_
  refine g_getf (k := 10) (i := 0) (ci := 5) (C := RX5) (T := TX5) (N := 4) (fs := (cO ad σ)) (fk := 3) F hinX5 hC.1 rfl rfl (by decide) (by decide +kernel) rfl rfl dX5_attemptFor_2 ?_
  refine q_callV F (C := RX4) (k := 14) (i := r) (ci := 4) (T := TX4) (N := 5) (rest := []) [.int (σ 0 0)] (cc_first l D A cs ad dm σ Lx cap mk ev zl tx mt tn tc w0 n tq hC r (σ 0 0) (by omega) hlo) (cwV 1 F.1.2.2.2.2 gX5_attemptFor_X4_firstDueUntil rfl rfl rfl (by decide +kernel) ⟨Nat.le_of_ble_eq_true rfl, Nat.le_of_ble_eq_true rfl⟩) rfl (hC.2.2.2.2.1 r (by omega)) rfl rfl rfl rfl (Nat.le_of_ble_eq_true rfl) dX5_attemptFor_5 ⟨Nat.zero_le _, Nat.zero_le _⟩ (fun _ _ _ _ zv1 => ?_)
  obtain ⟨rfl, rfl, rfl, rfl⟩ := zv1
  show GG p l e _ s m _ below meth c D A ad dm _ _ _ _ (cw D ad cs σ Lx cap mk ev zl tx mt tn tc w0) 8 _ [(va_rf (Option.map (ad 17) (frL σ (σ 0 0) (Lx (5 + r)))))]
  rcases hq9 : (frL σ (σ 0 0) (Lx (5 + r))) with _ | b
  ·
    show GG p l e _ s m _ below meth c D A ad dm _ _ _ _ (cw D ad cs σ Lx cap mk ev zl tx mt tn tc w0) 8 [(0, .ref (ad 10 0)), (1, .ref (ad 14 r))] [.null]
    refine g_astore_nN F (lv1 := [(2, .null), (0, .ref (ad 10 0)), (1, .ref (ad 14 r))]) dX5_attemptFor_8 rfl (by decide) rfl ?_
    refine g_aload_nN F 0 dX5_attemptFor_9 rfl rfl ?_
    refine g_ifnonnullN F dX5_attemptFor_10 ?_
    refine g_iconst F dX5_attemptFor_13 (v := 0) (by decide) ?_
    exact g_qi F hr hlocks (fun _ h => h) ⟨(congrArg some ((congrArg (fun z : CSt × Nat × Int32 => Value.int z.2.2) (att_0 (s := (σ, Lx, ev, zl)) hq9)).symm)), (by rw [(att_0 (s := (σ, Lx, ev, zl)) hq9)]; exact EXP.same hC hlo)⟩ (Nat.zero_le _) (Nat.zero_le _) dX5_attemptFor_14
  ·
    have hb9 := frL_lt (k := (Lx (5 + r)).length) (hlo (5 + r) (by omega)).2.2 (by rw [List.take_length]; exact hq9)
    show GG p l e _ s m _ below meth c D A ad dm _ _ _ _ (cw D ad cs σ Lx cap mk ev zl tx mt tn tc w0) 8 [(0, .ref (ad 10 0)), (1, .ref (ad 14 r))] [.ref (ad 17 b)]
    refine g_astore_n F (lv1 := [(2, .ref (ad 17 b)), (0, .ref (ad 10 0)), (1, .ref (ad 14 r))]) dX5_attemptFor_8 rfl (by decide) rfl ?_
    refine g_aload_n F 0 dX5_attemptFor_9 rfl rfl ?_
    refine g_ifnonnull F (tgt := 15) dX5_attemptFor_10 (by decide) ?_
    have hbm := frL_mem hq9
    obtain ⟨hbw, hbf, hbz, hbt⟩ := hqr b hbm
    refine g_aload_n F 0 dX5_attemptFor_15 rfl rfl ?_
    refine g_dup F dX5_attemptFor_16 rfl ?_
    refine g_getf (k := 17) (i := b) (ci := 3) (C := RX3) (T := TX3) (N := 16) (fs := (cM ad σ mt b)) (fk := 14) F hinX3 (hC.2.2.2.2.2.2.2.1 b (by omega)).1 rfl rfl (by decide) (by decide +kernel) rfl rfl dX5_attemptFor_17 ?_
    refine g_iconst F dX5_attemptFor_20 (v := 1) (by decide) ?_
    refine g_iadd F dX5_attemptFor_21 ?_
    refine g_putf (k := 17) (i := b) (ci := 3) (C := RX3) (T := TX3) (N := 16) (fs := (cM ad σ mt b)) (fk := 14) (v := .int ((σ 25 b) + 1)) (ty := .int) (tf := tyX3) F hinX3 tyX3_ok nmX3 (hC.2.2.2.2.2.2.2.1 b (by omega)).1 rfl rfl (by decide) (by decide +kernel) rfl rfl (by decide +kernel) rfl rfl (show 14 < 16 by decide) dX5_attemptFor_22 ?_
    refine g_w (w1 := (cw D ad cs (up2 σ 25 b ((σ 25 b) + 1)) Lx cap mk ev zl tx mt tn tc w0)) (cp_25 b ((σ 25 b) + 1)).symm ?_
    refine g_aload_n F 2 dX5_attemptFor_25 rfl rfl ?_
    refine g_getf (k := 14) (i := r) (ci := 4) (C := RX4) (T := TX4) (N := 5) (fs := (cR ad (up2 σ 25 b ((σ 25 b) + 1)) r)) (fk := 0) F hinX4 (hC.2.2.2.2.1 r (by omega)) rfl rfl (by decide) (by decide +kernel) rfl (congrArg (fun z : Int32 => some (Value.int z)) (show (up2 σ 25 b ((σ 25 b) + 1)) 28 r = (σ 28 r) from ((up2_ne _ _ (fun h => absurd h.1 (by decide))).trans rfl))) dX5_attemptFor_26 ?_
    refine g_iconst F dX5_attemptFor_29 (v := 3) (by decide) ?_
    refine g_icmp_ne F (tgt := 40) dX5_attemptFor_30 (by decide) (fun zc2 => ?_) (fun zc2 => ?_)
    ·
      refine g_aload_n F 2 dX5_attemptFor_40 rfl rfl ?_
      refine q_callV F (C := RX4) (k := 14) (i := r) (ci := 4) (T := TX4) (N := 5) (rest := []) [] (cc_cause l D A cs ad dm (up2 σ 25 b ((σ 25 b) + 1)) Lx cap mk ev zl tx mt tn tc w0 n tq hC r (by omega)) (cwV 0 F.1.2.2.2.2 gX5_attemptFor_X4_causeToFail rfl rfl rfl (by decide +kernel) ⟨Nat.le_of_ble_eq_true rfl, Nat.le_of_ble_eq_true rfl⟩) rfl (hC.2.2.2.2.1 r (by omega)) rfl rfl rfl rfl (Nat.le_of_ble_eq_true rfl) dX5_attemptFor_41 ⟨Nat.zero_le _, Nat.zero_le _⟩ (fun _ _ _ _ zv3 => ?_)
      obtain ⟨rfl, rfl, rfl, rfl⟩ := zv3
      show GG p l e _ s m _ below meth c D A ad dm _ _ _ _ (cw D ad cs (up2 σ 25 b ((σ 25 b) + 1)) Lx cap mk ev zl tx mt tn tc w0) 44 _ [(va_rf (Option.map (fun i => D.2 100 (1 + i)) (caF (up2 σ 25 b ((σ 25 b) + 1)) r)))]
      rcases caF_c σ r with hcz | hcz | hcz | hcz
      ·
        refine g_stE (st1 := [.null]) (by show [va_rf (Option.map _ (caF σ r))] = _; rw [hcz]; rfl) ?_
        refine g_astore_nN F (lv1 := [(3, .null), (2, .ref (ad 17 b)), (0, .ref (ad 10 0)), (1, .ref (ad 14 r))]) dX5_attemptFor_44 rfl (by decide) rfl ?_
        refine g_aload_nN F 0 dX5_attemptFor_45 rfl rfl ?_
        refine g_ifnonnullN F dX5_attemptFor_46 ?_
        refine g_aload_n F 1 dX5_attemptFor_49 rfl rfl ?_
        refine g_aload_n F 2 dX5_attemptFor_50 rfl rfl ?_
        refine g_getf (k := 10) (i := 0) (ci := 5) (C := RX5) (T := TX5) (N := 4) (fs := (cO ad (up2 σ 25 b ((σ 25 b) + 1)))) (fk := 3) F hinX5 hC.1 rfl rfl (by decide) (by decide +kernel) rfl (congrArg (fun z : Int32 => some (Value.int z)) (show (up2 σ 25 b ((σ 25 b) + 1)) 0 0 = (σ 0 0) from ((up2_ne _ _ (fun h => absurd h.1 (by decide))).trans rfl))) dX5_attemptFor_51 ?_
        refine q_callV F (C := RX3) (k := 17) (i := b) (ci := 3) (T := TX3) (N := 16) (rest := []) [.int (σ 0 0)] (cc_arrive l D A cs ad dm (up2 σ 25 b ((σ 25 b) + 1)) Lx cap mk ev zl tx mt tn tc w0 n tq hC b (σ 0 0) hn22 hlo (by omega) hbf hbz hbt) (cwV 1 F.1.2.2.2.2 gX5_attemptFor_X3_arrive rfl rfl rfl (by decide +kernel) ⟨Nat.le_of_ble_eq_true rfl, Nat.le_of_ble_eq_true rfl⟩) rfl (hC.2.2.2.2.2.2.2.1 b (by omega)).1 rfl rfl rfl rfl (Nat.le_of_ble_eq_true rfl) dX5_attemptFor_54 ⟨Nat.le_of_eq ((Nat.zero_add _).trans (Eq.symm (congrArg (fun z : CSt × Nat × Int32 => z.2.1) (att_2 (s := (σ, Lx, ev, zl)) hq9 zc2 hcz)))), Nat.le_of_eq ((Nat.zero_add _).trans (congrArg (fun z => 60 * z) (Eq.symm (congrArg (fun z : CSt × Nat × Int32 => z.2.1) (att_2 (s := (σ, Lx, ev, zl)) hq9 zc2 hcz)))))⟩ (fun _ _ _ _ zv4 => ?_)
        obtain ⟨rfl, g54, d54, cp54, mq54, rfl, rfl, hC54, hlo54, rfl⟩ := zv4
        show GG p l e _ s m _ below meth c D A (r16 ad g54) (r16 dm d54) _ _ _ _ (cw D (r16 ad g54) cs (arrT (nI (tn (mt b))) b (σ 0 0) ((up2 σ 25 b ((σ 25 b) + 1)), Lx, ev, zl)).1 (arrT (nI (tn (mt b))) b (σ 0 0) ((up2 σ 25 b ((σ 25 b) + 1)), Lx, ev, zl)).2.1 cp54 mq54 (arrT (nI (tn (mt b))) b (σ 0 0) ((up2 σ 25 b ((σ 25 b) + 1)), Lx, ev, zl)).2.2.1 (arrT (nI (tn (mt b))) b (σ 0 0) ((up2 σ 25 b ((σ 25 b) + 1)), Lx, ev, zl)).2.2.2 tx mt tn tc w0) 57 _ []
        refine g_iconst F dX5_attemptFor_57 (v := 1) (by decide) ?_
        exact g_qi F hr hlocks (fun _ h => h) ⟨(congrArg some ((congrArg (fun z : CSt × Nat × Int32 => Value.int z.2.2) (att_2 (s := (σ, Lx, ev, zl)) hq9 zc2 hcz)).symm)), (by rw [(att_2 (s := (σ, Lx, ev, zl)) hq9 zc2 hcz)]; exact ⟨g54, d54, cp54, mq54, rfl, rfl, hC54, hlo54, rfl⟩)⟩ (Nat.le_of_eq ((Nat.zero_add _).trans (Eq.symm (congrArg (fun z : CSt × Nat × Int32 => z.2.1) (att_2 (s := (σ, Lx, ev, zl)) hq9 zc2 hcz))))) (Nat.le_of_eq ((Nat.zero_add _).trans (congrArg (fun z => 60 * z) (Eq.symm (congrArg (fun z : CSt × Nat × Int32 => z.2.1) (att_2 (s := (σ, Lx, ev, zl)) hq9 zc2 hcz)))))) dX5_attemptFor_58
      ·
        refine g_stE (st1 := [.ref (D.2 100 (1 + 0))]) (by show [va_rf (Option.map _ (caF σ r))] = _; rw [hcz]; rfl) ?_
        refine g_astore_n F (lv1 := [(3, .ref (D.2 100 (1 + 0))), (2, .ref (ad 17 b)), (0, .ref (ad 10 0)), (1, .ref (ad 14 r))]) dX5_attemptFor_44 rfl (by decide) rfl ?_
        refine g_aload_n F 0 dX5_attemptFor_45 rfl rfl ?_
        refine g_ifnonnull F (tgt := 59) dX5_attemptFor_46 (by decide) ?_
        refine g_aload_n F 1 dX5_attemptFor_59 rfl rfl ?_
        refine g_aload_n F 0 dX5_attemptFor_60 rfl rfl ?_
        refine g_aload_n F 2 dX5_attemptFor_61 rfl rfl ?_
        refine g_getf (k := 10) (i := 0) (ci := 5) (C := RX5) (T := TX5) (N := 4) (fs := (cO ad (up2 σ 25 b ((σ 25 b) + 1)))) (fk := 3) F hinX5 hC.1 rfl rfl (by decide) (by decide +kernel) rfl (congrArg (fun z : Int32 => some (Value.int z)) (show (up2 σ 25 b ((σ 25 b) + 1)) 0 0 = (σ 0 0) from ((up2_ne _ _ (fun h => absurd h.1 (by decide))).trans rfl))) dX5_attemptFor_62 ?_
        refine q_callV F (C := RX3) (k := 17) (i := b) (ci := 3) (T := TX3) (N := 16) (rest := []) [.ref (D.2 100 (1 + 0)), .int (σ 0 0)] (cc_fail0 l D A cs ad dm (up2 σ 25 b ((σ 25 b) + 1)) Lx cap mk ev zl tx mt tn tc w0 n tq hC b (σ 0 0) (by omega) hbz hbf.2.2.2.1) (cwV 2 F.1.2.2.2.2 gX5_attemptFor_X3_fail rfl rfl rfl (by decide +kernel) ⟨Nat.le_of_ble_eq_true rfl, Nat.le_of_ble_eq_true rfl⟩) rfl (hC.2.2.2.2.2.2.2.1 b (by omega)).1 rfl rfl rfl rfl (Nat.le_of_ble_eq_true rfl) dX5_attemptFor_65 ⟨Nat.zero_le _, Nat.zero_le _⟩ (fun _ _ _ _ zv5 => ?_)
        obtain ⟨rfl, rfl, rfl, rfl⟩ := zv5
        show GG p l e _ s m _ below meth c D A ad dm _ _ _ _ (cw D ad cs (up2 (up2 (up2 σ 25 b ((σ 25 b) + 1)) 27 ((3 * b) + (2 - 0)) (((up2 σ 25 b ((σ 25 b) + 1)) 27 ((3 * b) + (2 - 0))) + 1)) 26 b ((σ 0 0) + (dlA 2 (((up2 σ 25 b ((σ 25 b) + 1)) 27 ((3 * b) + (2 - 0))) + 1)))) Lx cap mk (up2 ev b (zl b) (2 + 0)) (va_up zl b ((zl b) + 1)) tx mt tn tc w0) 68 _ []
        refine g_aload_n F 3 dX5_attemptFor_68 rfl rfl ?_
        refine g_dup F dX5_attemptFor_69 rfl ?_
        refine g_getf (k := 14) (i := r) (ci := 4) (C := RX4) (T := TX4) (N := 5) (fs := (cR ad (up2 (up2 (up2 σ 25 b ((σ 25 b) + 1)) 27 ((3 * b) + (2 - 0)) (((up2 σ 25 b ((σ 25 b) + 1)) 27 ((3 * b) + (2 - 0))) + 1)) 26 b ((σ 0 0) + (dlA 2 (((up2 σ 25 b ((σ 25 b) + 1)) 27 ((3 * b) + (2 - 0))) + 1)))) r)) (fk := 3) F hinX4 (hC.2.2.2.2.1 r (by omega)) rfl rfl (by decide) (by decide +kernel) rfl (congrArg (fun z : Int32 => some (Value.int z)) (show (up2 (up2 (up2 σ 25 b ((σ 25 b) + 1)) 27 ((3 * b) + (2 - 0)) (((up2 σ 25 b ((σ 25 b) + 1)) 27 ((3 * b) + (2 - 0))) + 1)) 26 b ((σ 0 0) + (dlA 2 (((up2 σ 25 b ((σ 25 b) + 1)) 27 ((3 * b) + (2 - 0))) + 1)))) 31 r = (σ 31 r) from ((up2_ne _ _ (fun h => absurd h.1 (by decide))).trans ((up2_ne _ _ (fun h => absurd h.1 (by decide))).trans ((up2_ne _ _ (fun h => absurd h.1 (by decide))).trans rfl))))) dX5_attemptFor_70 ?_
        refine g_aload_n F 0 dX5_attemptFor_73 rfl rfl ?_
        refine g_getC F 0 2 (v := 0) (by decide) rfl rfl (by decide +kernel) dX5_attemptFor_74 ?_
        refine g_ior F dX5_attemptFor_77 ?_
        refine g_putf (k := 14) (i := r) (ci := 4) (C := RX4) (T := TX4) (N := 5) (fs := (cR ad (up2 (up2 (up2 σ 25 b ((σ 25 b) + 1)) 27 ((3 * b) + (2 - 0)) (((up2 σ 25 b ((σ 25 b) + 1)) 27 ((3 * b) + (2 - 0))) + 1)) 26 b ((σ 0 0) + (dlA 2 (((up2 σ 25 b ((σ 25 b) + 1)) 27 ((3 * b) + (2 - 0))) + 1)))) r)) (fk := 3) (v := .int ((σ 31 r) ||| 0)) (ty := .int) (tf := tyX4) F hinX4 tyX4_ok nmX4 (hC.2.2.2.2.1 r (by omega)) rfl rfl (by decide) (by decide +kernel) rfl rfl (by decide +kernel) rfl rfl (show 3 < 5 by decide) dX5_attemptFor_78 ?_
        refine g_w (w1 := (cw D ad cs (up2 (up2 (up2 (up2 σ 25 b ((σ 25 b) + 1)) 27 ((3 * b) + (2 - 0)) (((up2 σ 25 b ((σ 25 b) + 1)) 27 ((3 * b) + (2 - 0))) + 1)) 26 b ((σ 0 0) + (dlA 2 (((up2 σ 25 b ((σ 25 b) + 1)) 27 ((3 * b) + (2 - 0))) + 1)))) 31 r ((σ 31 r) ||| 0)) Lx cap mk (up2 ev b (zl b) (2 + 0)) (va_up zl b ((zl b) + 1)) tx mt tn tc w0)) (cp_31 r ((σ 31 r) ||| 0)).symm ?_
        refine g_iconst F dX5_attemptFor_81 (v := 0) (by decide) ?_
        exact g_qi F hr hlocks (fun _ h => h) ⟨(congrArg some ((congrArg (fun z : CSt × Nat × Int32 => Value.int z.2.2) (att_30 (s := (σ, Lx, ev, zl)) hq9 zc2 hcz)).symm)), (by rw [(att_30 (s := (σ, Lx, ev, zl)) hq9 zc2 hcz)]; show EXP D cs n tq ad dm (up2 (up2 (up2 (up2 σ 25 b ((σ 25 b) + 1)) 27 ((3 * b) + (2 - 0)) (((up2 σ 25 b ((σ 25 b) + 1)) 27 ((3 * b) + (2 - 0))) + 1)) 26 b ((σ 0 0) + (dlA 2 (((up2 σ 25 b ((σ 25 b) + 1)) 27 ((3 * b) + (2 - 0))) + 1)))) 31 r ((σ 31 r) ||| 0)) Lx (up2 ev b (zl b) (2 + 0)) (va_up zl b ((zl b) + 1)) tx mt tn tc w0 _ _ _; exact EXP.same hC hlo)⟩ (Nat.zero_le _) (Nat.zero_le _) dX5_attemptFor_82
      ·
        refine g_stE (st1 := [.ref (D.2 100 (1 + 1))]) (by show [va_rf (Option.map _ (caF σ r))] = _; rw [hcz]; rfl) ?_
        refine g_astore_n F (lv1 := [(3, .ref (D.2 100 (1 + 1))), (2, .ref (ad 17 b)), (0, .ref (ad 10 0)), (1, .ref (ad 14 r))]) dX5_attemptFor_44 rfl (by decide) rfl ?_
        refine g_aload_n F 0 dX5_attemptFor_45 rfl rfl ?_
        refine g_ifnonnull F (tgt := 59) dX5_attemptFor_46 (by decide) ?_
        refine g_aload_n F 1 dX5_attemptFor_59 rfl rfl ?_
        refine g_aload_n F 0 dX5_attemptFor_60 rfl rfl ?_
        refine g_aload_n F 2 dX5_attemptFor_61 rfl rfl ?_
        refine g_getf (k := 10) (i := 0) (ci := 5) (C := RX5) (T := TX5) (N := 4) (fs := (cO ad (up2 σ 25 b ((σ 25 b) + 1)))) (fk := 3) F hinX5 hC.1 rfl rfl (by decide) (by decide +kernel) rfl (congrArg (fun z : Int32 => some (Value.int z)) (show (up2 σ 25 b ((σ 25 b) + 1)) 0 0 = (σ 0 0) from ((up2_ne _ _ (fun h => absurd h.1 (by decide))).trans rfl))) dX5_attemptFor_62 ?_
        refine q_callV F (C := RX3) (k := 17) (i := b) (ci := 3) (T := TX3) (N := 16) (rest := []) [.ref (D.2 100 (1 + 1)), .int (σ 0 0)] (cc_fail1 l D A cs ad dm (up2 σ 25 b ((σ 25 b) + 1)) Lx cap mk ev zl tx mt tn tc w0 n tq hC b (σ 0 0) (by omega) hbz hbf.2.2.2.1) (cwV 2 F.1.2.2.2.2 gX5_attemptFor_X3_fail rfl rfl rfl (by decide +kernel) ⟨Nat.le_of_ble_eq_true rfl, Nat.le_of_ble_eq_true rfl⟩) rfl (hC.2.2.2.2.2.2.2.1 b (by omega)).1 rfl rfl rfl rfl (Nat.le_of_ble_eq_true rfl) dX5_attemptFor_65 ⟨Nat.zero_le _, Nat.zero_le _⟩ (fun _ _ _ _ zv6 => ?_)
        obtain ⟨rfl, rfl, rfl, rfl⟩ := zv6
        show GG p l e _ s m _ below meth c D A ad dm _ _ _ _ (cw D ad cs (up2 (up2 (up2 σ 25 b ((σ 25 b) + 1)) 27 ((3 * b) + (2 - 1)) (((up2 σ 25 b ((σ 25 b) + 1)) 27 ((3 * b) + (2 - 1))) + 1)) 26 b ((σ 0 0) + (dlA 5 (((up2 σ 25 b ((σ 25 b) + 1)) 27 ((3 * b) + (2 - 1))) + 1)))) Lx cap mk (up2 ev b (zl b) (2 + 1)) (va_up zl b ((zl b) + 1)) tx mt tn tc w0) 68 _ []
        refine g_aload_n F 3 dX5_attemptFor_68 rfl rfl ?_
        refine g_dup F dX5_attemptFor_69 rfl ?_
        refine g_getf (k := 14) (i := r) (ci := 4) (C := RX4) (T := TX4) (N := 5) (fs := (cR ad (up2 (up2 (up2 σ 25 b ((σ 25 b) + 1)) 27 ((3 * b) + (2 - 1)) (((up2 σ 25 b ((σ 25 b) + 1)) 27 ((3 * b) + (2 - 1))) + 1)) 26 b ((σ 0 0) + (dlA 5 (((up2 σ 25 b ((σ 25 b) + 1)) 27 ((3 * b) + (2 - 1))) + 1)))) r)) (fk := 3) F hinX4 (hC.2.2.2.2.1 r (by omega)) rfl rfl (by decide) (by decide +kernel) rfl (congrArg (fun z : Int32 => some (Value.int z)) (show (up2 (up2 (up2 σ 25 b ((σ 25 b) + 1)) 27 ((3 * b) + (2 - 1)) (((up2 σ 25 b ((σ 25 b) + 1)) 27 ((3 * b) + (2 - 1))) + 1)) 26 b ((σ 0 0) + (dlA 5 (((up2 σ 25 b ((σ 25 b) + 1)) 27 ((3 * b) + (2 - 1))) + 1)))) 31 r = (σ 31 r) from ((up2_ne _ _ (fun h => absurd h.1 (by decide))).trans ((up2_ne _ _ (fun h => absurd h.1 (by decide))).trans ((up2_ne _ _ (fun h => absurd h.1 (by decide))).trans rfl))))) dX5_attemptFor_70 ?_
        refine g_aload_n F 0 dX5_attemptFor_73 rfl rfl ?_
        refine g_getC F 1 2 (v := 1) (by decide) rfl rfl (by decide +kernel) dX5_attemptFor_74 ?_
        refine g_ior F dX5_attemptFor_77 ?_
        refine g_putf (k := 14) (i := r) (ci := 4) (C := RX4) (T := TX4) (N := 5) (fs := (cR ad (up2 (up2 (up2 σ 25 b ((σ 25 b) + 1)) 27 ((3 * b) + (2 - 1)) (((up2 σ 25 b ((σ 25 b) + 1)) 27 ((3 * b) + (2 - 1))) + 1)) 26 b ((σ 0 0) + (dlA 5 (((up2 σ 25 b ((σ 25 b) + 1)) 27 ((3 * b) + (2 - 1))) + 1)))) r)) (fk := 3) (v := .int ((σ 31 r) ||| 1)) (ty := .int) (tf := tyX4) F hinX4 tyX4_ok nmX4 (hC.2.2.2.2.1 r (by omega)) rfl rfl (by decide) (by decide +kernel) rfl rfl (by decide +kernel) rfl rfl (show 3 < 5 by decide) dX5_attemptFor_78 ?_
        refine g_w (w1 := (cw D ad cs (up2 (up2 (up2 (up2 σ 25 b ((σ 25 b) + 1)) 27 ((3 * b) + (2 - 1)) (((up2 σ 25 b ((σ 25 b) + 1)) 27 ((3 * b) + (2 - 1))) + 1)) 26 b ((σ 0 0) + (dlA 5 (((up2 σ 25 b ((σ 25 b) + 1)) 27 ((3 * b) + (2 - 1))) + 1)))) 31 r ((σ 31 r) ||| 1)) Lx cap mk (up2 ev b (zl b) (2 + 1)) (va_up zl b ((zl b) + 1)) tx mt tn tc w0)) (cp_31 r ((σ 31 r) ||| 1)).symm ?_
        refine g_iconst F dX5_attemptFor_81 (v := 0) (by decide) ?_
        exact g_qi F hr hlocks (fun _ h => h) ⟨(congrArg some ((congrArg (fun z : CSt × Nat × Int32 => Value.int z.2.2) (att_31 (s := (σ, Lx, ev, zl)) hq9 zc2 hcz)).symm)), (by rw [(att_31 (s := (σ, Lx, ev, zl)) hq9 zc2 hcz)]; show EXP D cs n tq ad dm (up2 (up2 (up2 (up2 σ 25 b ((σ 25 b) + 1)) 27 ((3 * b) + (2 - 1)) (((up2 σ 25 b ((σ 25 b) + 1)) 27 ((3 * b) + (2 - 1))) + 1)) 26 b ((σ 0 0) + (dlA 5 (((up2 σ 25 b ((σ 25 b) + 1)) 27 ((3 * b) + (2 - 1))) + 1)))) 31 r ((σ 31 r) ||| 1)) Lx (up2 ev b (zl b) (2 + 1)) (va_up zl b ((zl b) + 1)) tx mt tn tc w0 _ _ _; exact EXP.same hC hlo)⟩ (Nat.zero_le _) (Nat.zero_le _) dX5_attemptFor_82
      ·
        refine g_stE (st1 := [.ref (D.2 100 (1 + 2))]) (by show [va_rf (Option.map _ (caF σ r))] = _; rw [hcz]; rfl) ?_
        refine g_astore_n F (lv1 := [(3, .ref (D.2 100 (1 + 2))), (2, .ref (ad 17 b)), (0, .ref (ad 10 0)), (1, .ref (ad 14 r))]) dX5_attemptFor_44 rfl (by decide) rfl ?_
        refine g_aload_n F 0 dX5_attemptFor_45 rfl rfl ?_
        refine g_ifnonnull F (tgt := 59) dX5_attemptFor_46 (by decide) ?_
        refine g_aload_n F 1 dX5_attemptFor_59 rfl rfl ?_
        refine g_aload_n F 0 dX5_attemptFor_60 rfl rfl ?_
        refine g_aload_n F 2 dX5_attemptFor_61 rfl rfl ?_
        refine g_getf (k := 10) (i := 0) (ci := 5) (C := RX5) (T := TX5) (N := 4) (fs := (cO ad (up2 σ 25 b ((σ 25 b) + 1)))) (fk := 3) F hinX5 hC.1 rfl rfl (by decide) (by decide +kernel) rfl (congrArg (fun z : Int32 => some (Value.int z)) (show (up2 σ 25 b ((σ 25 b) + 1)) 0 0 = (σ 0 0) from ((up2_ne _ _ (fun h => absurd h.1 (by decide))).trans rfl))) dX5_attemptFor_62 ?_
        refine q_callV F (C := RX3) (k := 17) (i := b) (ci := 3) (T := TX3) (N := 16) (rest := []) [.ref (D.2 100 (1 + 2)), .int (σ 0 0)] (cc_fail2 l D A cs ad dm (up2 σ 25 b ((σ 25 b) + 1)) Lx cap mk ev zl tx mt tn tc w0 n tq hC b (σ 0 0) (by omega) hbz hbf.2.2.2.1) (cwV 2 F.1.2.2.2.2 gX5_attemptFor_X3_fail rfl rfl rfl (by decide +kernel) ⟨Nat.le_of_ble_eq_true rfl, Nat.le_of_ble_eq_true rfl⟩) rfl (hC.2.2.2.2.2.2.2.1 b (by omega)).1 rfl rfl rfl rfl (Nat.le_of_ble_eq_true rfl) dX5_attemptFor_65 ⟨Nat.zero_le _, Nat.zero_le _⟩ (fun _ _ _ _ zv7 => ?_)
        obtain ⟨rfl, rfl, rfl, rfl⟩ := zv7
        show GG p l e _ s m _ below meth c D A ad dm _ _ _ _ (cw D ad cs (up2 (up2 (up2 σ 25 b ((σ 25 b) + 1)) 27 ((3 * b) + (2 - 2)) (((up2 σ 25 b ((σ 25 b) + 1)) 27 ((3 * b) + (2 - 2))) + 1)) 26 b ((σ 0 0) + (dlA 10 (((up2 σ 25 b ((σ 25 b) + 1)) 27 ((3 * b) + (2 - 2))) + 1)))) Lx cap mk (up2 ev b (zl b) (2 + 2)) (va_up zl b ((zl b) + 1)) tx mt tn tc w0) 68 _ []
        refine g_aload_n F 3 dX5_attemptFor_68 rfl rfl ?_
        refine g_dup F dX5_attemptFor_69 rfl ?_
        refine g_getf (k := 14) (i := r) (ci := 4) (C := RX4) (T := TX4) (N := 5) (fs := (cR ad (up2 (up2 (up2 σ 25 b ((σ 25 b) + 1)) 27 ((3 * b) + (2 - 2)) (((up2 σ 25 b ((σ 25 b) + 1)) 27 ((3 * b) + (2 - 2))) + 1)) 26 b ((σ 0 0) + (dlA 10 (((up2 σ 25 b ((σ 25 b) + 1)) 27 ((3 * b) + (2 - 2))) + 1)))) r)) (fk := 3) F hinX4 (hC.2.2.2.2.1 r (by omega)) rfl rfl (by decide) (by decide +kernel) rfl (congrArg (fun z : Int32 => some (Value.int z)) (show (up2 (up2 (up2 σ 25 b ((σ 25 b) + 1)) 27 ((3 * b) + (2 - 2)) (((up2 σ 25 b ((σ 25 b) + 1)) 27 ((3 * b) + (2 - 2))) + 1)) 26 b ((σ 0 0) + (dlA 10 (((up2 σ 25 b ((σ 25 b) + 1)) 27 ((3 * b) + (2 - 2))) + 1)))) 31 r = (σ 31 r) from ((up2_ne _ _ (fun h => absurd h.1 (by decide))).trans ((up2_ne _ _ (fun h => absurd h.1 (by decide))).trans ((up2_ne _ _ (fun h => absurd h.1 (by decide))).trans rfl))))) dX5_attemptFor_70 ?_
        refine g_aload_n F 0 dX5_attemptFor_73 rfl rfl ?_
        refine g_getC F 2 2 (v := 2) (by decide) rfl rfl (by decide +kernel) dX5_attemptFor_74 ?_
        refine g_ior F dX5_attemptFor_77 ?_
        refine g_putf (k := 14) (i := r) (ci := 4) (C := RX4) (T := TX4) (N := 5) (fs := (cR ad (up2 (up2 (up2 σ 25 b ((σ 25 b) + 1)) 27 ((3 * b) + (2 - 2)) (((up2 σ 25 b ((σ 25 b) + 1)) 27 ((3 * b) + (2 - 2))) + 1)) 26 b ((σ 0 0) + (dlA 10 (((up2 σ 25 b ((σ 25 b) + 1)) 27 ((3 * b) + (2 - 2))) + 1)))) r)) (fk := 3) (v := .int ((σ 31 r) ||| 2)) (ty := .int) (tf := tyX4) F hinX4 tyX4_ok nmX4 (hC.2.2.2.2.1 r (by omega)) rfl rfl (by decide) (by decide +kernel) rfl rfl (by decide +kernel) rfl rfl (show 3 < 5 by decide) dX5_attemptFor_78 ?_
        refine g_w (w1 := (cw D ad cs (up2 (up2 (up2 (up2 σ 25 b ((σ 25 b) + 1)) 27 ((3 * b) + (2 - 2)) (((up2 σ 25 b ((σ 25 b) + 1)) 27 ((3 * b) + (2 - 2))) + 1)) 26 b ((σ 0 0) + (dlA 10 (((up2 σ 25 b ((σ 25 b) + 1)) 27 ((3 * b) + (2 - 2))) + 1)))) 31 r ((σ 31 r) ||| 2)) Lx cap mk (up2 ev b (zl b) (2 + 2)) (va_up zl b ((zl b) + 1)) tx mt tn tc w0)) (cp_31 r ((σ 31 r) ||| 2)).symm ?_
        refine g_iconst F dX5_attemptFor_81 (v := 0) (by decide) ?_
        exact g_qi F hr hlocks (fun _ h => h) ⟨(congrArg some ((congrArg (fun z : CSt × Nat × Int32 => Value.int z.2.2) (att_32 (s := (σ, Lx, ev, zl)) hq9 zc2 hcz)).symm)), (by rw [(att_32 (s := (σ, Lx, ev, zl)) hq9 zc2 hcz)]; show EXP D cs n tq ad dm (up2 (up2 (up2 (up2 σ 25 b ((σ 25 b) + 1)) 27 ((3 * b) + (2 - 2)) (((up2 σ 25 b ((σ 25 b) + 1)) 27 ((3 * b) + (2 - 2))) + 1)) 26 b ((σ 0 0) + (dlA 10 (((up2 σ 25 b ((σ 25 b) + 1)) 27 ((3 * b) + (2 - 2))) + 1)))) 31 r ((σ 31 r) ||| 2)) Lx (up2 ev b (zl b) (2 + 2)) (va_up zl b ((zl b) + 1)) tx mt tn tc w0 _ _ _; exact EXP.same hC hlo)⟩ (Nat.zero_le _) (Nat.zero_le _) dX5_attemptFor_82
    ·
      refine g_aload_n F 0 dX5_attemptFor_33 rfl rfl ?_
      refine g_iconst F dX5_attemptFor_34 (v := 4) (by decide) ?_
      refine q_callV F (C := RX3) (k := 17) (i := b) (ci := 3) (T := TX3) (N := 16) (rest := []) [.int 4] (cc_finish l D A cs ad dm (up2 σ 25 b ((σ 25 b) + 1)) Lx cap mk ev zl tx mt tn tc w0 n tq hC b 4 hn22 hlo (by omega) hbf (fun _ => hbz)) (cwV 1 F.1.2.2.2.2 gX5_attemptFor_X3_finish rfl rfl rfl (by decide +kernel) ⟨Nat.le_of_ble_eq_true rfl, Nat.le_of_ble_eq_true rfl⟩) rfl (hC.2.2.2.2.2.2.2.1 b (by omega)).1 rfl rfl rfl rfl (Nat.le_of_ble_eq_true rfl) dX5_attemptFor_35 ⟨(Nat.le_trans (show 0 + 1 ≤ 1 by decide) (Nat.le_of_eq (Eq.symm (congrArg (fun z : CSt × Nat × Int32 => z.2.1) (att_1 (s := (σ, Lx, ev, zl)) hq9 zc2))))), (Nat.le_trans (show 0 + 60 ≤ 60 * 1 by decide) (Nat.le_of_eq (congrArg (fun z => 60 * z) (Eq.symm (congrArg (fun z : CSt × Nat × Int32 => z.2.1) (att_1 (s := (σ, Lx, ev, zl)) hq9 zc2))))))⟩ (fun _ _ _ _ zv8 => ?_)
      obtain ⟨rfl, g35, d35, cp35, mq35, rfl, rfl, hC35, hlo35, rfl⟩ := zv8
      show GG p l e _ s m _ below meth c D A (r16 ad g35) (r16 dm d35) _ _ _ _ (cw D (r16 ad g35) cs (finT b 4 ((up2 σ 25 b ((σ 25 b) + 1)), Lx, ev, zl)).1 (finT b 4 ((up2 σ 25 b ((σ 25 b) + 1)), Lx, ev, zl)).2.1 cp35 mq35 (finT b 4 ((up2 σ 25 b ((σ 25 b) + 1)), Lx, ev, zl)).2.2.1 (finT b 4 ((up2 σ 25 b ((σ 25 b) + 1)), Lx, ev, zl)).2.2.2 tx mt tn tc w0) 38 _ []
      refine g_iconst F dX5_attemptFor_38 (v := 0) (by decide) ?_
      exact g_qi F hr hlocks (fun _ h => h) ⟨(congrArg some ((congrArg (fun z : CSt × Nat × Int32 => Value.int z.2.2) (att_1 (s := (σ, Lx, ev, zl)) hq9 zc2)).symm)), (by rw [(att_1 (s := (σ, Lx, ev, zl)) hq9 zc2)]; exact ⟨g35, d35, cp35, mq35, rfl, rfl, hC35, hlo35, rfl⟩)⟩ (Nat.le_trans (show 0 + 1 ≤ 1 by decide) (Nat.le_of_eq (Eq.symm (congrArg (fun z : CSt × Nat × Int32 => z.2.1) (att_1 (s := (σ, Lx, ev, zl)) hq9 zc2))))) (Nat.le_trans (show 0 + 60 ≤ 60 * 1 by decide) (Nat.le_of_eq (congrArg (fun z => 60 * z) (Eq.symm (congrArg (fun z : CSt × Nat × Int32 => z.2.1) (att_1 (s := (σ, Lx, ev, zl)) hq9 zc2)))))) dX5_attemptFor_39

