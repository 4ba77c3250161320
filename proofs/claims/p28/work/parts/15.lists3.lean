section GRW
variable {D : va_G} {ad : Nat → Nat → Nat} {cs : Nat → ClassId} {σ : SG} {Lx : Nat → List Nat} {cap : Nat → Nat} {mk : Nat → Int32} {ev : SG} {zl tx mt tn : Nat → Nat} {tc : SG} {w0 : CF}
theorem up2_kind {ad : Nat → Nat → Nat} {k i q K : Nat} (h : K ≠ k) : up2 ad k i q K = ad K := by
  funext b
  exact up2_ne _ _ (fun z => h z.1)
theorem up2_id (ad : Nat → Nat → Nat) (k i : Nat) : up2 ad k i (ad k i) = ad := by
  funext a b
  by_cases h : a = k ∧ b = i
  · rw [h.1, h.2, up2_self]
  · rw [up2_ne _ _ h]
theorem vup_id {α : Type} (f : Nat → α) (i : Nat) : va_up f i (f i) = f := by
  funext b
  by_cases h : b = i
  · rw [h, va_up_self]
  · rw [va_up_ne _ _ h]
/-- a list's row moves: the other cells are what they were -/
theorem cw_ad {i q c2 : Nat} {k b : Nat} (h : ¬ ((k = 15 ∨ k = 16) ∧ b = i)) : cw D (up2 ad 16 i q) cs σ Lx (va_up cap i c2) mk ev zl tx mt tn tc w0 k b = cw D ad cs σ Lx cap mk ev zl tx mt tn tc w0 k b := by
  have e : ∀ K, K ≠ 16 → up2 ad 16 i q K = ad K := fun K hK => up2_kind hK
  unfold cw cO cA cR cM cL cX
  rw [e 11 (by decide), e 12 (by decide), e 13 (by decide), e 14 (by decide), e 15 (by decide), e 17 (by decide), e 18 (by decide), e 19 (by decide), e 20 (by decide), e 21 (by decide)]
  by_cases h5 : k = 15
  · have hb : b ≠ i := fun z => h ⟨.inl h5, z⟩
    unfold cE
    rw [va_up_ne _ _ hb, up2_ne ad q (fun z => hb z.2)]
  · by_cases h6 : k = 16
    · have hb : b ≠ i := fun z => h ⟨.inr h6, z⟩
      simp only [if_neg h5, va_up_ne _ _ hb]
    · simp only [if_neg h5, if_neg h6]
theorem gr_end {A : Nat → Prop} {dm : Nat → Nat → Prop} {i q c2 : Nat} {H : Heap} (hn22 : ¬ dm 22 0) (h15 : dm 15 i) (hc2 : 0 < c2) {g : Nat → Option Nat} (hg : g = cX ad (Lx i)) (h : HW D A (up2 ad 22 0 q) (fun a b => dm a b ∨ (a = 22 ∧ b = 0)) (up2 (up2 (cw D ad cs σ Lx cap mk ev zl tx mt tn tc w0) 22 0 (.inl (cs 5, c2, .inr (.inr (.inr (.inr g)))))) 15 i (.inr (0, (cL D ad Lx cap mk i).set 1 (.ref q)))) H) :
    HW D A (up2 ad 16 i q) (fun a b => dm a b ∨ (a = 16 ∧ b = i)) (cw D (up2 ad 16 i q) cs σ Lx (va_up cap i c2) mk ev zl tx mt tn tc w0) H := by
  refine h.ren (fun a b => if a = 16 ∧ b = i then (22, 0) else (a, b)) (fun a b hd => ?_) (fun a b a' b' hd hd' e9 => ?_)
  · by_cases h6 : a = 16 ∧ b = i
    · simp only [if_pos h6]
      refine ⟨.inr ⟨by trivial, by trivial⟩, by rw [h6.1, h6.2, up2_self, up2_self], ?_⟩
      rw [up2_ne _ _ (fun z => absurd z.1 (by decide)), up2_self, h6.1, h6.2, hg]
      show va_E_id (.inl (cs 5, va_up cap i c2 i, .inr (.inr (.inr (.inr (cX (up2 ad 16 i q) (Lx i))))))) = _
      rw [va_up_self]
      unfold cX
      rw [up2_kind (by decide)]
    · simp only [if_neg h6]
      have hd := hd.resolve_right h6
      have h22 : ¬ (a = 22 ∧ b = 0) := fun z => hn22 (by rw [← z.1, ← z.2]; exact hd)
      refine ⟨.inl hd, by rw [up2_ne _ _ h6, up2_ne _ _ h22], ?_⟩
      by_cases h5 : a = 15 ∧ b = i
      · rw [h5.1, h5.2, up2_self]
        show va_E_id (.inr (0, cL D (up2 ad 16 i q) Lx (va_up cap i c2) mk i)) = _
        unfold cL cE
        rw [va_up_self, if_neg (by omega), up2_self]
        rfl
      · rw [up2_ne _ _ h5, up2_ne _ _ h22]
        exact cw_ad (fun z => z.1.elim (fun y => h5 ⟨y, z.2⟩) (fun y => h6 ⟨y, z.2⟩))
  · by_cases h6 : a = 16 ∧ b = i
    · by_cases h6' : a' = 16 ∧ b' = i
      · exact ⟨h6.1.trans h6'.1.symm, h6.2.trans h6'.2.symm⟩
      · simp only [if_pos h6, if_neg h6'] at e9
        have hd' := hd'.resolve_right h6'
        have e1 := congrArg Prod.fst e9
        have e2 := congrArg Prod.snd e9
        exact absurd (by rw [show (22 : Nat) = a' from e1, show (0 : Nat) = b' from e2]; exact hd') hn22
    · by_cases h6' : a' = 16 ∧ b' = i
      · simp only [if_neg h6, if_pos h6'] at e9
        have hd := hd.resolve_right h6
        have e1 := congrArg Prod.fst e9
        have e2 := congrArg Prod.snd e9
        exact absurd (by rw [show (22 : Nat) = a from e1.symm, show (0 : Nat) = b from e2.symm]; exact hd) hn22
      · simp only [if_neg h6, if_neg h6'] at e9
        exact ⟨congrArg Prod.fst e9, congrArg Prod.snd e9⟩
theorem cX_cpy (xs : List Nat) : va_cpy (cX ad xs) (fun _ => none) 0 0 xs.length = cX ad xs := by
  funext k
  rcases Nat.lt_or_ge k xs.length with h | h
  · rw [pk_cpy_in (Nat.zero_le _) (by omega), show 0 + (k - 0) = k by omega]
  · rw [pk_cpy_out (Or.inr (by omega)), cX_out h]
end GRW
section GRR
variable {p : Program} {l : Launch} {e : Env} {R : Room} {s : State} {m : MethodId} {args : Array Value} {below : List Frame} {meth : Method} {c : Code} {cells slots : Nat} {Q : State → Prop} {cc : ByteArray} {nL : Nat} {Ts : List Cond} {own : String} {D : va_G} {A : Nat → Prop} {cs : Nat → ClassId} {ad : Nat → Nat → Nat} {dm : Nat → Nat → Prop} {pc : Nat} {lv : List (Nat × Value)} {rest : List Value} {σ : SG} {Lx : Nat → List Nat} {cap : Nat → Nat} {mk : Nat → Int32} {ev : SG} {zl tx mt tn : Nat → Nat} {tc : SG} {w0 : CF} {n tq : Nat}
/-- the length of a list's row, be it the empty one -/
theorem ca_elen (F : FX p s m args c cc nL Ts own D A (tysG cs)) (hC : CD dm n cap tq) {i : Nat} (hi : i < 11) (d : decode cc pc = .ok (.arraylength, 1)) (kk : GG p l e R s m args below meth c D A ad dm nL cells slots Q (cw D ad cs σ Lx cap mk ev zl tx mt tn tc w0) (pc + 1) lv (.int (nI (cap i)) :: rest)) : GG p l e R s m args below meth c D A ad dm nL cells slots Q (cw D ad cs σ Lx cap mk ev zl tx mt tn tc w0) pc lv (.ref (cE D ad cap i) :: rest) := by
  unfold cE
  by_cases h : cap i = 0
  · rw [if_pos h]
    rw [h] at kk
    exact g_elen F d kk
  · rw [if_neg h]
    exact g_alen (k := 16) (i := i) (t0 := 5) (v := nI (cap i)) F (hC.2.2.2.2.2.2.1 i hi (by omega)) rfl rfl rfl d kk
end GRR
set_option maxHeartbeats 4000000 in
set_option maxRecDepth 100000 in
theorem cl_growI (l : Launch) (D : va_G) (A : Nat → Prop) (cs : Nat → ClassId) (ad : Nat → Nat → Nat) (dm : Nat → Nat → Prop) (σ : SG) (Lx : Nat → List Nat) (cap : Nat → Nat) (mk : Nat → Int32) (ev : SG) (zl tx mt tn : Nat → Nat) (tc : SG) (w0 : CF) (n tq : Nat) (hC : CD dm n cap tq) (i : Nat) (hn22 : ¬ dm 22 0) (hi : i < 11) (hfull : (Lx i).length = cap i) (h39 : (Lx i).length ≤ 39) (hLn : ∀ j ∈ Lx i, j < n) : Met l yJx4a65c_grow_92f84 wsJx4a65c_grow_92f84 ({ frames := 3, cells := 1, slots := 60, locals := 130 }) (va_Pc [.ref (ad 15 i), .int (nI ((Lx i).length + 1))] (PW D A (tysG cs) ad dm (cw D ad cs σ Lx cap mk ev zl tx mt tn tc w0))) (QW D A (tysG cs) (fun r ad1 dm1 w1 => ∃ q c2, r = some (.ref q) ∧ ad1 = up2 ad 16 i q ∧ dm1 = (fun a b => dm a b ∨ (a = 16 ∧ b = i)) ∧ cap i + 1 ≤ c2 ∧ c2 ≤ 60 ∧ w1 = cw D (up2 ad 16 i q) cs σ Lx (va_up cap i c2) mk ev zl tx mt tn tc w0)) 1 60 A := by
  refine g_start (own := RJx4a65c) [.ref (ad 15 i), .int (nI ((Lx i).length + 1))] (cc := cJx4a65c_grow_92f84) (maxL := 4) (ret := (some (.array (.object "java/lang/Object")))) (lv0 := [(0, .ref (ad 15 i)), (1, .int (nI ((Lx i).length + 1)))]) (by decide) rfl rfl (Nat.le_of_ble_eq_true rfl) rfl ?_
  intro p e s m below meth c F hr hlocks hname
  have hin : ∀ w ∈ wsJx4a65c0, w ∈ wsJx4a65c_grow_92f84 := by decide +kernel
  refine g_aload_n F 0 dJx4a65c_grow_92f84_0 rfl rfl ?_
  refine g_getf (k := 15) (i := i) (ci := 0) (C := RJx4a65c) (T := TJx4a65c) (N := 3) (fs := cL D ad Lx cap mk i) (fk := 1) F hin (hC.2.2.2.2.2.1 i hi) rfl rfl (by decide) (by decide +kernel) rfl rfl dJx4a65c_grow_92f84_1 ?_
  refine ca_elen (i := i) F hC hi dJx4a65c_grow_92f84_4 ?_
  refine g_istore_n F (lv1 := [(2, .int (nI (cap i))), (0, .ref (ad 15 i)), (1, .int (nI ((Lx i).length + 1)))]) dJx4a65c_grow_92f84_5 rfl (by decide) rfl ?_
  refine g_iload_n F 0 dJx4a65c_grow_92f84_6 rfl rfl ?_
  refine g_if_gt F (tgt := 20) dJx4a65c_grow_92f84_7 (by decide) (fun c1 => ?_) (fun c1 => ?_)
  · have hc0 : 0 < cap i := (nI_ltE (show (0 : Int32) = nI 0 from rfl) rfl (by omega) (by omega)).mp c1
    refine g_iload_n F 0 dJx4a65c_grow_92f84_20 rfl rfl ?_
    refine g_iload_n F 2 dJx4a65c_grow_92f84_21 rfl rfl ?_
    refine g_iload_n F 0 dJx4a65c_grow_92f84_22 rfl rfl ?_
    refine g_isub F dJx4a65c_grow_92f84_23 ?_
    refine g_top (y := 1) (by rw [hfull, pk_sub (by omega), show cap i + 1 - cap i = 1 by omega]; rfl) ?_
    refine g_iload_n F 0 dJx4a65c_grow_92f84_24 rfl rfl ?_
    refine g_iconst F dJx4a65c_grow_92f84_25 (v := 1) (by decide) ?_
    refine g_ishr F dJx4a65c_grow_92f84_26 ?_
    refine g_top (y := nI (cap i / 2)) (pk_shrN (n := cap i) (by omega) ((1 : Int32) &&& 31) 1 (by decide)).symm ?_
    refine q_callS F (rest := []) [.int (nI (cap i)), .int 1, .int (nI (cap i / 2))] (cl_nl l D A cs ad dm (cw D ad cs σ Lx cap mk ev zl tx mt tn tc w0) (cap i) (cap i / 2) hc0 (by omega) (by omega) (by omega)) (va_cwS 3 F.1.2.2.2.2 gJx4a65c_grow_92f84_J8_newLength_cabcc rfl rfl rfl (by decide +kernel) ⟨Nat.le_of_ble_eq_true rfl, Nat.le_of_ble_eq_true rfl⟩) rfl rfl (Nat.le_of_ble_eq_true rfl) dJx4a65c_grow_92f84_27 ⟨Nat.le_of_ble_eq_true rfl, Nat.le_of_ble_eq_true rfl⟩ (fun _ _ _ _ hv => ?_)
    obtain ⟨rfl, rfl, rfl, rfl⟩ := hv
    show GG p l e _ s m _ below meth c D A ad dm _ _ _ _ (cw D ad cs σ Lx cap mk ev zl tx mt tn tc w0) 30 _ [.int (nI (cap i + max 1 (cap i / 2)))]
    refine g_istore_n F (lv1 := [(3, .int (nI (cap i + max 1 (cap i / 2)))), (2, .int (nI (cap i))), (0, .ref (ad 15 i)), (1, .int (nI ((Lx i).length + 1)))]) dJx4a65c_grow_92f84_30 rfl (by decide) rfl ?_
    refine g_aload_n F 2 dJx4a65c_grow_92f84_31 rfl rfl ?_
    refine g_aload_n F 2 dJx4a65c_grow_92f84_32 rfl rfl ?_
    refine g_getf (k := 15) (i := i) (ci := 0) (C := RJx4a65c) (T := TJx4a65c) (N := 3) (fs := cL D ad Lx cap mk i) (fk := 1) (v := .ref (ad 16 i)) F hin (hC.2.2.2.2.2.1 i hi) rfl rfl (by decide) (by decide +kernel) rfl (congrArg (fun z => some (Value.ref z)) (show cE D ad cap i = ad 16 i from if_neg (by omega))) dJx4a65c_grow_92f84_33 ?_
    refine g_iload_n F 0 dJx4a65c_grow_92f84_36 rfl rfl ?_
    refine q_callS F (rest := [.ref (ad 15 i)]) [.ref (ad 16 i), .int (nI (cap i + max 1 (cap i / 2)))] (cl_cp2 l D A cs ad dm (cw D ad cs σ Lx cap mk ev zl tx mt tn tc w0) i (Lx i).length (cap i + max 1 (cap i / 2)) 60 (cX ad (Lx i)) hn22 (hC.2.2.2.2.2.2.1 i hi (by omega)) (by rw [hfull]; rfl) (by omega) (by omega) (by omega) (fun q hq y hy => by
      rw [cX_at hq] at hy
      exact ⟨_, (Option.some.inj hy).symm, (hC.2.2.2.2.2.2.2.1 _ (hLn _ (getD_mem9 hq))).1, _, rfl⟩)) (va_cwS 2 F.1.2.2.2.2 gJx4a65c_grow_92f84_J7_copyOf_1904c rfl rfl rfl (by decide +kernel) ⟨Nat.le_of_ble_eq_true rfl, Nat.le_of_ble_eq_true rfl⟩) rfl rfl (Nat.le_of_ble_eq_true rfl) dJx4a65c_grow_92f84_37 ⟨Nat.le_of_ble_eq_true rfl, Nat.le_of_ble_eq_true rfl⟩ (fun _ _ _ _ hv => ?_)
    obtain ⟨q, rfl, rfl, rfl, rfl⟩ := hv
    refine g_dup_x1 F dJx4a65c_grow_92f84_40 rfl rfl ?_
    refine g_putf (k := 15) (i := i) (ci := 0) (C := RJx4a65c) (T := TJx4a65c) (N := 3) (fs := cL D ad Lx cap mk i) (fk := 1) (v := .ref q) (ty := .array (.object "java/lang/Object")) (tf := tyJx4a65c) F hin tyJx4a65c_ok nmJx4a65c (Or.inl (hC.2.2.2.2.2.1 i hi)) ((up2_ne _ _ (fun h => absurd h.1 (by decide))).trans rfl) rfl (by decide) (by decide +kernel) rfl rfl (by decide +kernel) rfl rfl (show 1 < 3 by decide) dJx4a65c_grow_92f84_41 ?_
    exact g_qa F hr (.inr ⟨_, rfl⟩) hlocks (fun H hH => gr_end hn22 (hC.2.2.2.2.2.1 i hi) (by omega) (cX_cpy (Lx i)) hH) ⟨q, cap i + max 1 (cap i / 2), rfl, rfl, rfl, by omega, by omega, rfl⟩ (by decide) (by decide) dJx4a65c_grow_92f84_44
  · have hc0 : cap i = 0 := by
      rcases Nat.eq_zero_or_pos (cap i) with h | h
      · exact h
      · exact absurd ((nI_ltE (show (0 : Int32) = nI 0 from rfl) rfl (by omega) (by omega)).mpr h) c1
    have hl0 : (Lx i).length = 0 := by omega
    refine g_aload_n F 1 dJx4a65c_grow_92f84_10 rfl rfl ?_
    refine g_getf (k := 15) (i := i) (ci := 0) (C := RJx4a65c) (T := TJx4a65c) (N := 3) (fs := cL D ad Lx cap mk i) (fk := 1) (v := .ref (D.2 100 0)) F hin (hC.2.2.2.2.2.1 i hi) rfl rfl (by decide) (by decide +kernel) rfl (congrArg (fun z => some (Value.ref z)) (show cE D ad cap i = D.2 100 0 from if_pos hc0)) dJx4a65c_grow_92f84_11 ?_
    refine g_getsE F (by decide +kernel) dJx4a65c_grow_92f84_14 ?_
    refine g_acmp_eq F (tgt := 45) dJx4a65c_grow_92f84_17 (by decide) (fun _ => ?_) (fun h => absurd rfl h)
    refine g_aload_n F 1 dJx4a65c_grow_92f84_45 rfl rfl ?_
    refine g_bipush F dJx4a65c_grow_92f84_46 (v := 10) (by decide) ?_
    refine g_iload_n F 2 dJx4a65c_grow_92f84_48 rfl rfl ?_
    refine g_mmax F (by decide +kernel) (by decide +kernel) (by decide +kernel) (by decide +kernel) (Nat.le_of_ble_eq_true rfl) (Nat.le_of_ble_eq_true rfl) (Nat.zero_le _) (Nat.zero_le _) dJx4a65c_grow_92f84_49 ?_
    refine g_top (y := nI 10) (by rw [hl0]; decide) ?_
    refine g_newq (N' := 10) F 22 0 5 hn22 rfl (by decide +kernel) F.2.2.2.2.1.2.2.1 rfl (by omega) (by decide) (by decide) dJx4a65c_grow_92f84_52 (fun q => ?_)
    refine g_dup_x1 F dJx4a65c_grow_92f84_55 rfl rfl ?_
    refine g_putf (k := 15) (i := i) (ci := 0) (C := RJx4a65c) (T := TJx4a65c) (N := 3) (fs := cL D ad Lx cap mk i) (fk := 1) (v := .ref q) (ty := .array (.object "java/lang/Object")) (tf := tyJx4a65c) F hin tyJx4a65c_ok nmJx4a65c (Or.inl (hC.2.2.2.2.2.1 i hi)) ((up2_ne _ _ (fun h => absurd h.1 (by decide))).trans rfl) rfl (by decide) (by decide +kernel) rfl rfl (by decide +kernel) rfl rfl (show 1 < 3 by decide) dJx4a65c_grow_92f84_56 ?_
    have hX : (fun _ => none) = cX ad (Lx i) := by
      funext k
      rw [cX_out (by omega)]
    exact g_qa F hr (.inr ⟨_, rfl⟩) hlocks (fun H hH => gr_end hn22 (hC.2.2.2.2.2.1 i hi) (by omega) hX hH) ⟨q, 10, rfl, rfl, rfl, by omega, by omega, rfl⟩ (by decide) (by decide) dJx4a65c_grow_92f84_59
set_option maxHeartbeats 4000000 in
set_option maxRecDepth 100000 in
theorem cl_grow (l : Launch) (D : va_G) (A : Nat → Prop) (cs : Nat → ClassId) (ad : Nat → Nat → Nat) (dm : Nat → Nat → Prop) (σ : SG) (Lx : Nat → List Nat) (cap : Nat → Nat) (mk : Nat → Int32) (ev : SG) (zl tx mt tn : Nat → Nat) (tc : SG) (w0 : CF) (n tq : Nat) (hC : CD dm n cap tq) (i : Nat) (hn22 : ¬ dm 22 0) (hi : i < 11) (hfull : (Lx i).length = cap i) (h39 : (Lx i).length ≤ 39) (hLn : ∀ j ∈ Lx i, j < n) : Met l yJx4a65c_grow_d5877 wsJx4a65c_grow_d5877 ({ frames := 4, cells := 1, slots := 60, locals := 160 }) (va_Pc [.ref (ad 15 i)] (PW D A (tysG cs) ad dm (cw D ad cs σ Lx cap mk ev zl tx mt tn tc w0))) (QW D A (tysG cs) (fun r ad1 dm1 w1 => ∃ q c2, r = some (.ref q) ∧ ad1 = up2 ad 16 i q ∧ dm1 = (fun a b => dm a b ∨ (a = 16 ∧ b = i)) ∧ cap i + 1 ≤ c2 ∧ c2 ≤ 60 ∧ w1 = cw D (up2 ad 16 i q) cs σ Lx (va_up cap i c2) mk ev zl tx mt tn tc w0)) 1 60 A := by
  refine g_start (own := RJx4a65c) [.ref (ad 15 i)] (cc := cJx4a65c_grow_d5877) (maxL := 1) (ret := (some (.array (.object "java/lang/Object")))) (lv0 := [(0, .ref (ad 15 i))]) (by decide) rfl rfl (Nat.le_of_ble_eq_true rfl) rfl ?_
  intro p e s m below meth c F hr hlocks hname
  have hin : ∀ w ∈ wsJx4a65c0, w ∈ wsJx4a65c_grow_d5877 := by decide +kernel
  refine g_aload_n F 0 dJx4a65c_grow_d5877_0 rfl rfl ?_
  refine g_aload_n F 0 dJx4a65c_grow_d5877_1 rfl rfl ?_
  refine g_getf (k := 15) (i := i) (ci := 0) (C := RJx4a65c) (T := TJx4a65c) (N := 3) (fs := cL D ad Lx cap mk i) (fk := 2) F hin (hC.2.2.2.2.2.1 i hi) rfl rfl (by decide) (by decide +kernel) rfl rfl dJx4a65c_grow_d5877_2 ?_
  refine g_iconst F dJx4a65c_grow_d5877_5 (v := 1) (by decide) ?_
  refine g_iadd F dJx4a65c_grow_d5877_6 ?_
  refine g_top (y := nI ((Lx i).length + 1)) (nI_1 _).symm ?_
  refine q_callV F (C := RJx4a65c) (k := 15) (i := i) (ci := 0) (T := TJx4a65c) (N := 3) (rest := []) [.int (nI ((Lx i).length + 1))] (cl_growI l D A cs ad dm σ Lx cap mk ev zl tx mt tn tc w0 n tq hC i hn22 hi hfull h39 hLn) (cwV 1 F.1.2.2.2.2 gJx4a65c_grow_d5877_Jx4a65c_grow_92f84 rfl rfl rfl (by decide +kernel) ⟨Nat.le_of_ble_eq_true rfl, Nat.le_of_ble_eq_true rfl⟩) rfl (hC.2.2.2.2.2.1 i hi) rfl rfl rfl rfl (Nat.le_of_ble_eq_true rfl) dJx4a65c_grow_d5877_7 ⟨Nat.le_of_ble_eq_true rfl, Nat.le_of_ble_eq_true rfl⟩ (fun _ _ _ _ hv => ?_)
  obtain ⟨q, c2, rfl, rfl, rfl, h1, h2, rfl⟩ := hv
  exact g_qa F hr (.inr ⟨_, rfl⟩) hlocks (fun H hH => hH) ⟨q, c2, rfl, rfl, rfl, h1, h2, rfl⟩ (by decide) (by decide) dJx4a65c_grow_d5877_10

