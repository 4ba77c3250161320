section NW9
variable {p : Program} {l : Launch} {e : Env} {R : Room} {s : State} {m : MethodId} {args : Array Value} {below : List Frame} {meth : Method} {c : Code} {cells slots : Nat} {Q : State → Prop} {cc : ByteArray} {nL : Nat} {Ts : List Cond} {own : String} {D : va_G} {A : Nat → Prop} {tys : List (ClassId × FieldType)} {ad : Nat → Nat → Nat} {dm : Nat → Nat → Prop} {w : CF} {pc : Nat} {lv : List (Nat × Value)} {rest : List Value}
theorem g_clonei (F : FX p s m args c cc nL Ts own D A tys) {index n : Nat} {cA : ClassId} {f : Nat → Int32} (t0 k i k2 i2 : Nat) (hlink : Cond.methodLink own index ⟨"[I", "clone", "()Ljava/lang/Object;"⟩ ∈ Ts) (hsame : Cond.sameMethod "[I" "java/lang/Object" "clone" "()Ljava/lang/Object;" ∈ Ts) (hnat : Cond.native ⟨"java/lang/Object", "clone", "()Ljava/lang/Object;"⟩ ∈ Ts) (hinst : Cond.instanceMethod ⟨"java/lang/Object", "clone", "()Ljava/lang/Object;"⟩ ∈ Ts) (hsel : Cond.selects "[I" ⟨"[I", "clone", "()Ljava/lang/Object;"⟩ ⟨"java/lang/Object", "clone", "()Ljava/lang/Object;"⟩ ∈ Ts) (hd : dm k i) (he : w k i = .inl (cA, n, .inl f)) (ht : tys[t0]? = some (cA, .int)) (hd2 : ¬ dm k2 i2) (hframes : 1 ≤ R.frames) (hlocals : (rest.map fun v => v.category).sum + 14 ≤ R.locals) (hcells : cells + 1 ≤ R.cells) (hslots : slots + n ≤ R.slots) (d : decode cc pc = .ok (.invokevirtual index, 3))
    (kk : ∀ q : Nat, GG p l e R s m args below meth c D A (up2 ad k2 i2 q) (fun a b => dm a b ∨ (a = k2 ∧ b = i2)) nL (cells + 1) (slots + n) Q (up2 w k2 i2 (.inl (cA, n, .inl f))) (pc + 3) lv (.ref q :: rest)) : GG p l e R s m args below meth c D A ad dm nL cells slots Q w pc lv (.ref (ad k i) :: rest) := by
  intro H locs ls hw hS hl
  obtain ⟨L, f1, hP, hD, hm, hj⟩ := id hw
  obtain ⟨q0, hq0⟩ := va_pl_get (X := []) (f := f1) (hm k i hd).1
  rw [(hm k i hd).2, he] at hq0
  exact va_clone F.1.1 F.1.2.1 (F.1.2.2.1.trans hl.1.symm) F.1.2.2.2.1 (F.1.2.2.2.2 _ hlink) (F.1.2.2.2.2 _ hsame) (F.1.2.2.2.2 _ hnat) (F.1.2.2.2.2 _ hinst) (F.1.2.2.2.2 _ hsel) (F.2.2.2.2.1.2.2.2.2.2.2.1 _ (by simp [kxB])) F.2.1 hP hD hS F.2.2.1 q0 t0 hq0 ht (va_nm_int (F.2.1.2 t0 _ ht).2) (va_fit (fun _ _ => rfl)) hframes hlocals hcells hslots d (fun q H1 hK1 hP1 hD1 hS1 => kk q H1 locs ls (HW.push hP hm hj hd2 hP1 hD1) hS1 hl)
theorem g_casti (F : FX p s m args c cc nL Ts own D A tys) {index n : Nat} {cA : ClassId} {f : Nat → Int32} (t0 k i : Nat) (hlink : Cond.classLink own index "[I" ∈ Ts) (hd : dm k i) (he : w k i = .inl (cA, n, .inl f)) (ht : tys[t0]? = some (cA, .int)) (d : decode cc pc = .ok (.checkcast index, 3))
    (kk : GG p l e R s m args below meth c D A ad dm nL cells slots Q w (pc + 3) lv (.ref (ad k i) :: rest)) : GG p l e R s m args below meth c D A ad dm nL cells slots Q w pc lv (.ref (ad k i) :: rest) := by
  intro H locs ls hw hS hl
  obtain ⟨L, f1, hP, hD, hm, hj⟩ := id hw
  obtain ⟨q0, hq0⟩ := va_pl_get (X := []) (f := f1) (hm k i hd).1
  rw [(hm k i hd).2, he] at hq0
  exact va_castA F.1.1 F.1.2.1 F.1.2.2.2.1 (F.1.2.2.2.2 _ hlink) hP q0 hq0 (va_nm_int (F.2.1.2 t0 _ ht).2) d (kk H locs ls hw hS hl)
/-- a value on the stack by another name -/
theorem g_st {st1 : List Value} (ee : st1 = rest) (kk : GG p l e R s m args below meth c D A ad dm nL cells slots Q w pc lv st1) : GG p l e R s m args below meth c D A ad dm nL cells slots Q w pc lv rest := by
  rw [← ee]; exact kk
theorem g_ls {lv1 : List (Nat × Value)} {st1 : List Value} (el : lv1 = lv) (ee : st1 = rest) (kk : GG p l e R s m args below meth c D A ad dm nL cells slots Q w pc lv1 st1) : GG p l e R s m args below meth c D A ad dm nL cells slots Q w pc lv rest := by
  rw [← ee, ← el]; exact kk
end NW9
def plN (ev a : Nat) : Nat := if ev = 0 then a else a + a / ev
theorem dv_step {ev f : Nat} (h : 0 < ev) : (f + 1) / ev = f / ev + (if (f + 1) % ev = 0 then 1 else 0) := by
  have e0 := Nat.div_add_mod f ev
  have e1 := Nat.mod_lt f h
  by_cases q : f % ev + 1 = ev
  · have e2 : f + 1 = ev * (f / ev + 1) := by rw [Nat.mul_succ]; omega
    have e3 : (f + 1) / ev = f / ev + 1 := by
      have := congrArg (· / ev) e2
      simpa only [Nat.mul_div_cancel_left _ h] using this
    have e4 : (f + 1) % ev = 0 := by
      have := congrArg (· % ev) e2
      simpa only [Nat.mul_mod_right] using this
    rw [e3, if_pos e4]
  · have e3 : (f + 1) / ev = f / ev := Nat.div_eq_of_lt_le (by rw [Nat.mul_comm]; omega) (by rw [Nat.mul_comm, Nat.mul_succ]; omega)
    have e5 := Nat.div_add_mod (f + 1) ev
    rw [e3] at e5
    rw [e3, if_neg (by omega)]
    omega
theorem plN_s (wd : Prop) [Decidable wd] (ev f : Nat) : plN (if wd then 0 else ev) (f + 1) = plN (if wd then 0 else ev) f + nx wd ev f := by
  unfold plN nx
  by_cases w : wd
  · rw [if_pos w, if_pos rfl, if_pos rfl, if_neg (fun q => q.1 w)]
  · rw [if_neg w]
    by_cases h : ev = 0
    · rw [if_pos h, if_pos h, if_neg (fun q => by omega)]
    · rw [if_neg h, if_neg h, dv_step (by omega)]
      by_cases z : (f + 1) % ev = 0
      · rw [if_pos z, if_pos ⟨w, by omega, z⟩]; omega
      · rw [if_neg z, if_neg (fun q => z q.2.2)]; omega
theorem plN_mono {ev a b : Nat} (h : a ≤ b) : plN ev a ≤ plN ev b := by
  unfold plN
  split
  · exact h
  · exact Nat.add_le_add h (Nat.div_le_div_right h)
theorem plN_le (ev a : Nat) : plN ev a ≤ a + a := by
  unfold plN
  split
  · omega
  · exact Nat.add_le_add (Nat.le_refl _) (Nat.div_le_self _ _)
theorem plN_plcs (wd : Prop) [Decidable wd] (ev al : Nat) : plN (if wd then 0 else ev) al = plcs wd ev al := by
  unfold plN plcs
  by_cases w : wd
  · rw [if_pos w, if_pos rfl, if_pos w]
  · rw [if_neg w, if_neg w]
    split
    · rw [Nat.add_zero]
    · rfl
theorem tk_sp (wd : Prop) [Decidable wd] (ev al b : Nat) : ∀ n f t, al - f ≤ n → plN (if wd then 0 else ev) f = plN (if wd then 0 else ev) b + t → (∀ i, i < tk wd ev al n f t → f + i + 1 ≤ al ∧ plN (if wd then 0 else ev) (f + i + 1) ≤ plN (if wd then 0 else ev) b + lim wd) ∧ ¬ (f + tk wd ev al n f t + 1 ≤ al ∧ plN (if wd then 0 else ev) (f + tk wd ev al n f t + 1) ≤ plN (if wd then 0 else ev) b + lim wd)
  | 0, f, t, h, e => by
    unfold tk
    exact ⟨fun i q => absurd q (Nat.not_lt_zero _), fun q => by omega⟩
  | n + 1, f, t, h, e => by
    have e1 := plN_s wd ev f
    by_cases q : f < al ∧ t + nx wd ev f ≤ lim wd
    · obtain ⟨h1, h2⟩ := tk_sp wd ev al b n (f + 1) (t + nx wd ev f) (by omega) (by omega)
      have e2 : tk wd ev al (n + 1) f t = tk wd ev al n (f + 1) (t + nx wd ev f) + 1 := if_pos q
      rw [e2]
      refine ⟨fun i hi => ?_, fun z => h2 ?_⟩
      · cases i with
        | zero => exact ⟨q.1, by rw [Nat.add_zero]; omega⟩
        | succ i =>
          have h3 := h1 i (by omega)
          rw [show f + (i + 1) + 1 = f + 1 + i + 1 by omega]
          exact h3
      · rw [show f + 1 + tk wd ev al n (f + 1) (t + nx wd ev f) + 1 = f + (tk wd ev al n (f + 1) (t + nx wd ev f) + 1) + 1 by omega]
        exact z
    · have e2 : tk wd ev al (n + 1) f t = 0 := if_neg q
      rw [e2]
      exact ⟨fun i hi => absurd hi (Nat.not_lt_zero _), fun z => q ⟨z.1, by have := z.2; rw [Nat.add_zero] at this; omega⟩⟩
theorem sz_sp (wd : Prop) [Decidable wd] (ev al b : Nat) : (∀ i, i < sz wd ev al b → b + i + 1 ≤ al ∧ plN (if wd then 0 else ev) (b + i + 1) ≤ plN (if wd then 0 else ev) b + lim wd) ∧ ¬ (b + sz wd ev al b + 1 ≤ al ∧ plN (if wd then 0 else ev) (b + sz wd ev al b + 1) ≤ plN (if wd then 0 else ev) b + lim wd) := tk_sp wd ev al b (al - b) b 0 (Nat.le_refl _) rfl
theorem dif_le {x y z : Nat} (h : y ≤ x) (hx : x ≤ 4000) (hz : z ≤ 4000) : nI x - nI y ≤ nI z ↔ x ≤ y + z := by
  rw [pk_sub h, nI_leI (by omega) (by omega)]
  omega
theorem pts_first (wd : Prop) [Decidable wd] (ev al : Nat) (h : plcs wd ev al ≤ (if wd then 70 else 160)) (hal : al ≤ 500) (h0 : 0 < al) : pts wd ev al = 1 := by
  have h1 := pts_spec wd ev al hal
  have e : ∀ q, lof wd ev al q = if q = 0 then al else 0 := fun q => if_pos h
  rcases Nat.lt_or_ge (pts wd ev al) 1 with q | q
  · have h2 := h1.2.1
    rw [e, if_pos (by omega)] at h2
    omega
  · rcases Nat.lt_or_ge 1 (pts wd ev al) with z | z
    · have h3 := h1.2.2 1 z
      rw [e, if_neg (by decide)] at h3
      omega
    · omega
theorem lof_more (wd : Prop) [Decidable wd] (ev al q : Nat) (h : ¬ plcs wd ev al ≤ (if wd then 70 else 160)) : lof wd ev al q = sz wd ev al (stt wd ev al q) := if_neg h
theorem stt_lt (wd : Prop) [Decidable wd] (ev al q : Nat) (h : ¬ plcs wd ev al ≤ (if wd then 70 else 160)) : 0 < lof wd ev al q ↔ stt wd ev al q < al := by
  rw [lof_more wd ev al q h]
  exact sz_pos wd ev al _
set_option maxHeartbeats 4000000 in
set_option maxRecDepth 100000 in
theorem cw_placesOf (l : Launch) (D : va_G) (A : Nat → Prop) (cs : Nat → ClassId) (ad : Nat → Nat → Nat) (dm : Nat → Nat → Prop) (w : CF) (a ev : Nat) (ha : a ≤ 501) (hev : ev ≤ 50) : Met l yX5_placesOf wsX5_placesOf ({ frames := 0, cells := 0, slots := 0, locals := 0 }) (va_Pc [.int (nI a), .int (nI ev)] (PW D A (tysG cs) ad dm w)) (QW D A (tysG cs) (fun rz ad1 dm1 w1 => rz = some (.int (nI (plN ev a))) ∧ ad = ad1 ∧ dm = dm1 ∧ w = w1)) 0 0 A := by
  refine g_start (own := RX5) [.int (nI a), .int (nI ev)] (cc := cX5_placesOf) (maxL := 2) (ret := (some .int)) (lv0 := [(0, .int (nI a)), (1, .int (nI ev))]) (by decide) rfl rfl (Nat.le_of_ble_eq_true rfl) rfl ?_
  intro p e s m below meth c F hr hlocks hno
  refine g_iload_n F 1 dX5_placesOf_0 rfl rfl ?_
  refine g_if_le F (tgt := 12) dX5_placesOf_1 (by decide) (fun zc1 => ?_) (fun zc1 => ?_)
  ·
    refine g_iload_n F 0 dX5_placesOf_12 rfl rfl ?_
    exact g_qi F hr hlocks (fun _ h => h) ⟨(congrArg (fun z : Int32 => some (Value.int z)) (show (nI a) = (nI (plN ev a)) from (by unfold plN; rw [if_pos (show ev = 0 from Nat.le_zero.mp ((nI_leE (b := 0) rfl (show (0 : Int32) = nI 0 by decide) (by omega) (by decide)).mp zc1))]))), rfl, rfl, rfl⟩ (by decide) (by decide) dX5_placesOf_13
  ·
    refine g_iload_n F 0 dX5_placesOf_4 rfl rfl ?_
    refine g_iload_n F 0 dX5_placesOf_5 rfl rfl ?_
    refine g_iload_n F 1 dX5_placesOf_6 rfl rfl ?_
    refine g_idiv F dX5_placesOf_7 (show ¬ nI ev = 0 from fun q => zc1 (by rw [q]; decide)) ?_
    refine g_iadd F dX5_placesOf_8 ?_
    refine g_goto F (tgt := 13) dX5_placesOf_9 (by decide) ?_
    exact g_qi F hr hlocks (fun _ h => h) ⟨(congrArg (fun z : Int32 => some (Value.int z)) (show ((nI a) + ((nI a) / (nI ev))) = (nI (plN ev a)) from (by unfold plN; rw [if_neg (show ¬ ev = 0 from fun q => zc1 (by rw [q]; decide)), pk_div (by omega) (ev_pos zc1 hev) (by omega), nI_add]))), rfl, rfl, rfl⟩ (by decide) (by decide) dX5_placesOf_13
set_option maxHeartbeats 4000000 in
set_option maxRecDepth 100000 in
theorem cw_fit (l : Launch) (D : va_G) (A : Nat → Prop) (cs : Nat → ClassId) (ad : Nat → Nat → Nat) (dm : Nat → Nat → Prop) (w : CF) (b al ev lm z : Nat) (hal : al ≤ 500) (hev : ev ≤ 50) (hlm : lm ≤ 160) (hbz : b + z ≤ al) (hz : ∀ i, i < z → b + i + 1 ≤ al ∧ plN ev (b + i + 1) ≤ plN ev b + lm) (hz2 : ¬ (b + z + 1 ≤ al ∧ plN ev (b + z + 1) ≤ plN ev b + lm)) : Met l yX5_lettersThatFit wsX5_lettersThatFit ({ frames := 1, cells := 0, slots := 0, locals := 21 }) (va_Pc [.int (nI b), .int (nI al), .int (nI ev), .int (nI lm)] (PW D A (tysG cs) ad dm w)) (QW D A (tysG cs) (fun rz ad1 dm1 w1 => rz = some (.int (nI z)) ∧ ad = ad1 ∧ dm = dm1 ∧ w = w1)) 0 0 A := by
  refine g_start (own := RX5) [.int (nI b), .int (nI al), .int (nI ev), .int (nI lm)] (cc := cX5_lettersThatFit) (maxL := 7) (ret := (some .int)) (lv0 := [(0, .int (nI b)), (1, .int (nI al)), (2, .int (nI ev)), (3, .int (nI lm))]) (by decide) rfl rfl (Nat.le_of_ble_eq_true rfl) rfl ?_
  intro p e s m below meth c F hr hlocks hno
  refine g_iload_n F 0 dX5_lettersThatFit_0 rfl rfl ?_
  refine g_iload_n F 2 dX5_lettersThatFit_1 rfl rfl ?_
  refine q_callS F (rest := []) [.int (nI b), .int (nI ev)] (cw_placesOf l D A cs ad dm w b ev (by omega) (by omega)) (va_cwS 2 F.1.2.2.2.2 gX5_lettersThatFit_X5_placesOf rfl rfl rfl (by decide +kernel) ⟨Nat.le_of_ble_eq_true rfl, Nat.le_of_ble_eq_true rfl⟩) rfl rfl (Nat.le_of_ble_eq_true rfl) dX5_lettersThatFit_2 ⟨Nat.le_of_ble_eq_true rfl, Nat.le_of_ble_eq_true rfl⟩ (fun _ _ _ _ zv1 => ?_)
  obtain ⟨rfl, rfl, rfl, rfl⟩ := zv1
  show GG p l e _ s m _ below meth c D A ad dm _ _ _ _ w 5 _ [.int (nI (plN ev b))]
  refine g_istore F (lv1 := [(4, .int (nI (plN ev b))), (0, .int (nI b)), (1, .int (nI al)), (2, .int (nI ev)), (3, .int (nI lm))]) dX5_lettersThatFit_5 (by decide) rfl ?_
  refine g_iconst F dX5_lettersThatFit_7 (v := 0) (by decide) ?_
  refine g_istore F (lv1 := [(5, .int 0), (4, .int (nI (plN ev b))), (0, .int (nI b)), (1, .int (nI al)), (2, .int (nI ev)), (3, .int (nI lm))]) dX5_lettersThatFit_8 (by decide) rfl ?_
  refine g_iload_n F 2 dX5_lettersThatFit_10 rfl rfl ?_
  refine g_iconst F dX5_lettersThatFit_11 (v := 1) (by decide) ?_
  refine g_iadd F dX5_lettersThatFit_12 ?_
  refine g_istore F (lv1 := [(6, .int ((nI b) + 1)), (5, .int 0), (4, .int (nI (plN ev b))), (0, .int (nI b)), (1, .int (nI al)), (2, .int (nI ev)), (3, .int (nI lm))]) dX5_lettersThatFit_13 (by decide) rfl ?_
  refine g_loop z 0 (by omega) (fun zk2 => w) (fun zk2 => [(6, .int (nI (b + zk2 + 1))), (5, .int (nI zk2)), (4, .int (nI (plN ev b))), (0, .int (nI b)), (1, .int (nI al)), (2, .int (nI ev)), (3, .int (nI lm))]) rfl (by rw [show (nI b) + 1 = nI (b + 1) from nI_1 b]; rfl) ?_ (fun zk2 zhk4 zhk5 zih3 => ?_)
  ·
    show GG p l e _ s m _ below meth c D A ad dm _ _ _ _ w 15 [(6, .int (nI (b + z + 1))), (5, .int (nI z)), (4, .int (nI (plN ev b))), (0, .int (nI b)), (1, .int (nI al)), (2, .int (nI ev)), (3, .int (nI lm))] []
    have hm9 : plN ev b ≤ plN ev (b + z + 1) := plN_mono (by omega)
    have hp9 := plN_le ev (b + z + 1)
    refine g_iload F 0 dX5_lettersThatFit_15 rfl ?_
    refine g_iload_n F 4 dX5_lettersThatFit_17 rfl rfl ?_
    refine g_icmp_gt F (tgt := 46) dX5_lettersThatFit_18 (by decide) (fun zc6 => ?_) (fun zc6 => ?_)
    ·
      refine g_iload F 1 dX5_lettersThatFit_46 rfl ?_
      exact g_qi F hr hlocks (fun _ h => h) ⟨rfl, rfl, rfl, rfl⟩ (by decide) (by decide) dX5_lettersThatFit_48
    ·
      refine g_iload F 0 dX5_lettersThatFit_21 rfl ?_
      refine g_iload_n F 5 dX5_lettersThatFit_23 rfl rfl ?_
      refine q_callS F (rest := []) [.int (nI (b + z + 1)), .int (nI ev)] (cw_placesOf l D A cs ad dm w (b + z + 1) ev (by omega) (by omega)) (va_cwS 2 F.1.2.2.2.2 gX5_lettersThatFit_X5_placesOf rfl rfl rfl (by decide +kernel) ⟨Nat.le_of_ble_eq_true rfl, Nat.le_of_ble_eq_true rfl⟩) rfl rfl (Nat.le_of_ble_eq_true rfl) dX5_lettersThatFit_24 ⟨Nat.le_of_ble_eq_true rfl, Nat.le_of_ble_eq_true rfl⟩ (fun _ _ _ _ zv7 => ?_)
      obtain ⟨rfl, rfl, rfl, rfl⟩ := zv7
      show GG p l e _ s m _ below meth c D A ad dm _ _ _ _ w 27 _ [.int (nI (plN ev (b + z + 1)))]
      refine g_iload F 2 dX5_lettersThatFit_27 rfl ?_
      refine g_isub F dX5_lettersThatFit_29 ?_
      refine g_iload_n F 6 dX5_lettersThatFit_30 rfl rfl ?_
      refine g_icmp_le F (tgt := 37) dX5_lettersThatFit_31 (by decide) (fun zc8 => ?_) (fun zc8 => ?_)
      ·
        exact absurd ((dif_le hm9 (by omega) (by omega)).mp zc8) (fun q => hz2 ⟨Nat.le_of_not_lt (fun z => zc6 ((nI_ltI (by omega) (by omega)).mpr z)), q⟩)
      ·
        refine g_goto F (tgt := 46) dX5_lettersThatFit_34 (by decide) ?_
        refine g_iload F 1 dX5_lettersThatFit_46 rfl ?_
        exact g_qi F hr hlocks (fun _ h => h) ⟨rfl, rfl, rfl, rfl⟩ (by decide) (by decide) dX5_lettersThatFit_48
  ·
    replace zih3 : GG p l e _ s m _ below meth c D A ad dm _ _ _ _ w 15 [(6, .int (nI (b + (zk2 + 1) + 1))), (5, .int (nI (zk2 + 1))), (4, .int (nI (plN ev b))), (0, .int (nI b)), (1, .int (nI al)), (2, .int (nI ev)), (3, .int (nI lm))] [] := zih3
    show GG p l e _ s m _ below meth c D A ad dm _ _ _ _ w 15 [(6, .int (nI (b + zk2 + 1))), (5, .int (nI zk2)), (4, .int (nI (plN ev b))), (0, .int (nI b)), (1, .int (nI al)), (2, .int (nI ev)), (3, .int (nI lm))] []
    have hf9 := hz zk2 zhk5
    have hm9 : plN ev b ≤ plN ev (b + zk2 + 1) := plN_mono (by omega)
    have hp9 := plN_le ev (b + zk2 + 1)
    refine g_iload F 0 dX5_lettersThatFit_15 rfl ?_
    refine g_iload_n F 4 dX5_lettersThatFit_17 rfl rfl ?_
    refine g_icmp_gt F (tgt := 46) dX5_lettersThatFit_18 (by decide) (fun zc9 => ?_) (fun zc9 => ?_)
    ·
      exact absurd ((nI_ltI (by omega) (by omega)).mp zc9) (by omega)
    ·
      refine g_iload F 0 dX5_lettersThatFit_21 rfl ?_
      refine g_iload_n F 5 dX5_lettersThatFit_23 rfl rfl ?_
      refine q_callS F (rest := []) [.int (nI (b + zk2 + 1)), .int (nI ev)] (cw_placesOf l D A cs ad dm w (b + zk2 + 1) ev (by omega) (by omega)) (va_cwS 2 F.1.2.2.2.2 gX5_lettersThatFit_X5_placesOf rfl rfl rfl (by decide +kernel) ⟨Nat.le_of_ble_eq_true rfl, Nat.le_of_ble_eq_true rfl⟩) rfl rfl (Nat.le_of_ble_eq_true rfl) dX5_lettersThatFit_24 ⟨Nat.le_of_ble_eq_true rfl, Nat.le_of_ble_eq_true rfl⟩ (fun _ _ _ _ zv10 => ?_)
      obtain ⟨rfl, rfl, rfl, rfl⟩ := zv10
      show GG p l e _ s m _ below meth c D A ad dm _ _ _ _ w 27 _ [.int (nI (plN ev (b + zk2 + 1)))]
      refine g_iload F 2 dX5_lettersThatFit_27 rfl ?_
      refine g_isub F dX5_lettersThatFit_29 ?_
      refine g_iload_n F 6 dX5_lettersThatFit_30 rfl rfl ?_
      refine g_icmp_le F (tgt := 37) dX5_lettersThatFit_31 (by decide) (fun zc11 => ?_) (fun zc11 => ?_)
      ·
        refine g_iinc F (v := (nI (zk2 + 1))) (lv1 := [(5, .int (nI (zk2 + 1))), (6, .int (nI (b + zk2 + 1))), (4, .int (nI (plN ev b))), (0, .int (nI b)), (1, .int (nI al)), (2, .int (nI ev)), (3, .int (nI lm))]) 1 dX5_lettersThatFit_37 rfl (nI_1 zk2) (by decide) rfl ?_
        refine g_iinc F (v := (nI ((b + zk2 + 1) + 1))) (lv1 := [(6, .int (nI ((b + zk2 + 1) + 1))), (5, .int (nI (zk2 + 1))), (4, .int (nI (plN ev b))), (0, .int (nI b)), (1, .int (nI al)), (2, .int (nI ev)), (3, .int (nI lm))]) 1 dX5_lettersThatFit_40 rfl (nI_1 (b + zk2 + 1)) (by decide) rfl ?_
        refine g_goto F (tgt := 15) dX5_lettersThatFit_43 (by decide) ?_
        exact g_lv [0, 1, 2, 3, 4, 5, 6] rfl zih3
      ·
        exact absurd ((dif_le hm9 (by omega) (by omega)).mpr hf9.2) zc11
set_option maxHeartbeats 4000000 in
set_option maxRecDepth 100000 in
theorem cl_cpI (l : Launch) (D : va_G) (A : Nat → Prop) (cs : Nat → ClassId) (ad : Nat → Nat → Nat) (dm : Nat → Nat → Prop) (w : CF) (tq N : Nat) (f : Nat → Int32) (h22 : dm 22 0) (hw22 : w 22 0 = .inl (cs 0, 8, .inl f)) (hf : ∀ q, 8 ≤ q → f q = 0) (hN : N ≤ 8) (hd : ¬ dm 21 tq) : Met l yJ7_copyOf_59c91 wsJ7_copyOf_59c91 ({ frames := 1, cells := 1, slots := 8, locals := 60 }) (va_Pc [.ref (ad 22 0), .int (nI N)] (PW D A (tysG cs) ad dm w)) (QW D A (tysG cs) (fun rz ad1 dm1 w1 => ∃ q, rz = some (.ref q) ∧ ad1 = up2 ad 21 tq q ∧ dm1 = (fun a b => dm a b ∨ (a = 21 ∧ b = tq)) ∧ w1 = up2 w 21 tq (.inl (cs 0, N, .inl (fun x => if x < N then f x else 0))))) 1 8 A := by
  refine g_start (own := RJ7) [.ref (ad 22 0), .int (nI N)] (cc := cJ7_copyOf_59c91) (maxL := 3) (ret := (some (.array .int))) (lv0 := [(0, .ref (ad 22 0)), (1, .int (nI N))]) (by decide) rfl rfl (Nat.le_of_ble_eq_true rfl) rfl ?_
  intro p e s m below meth c F hr hlocks hno
  refine g_iload_n F 1 dJ7_copyOf_59c91_0 rfl rfl ?_
  refine g_aload_n F 0 dJ7_copyOf_59c91_1 rfl rfl ?_
  refine g_alen (t0 := 0) (k := 22) (i := 0) (v := nI 8) F h22 hw22 rfl rfl dJ7_copyOf_59c91_2 ?_
  refine g_icmp_ne F (tgt := 14) dJ7_copyOf_59c91_3 (by decide) (fun hc => ?_) (fun hc => ?_)
  · refine g_iload_n F 1 dJ7_copyOf_59c91_14 rfl rfl ?_
    refine g_newi F 21 tq 0 hd rfl (by decide +kernel) rfl (by omega) (by decide) (by show 0 + N ≤ 8; omega) dJ7_copyOf_59c91_15 (fun q => ?_)
    refine g_astore_n F (lv1 := [(2, .ref q), (0, .ref (ad 22 0)), (1, .int (nI N))]) dJ7_copyOf_59c91_17 rfl (by decide) rfl ?_
    refine g_aload_n F 1 dJ7_copyOf_59c91_18 rfl rfl ?_
    refine g_iconst F dJ7_copyOf_59c91_19 (v := 0) (by decide) ?_
    refine g_aload_n F 0 dJ7_copyOf_59c91_20 rfl rfl ?_
    refine g_iconst F dJ7_copyOf_59c91_21 (v := 0) (by decide) ?_
    have e22 : up2 ad 21 tq q 22 0 = ad 22 0 := up2_ne _ _ (fun h => absurd h.1 (by decide))
    refine g_aload_n F 1 dJ7_copyOf_59c91_22 rfl rfl ?_
    refine g_st (st1 := [.ref (up2 ad 21 tq q 22 0), .int 0, .ref (up2 ad 21 tq q 21 tq), .int 0, .ref (up2 ad 21 tq q 22 0)]) (by rw [e22, up2_self]) ?_
    refine g_alen (t0 := 0) (k := 22) (i := 0) (v := nI 8) F (.inl h22) ((up2_ne _ _ (fun h => absurd h.1 (by decide))).trans hw22) rfl rfl dJ7_copyOf_59c91_23 ?_
    refine g_iload_n F 2 dJ7_copyOf_59c91_24 rfl rfl ?_
    refine g_mmin F (by decide +kernel) (by decide +kernel) (by decide +kernel) (by decide +kernel) (by exact Nat.le_of_ble_eq_true rfl) (by exact Nat.le_of_ble_eq_true rfl) (by exact Nat.le_of_ble_eq_true rfl) (by show 0 + N ≤ 8; omega) dJ7_copyOf_59c91_25 ?_
    refine g_top (y := nI N) (by
      have hl : nI N < nI 8 := (nI_ltI (by omega) (by decide)).mpr (by
        rcases Nat.lt_or_ge N 8 with z | z
        · exact z
        · exact absurd (by rw [show N = 8 by omega]) hc)
      rw [if_pos hl]) ?_
    refine g_copyi (k0 := 22) (i0 := 0) (k1 := 21) (i1 := tq) (n0 := 8) (n1 := N) (a := 0) (b := 0) (z := N) (f := f) (g := fun _ => 0) (c0 := cs 0) F 0 (by decide +kernel) (by decide +kernel) (by decide +kernel) (by decide +kernel) (.inl h22) ((up2_ne _ _ (fun h => absurd h.1 (by decide))).trans hw22) (.inr ⟨rfl, rfl⟩) (up2_self _ _ _ _) rfl (by decide) (by decide) rfl (by omega) (by omega) (by omega) (by omega) (Nat.le_of_ble_eq_true rfl) (Nat.le_of_ble_eq_true rfl) dJ7_copyOf_59c91_28 ?_
    refine g_aload_n F 0 dJ7_copyOf_59c91_31 rfl rfl ?_
    refine g_qa F hr (.inr ⟨_, rfl⟩) hlocks (fun _ h => h) ⟨q, rfl, rfl, rfl, ?_⟩ (by decide) (by show 0 + N ≤ 8; omega) dJ7_copyOf_59c91_32
    have ef : va_cpy f (fun _ => (0 : Int32)) 0 0 N = (fun x => if x < N then f x else 0) := by
      funext x
      unfold va_cpy
      by_cases z : x < N
      · rw [if_pos ⟨Nat.zero_le _, by omega⟩, if_pos z, Nat.zero_add, Nat.sub_zero]
      · rw [if_neg (fun y => z (by omega)), if_neg z]
    rw [ef]
    funext a b
    by_cases z : a = 21 ∧ b = tq
    · rw [z.1, z.2, up2_self, up2_self]
    · rw [up2_ne _ _ z, up2_ne _ _ z, up2_ne _ _ z]
  · have hN8 : N = 8 := (nI_eq (by omega) (by decide)).mp hc
    subst hN8
    have ef : f = (fun x => if x < 8 then f x else 0) := by
      funext x
      by_cases z : x < 8
      · rw [if_pos z]
      · rw [if_neg z, hf x (by omega)]
    refine g_aload_n F 0 dJ7_copyOf_59c91_6 rfl rfl ?_
    refine g_clonei F 0 22 0 21 tq (by decide +kernel) (by decide +kernel) (by decide +kernel) (by decide +kernel) (by decide +kernel) h22 hw22 rfl hd (Nat.le_of_ble_eq_true rfl) (Nat.le_of_ble_eq_true rfl) (by decide) (by decide) dJ7_copyOf_59c91_7 (fun q => ?_)
    refine g_st (st1 := [.ref (up2 ad 21 tq q 21 tq)]) (by rw [up2_self]) ?_
    refine g_casti F 0 21 tq (by decide +kernel) (.inr ⟨rfl, rfl⟩) (up2_self _ _ _ _) rfl dJ7_copyOf_59c91_10 ?_
    refine g_st (st1 := [.ref q]) (by rw [up2_self]) ?_
    exact g_qa F hr (.inr ⟨_, rfl⟩) hlocks (fun _ h => h) ⟨q, rfl, rfl, rfl, by rw [← ef]⟩ (by decide) (by decide) dJ7_copyOf_59c91_13
set_option maxHeartbeats 4000000 in
set_option maxRecDepth 100000 in
theorem cw_cut (l : Launch) (D : va_G) (A : Nat → Prop) (cs : Nat → ClassId) (ad : Nat → Nat → Nat) (dm : Nat → Nat → Prop) (w : CF) (wd : Prop) [Decidable wd] (tq ev al e1 a1 lm : Nat) (hal : al ≤ 500) (hal0 : 0 < al) (hev : ev ≤ 50) (he1 : e1 = if wd then 0 else ev) (ha1 : a1 = if wd then 70 else 160) (hlm : lm = lim wd) (h22 : ¬ dm 22 0) (hd : ¬ dm 21 tq) : Met l yX5_cut wsX5_cut ({ frames := 2, cells := 2, slots := 16, locals := 92 }) (va_Pc [.int (nI al), .int (nI e1), .int (nI a1), .int (nI lm)] (PW D A (tysG cs) ad dm w)) (QW D A (tysG cs) (fun rz ad1 dm1 w1 => ∃ q, rz = some (.ref q) ∧ ad1 = up2 ad 21 tq q ∧ dm1 = (fun a b => dm a b ∨ (a = 21 ∧ b = tq)) ∧ w1 = up2 w 21 tq (.inl (cs 0, pts wd ev al, .inl (fun x => if x < pts wd ev al then nI (lof wd ev al x) else 0))))) 2 16 A := by
  have he50 : e1 ≤ 50 := by rw [he1]; split <;> omega
  have ha160 : a1 ≤ 160 := by rw [ha1]; split <;> omega
  have hl153 : lm ≤ 160 := by rw [hlm]; have := lim_le wd; omega
  have hpl : plN e1 al = plcs wd ev al := by rw [he1]; exact plN_plcs wd ev al
  have hpl2 := plN_le e1 al
  refine g_start (own := RX5) [.int (nI al), .int (nI e1), .int (nI a1), .int (nI lm)] (cc := cX5_cut) (maxL := 8) (ret := (some (.array .int))) (lv0 := [(0, .int (nI al)), (1, .int (nI e1)), (2, .int (nI a1)), (3, .int (nI lm))]) (by decide) rfl rfl (Nat.le_of_ble_eq_true rfl) rfl ?_
  intro p e s m below meth c F hr hlocks hno
  refine g_iload_n F 0 dX5_cut_0 rfl rfl ?_
  refine g_iload_n F 1 dX5_cut_1 rfl rfl ?_
  refine q_callS F (rest := []) [.int (nI al), .int (nI e1)] (cw_placesOf l D A cs ad dm w al e1 (by omega) he50) (va_cwS 2 F.1.2.2.2.2 gX5_cut_X5_placesOf rfl rfl rfl (by decide +kernel) ⟨Nat.le_of_ble_eq_true rfl, Nat.le_of_ble_eq_true rfl⟩) rfl rfl (Nat.le_of_ble_eq_true rfl) dX5_cut_2 ⟨Nat.le_of_ble_eq_true rfl, Nat.le_of_ble_eq_true rfl⟩ (fun _ _ _ _ hv => ?_)
  obtain ⟨rfl, rfl, rfl, rfl⟩ := hv
  show GG p l e _ s m _ below meth c D A ad dm _ _ _ _ w 5 _ [.int (nI (plN e1 al))]
  refine g_iload_n F 2 dX5_cut_5 rfl rfl ?_
  refine g_icmp_gt F (tgt := 17) dX5_cut_6 (by decide) (fun hc => ?_) (fun hc => ?_)
  · have hmo : ¬ plcs wd ev al ≤ (if wd then 70 else 160) := by
      have h9 := (nI_ltI (by omega) (by omega)).mp hc
      rw [← ha1]; omega
    have hpt := pts_spec wd ev al hal
    refine g_bipush F dX5_cut_17 (v := 8) (by decide) ?_
    refine g_newi (N' := 8) F 22 0 0 h22 rfl (by decide +kernel) (by decide) (by decide) (by decide) (by decide) dX5_cut_19 (fun q => ?_)
    refine g_astore F (lv1 := [(4, .ref q), (0, .int (nI al)), (1, .int (nI e1)), (2, .int (nI a1)), (3, .int (nI lm))]) dX5_cut_21 (by decide) rfl ?_
    refine g_iconst F dX5_cut_23 (v := 0) (by decide) ?_
    refine g_istore F (lv1 := [(5, .int 0), (4, .ref q), (0, .int (nI al)), (1, .int (nI e1)), (2, .int (nI a1)), (3, .int (nI lm))]) dX5_cut_24 (by decide) rfl ?_
    refine g_iconst F dX5_cut_26 (v := 0) (by decide) ?_
    refine g_istore F (lv1 := [(6, .int 0), (5, .int 0), (4, .ref q), (0, .int (nI al)), (1, .int (nI e1)), (2, .int (nI a1)), (3, .int (nI lm))]) dX5_cut_27 (by decide) rfl ?_
    refine g_loop (pts wd ev al) 0 (Nat.zero_le _) (fun k => (up2 w 22 0 (.inl (cs 0, 8, .inl (fun x => if x < k then nI (lof wd ev al x) else 0))))) (fun k => [(6, .int (nI (stt wd ev al k))), (5, .int (nI k)), (4, .ref ((up2 ad 22 0 q) 22 0)), (0, .int (nI al)), (1, .int (nI e1)), (2, .int (nI a1)), (3, .int (nI lm))]) (by
      have ez : (fun x => if x < 0 then nI (lof wd ev al x) else 0) = (fun _ => (0 : Int32)) := by
        funext x
        exact if_neg (Nat.not_lt_zero _)
      show (up2 w 22 0 (.inl (cs 0, 8, .inl (fun x => if x < 0 then nI (lof wd ev al x) else 0)))) = _
      rw [ez]) (by rw [up2_self]; rfl) ?_ (fun k hk0 hk ih => ?_)
    · show GG p l e _ s m _ below meth c D A _ _ _ _ _ _ (up2 w 22 0 (.inl (cs 0, 8, .inl (fun x => if x < (pts wd ev al) then nI (lof wd ev al x) else 0)))) 29 [(6, .int (nI (stt wd ev al (pts wd ev al)))), (5, .int (nI (pts wd ev al))), (4, .ref ((up2 ad 22 0 q) 22 0)), (0, .int (nI al)), (1, .int (nI e1)), (2, .int (nI a1)), (3, .int (nI lm))] []
      have hstop : ¬ stt wd ev al (pts wd ev al) < al := by
        rw [← stt_lt wd ev al _ hmo]
        omega
      have hsle := stt_le wd ev al (pts wd ev al)
      have h8 : 8 = 8 := rfl
      refine g_iload F 1 dX5_cut_29 rfl ?_
      refine g_aload F 2 dX5_cut_31 rfl ?_
      refine g_alen (t0 := 0) (k := 22) (i := 0) (v := nI 8) F (.inr ⟨rfl, rfl⟩) (up2_self _ _ _ _) rfl rfl dX5_cut_33 ?_
      refine g_icmp_ge F (tgt := 73) dX5_cut_34 (by decide) (fun _ => ?_) (fun _ => ?_)
      · refine g_aload F 2 dX5_cut_73 rfl ?_
        refine g_iload F 1 dX5_cut_75 rfl ?_
        refine q_callS F (rest := []) [.ref (up2 ad 22 0 q 22 0), .int (nI (pts wd ev al))] (cl_cpI l D A cs (up2 ad 22 0 q) (fun a b => dm a b ∨ (a = 22 ∧ b = 0)) (up2 w 22 0 (.inl (cs 0, 8, .inl (fun x => if x < (pts wd ev al) then nI (lof wd ev al x) else 0)))) tq (pts wd ev al) (fun x => if x < pts wd ev al then nI (lof wd ev al x) else 0) (.inr ⟨rfl, rfl⟩) (up2_self _ _ _ _) (fun z hz => if_neg (by omega)) hpt.1 (fun z => z.elim hd (fun y => absurd y.1 (by decide)))) (va_cwS 2 F.1.2.2.2.2 gX5_cut_J7_copyOf_59c91 rfl rfl rfl (by decide +kernel) ⟨Nat.le_of_ble_eq_true rfl, Nat.le_of_ble_eq_true rfl⟩) rfl rfl (Nat.le_of_ble_eq_true rfl) dX5_cut_77 ⟨Nat.le_of_ble_eq_true rfl, Nat.le_of_ble_eq_true rfl⟩ (fun _ _ _ _ hv => ?_)
        obtain ⟨q2, rfl, rfl, rfl, rfl⟩ := hv
        refine g_qa F hr (.inr ⟨_, rfl⟩) hlocks (fun H hH => HW.congr hH (ad' := up2 ad 21 tq q2) (dm' := fun a b => dm a b ∨ (a = 21 ∧ b = tq)) (w' := up2 w 21 tq (.inl (cs 0, pts wd ev al, .inl (fun x => if x < pts wd ev al then nI (lof wd ev al x) else 0)))) (fun a b h => h.elim (fun z => .inl (.inl z)) .inr) (fun a b h => ?_) (fun a b h => ?_)) ⟨q2, rfl, rfl, rfl, rfl⟩ (by decide) (by decide) dX5_cut_80
        · by_cases z : a = 21 ∧ b = tq
          · rw [z.1, z.2, up2_self, up2_self]
          · have h0 := h.resolve_right z
            have h1 : ¬ (a = 22 ∧ b = 0) := fun y => h22 (by rw [← y.1, ← y.2]; exact h0)
            rw [up2_ne _ _ z, up2_ne _ _ z, up2_ne _ _ h1]
        · by_cases z : a = 21 ∧ b = tq
          · rw [z.1, z.2, up2_self, up2_self]
            congr 4
            funext x
            split <;> rfl
          · have h0 := h.resolve_right z
            have h1 : ¬ (a = 22 ∧ b = 0) := fun y => h22 (by rw [← y.1, ← y.2]; exact h0)
            rw [up2_ne _ _ z, up2_ne _ _ z, up2_ne _ _ h1]
      · refine g_iload F 0 dX5_cut_37 rfl ?_
        refine g_iload_n F 3 dX5_cut_39 rfl rfl ?_
        refine g_icmp_ge F (tgt := 73) dX5_cut_40 (by decide) (fun _ => ?_) (fun h => ?_)
        · refine g_aload F 2 dX5_cut_73 rfl ?_
          refine g_iload F 1 dX5_cut_75 rfl ?_
          refine q_callS F (rest := []) [.ref (up2 ad 22 0 q 22 0), .int (nI (pts wd ev al))] (cl_cpI l D A cs (up2 ad 22 0 q) (fun a b => dm a b ∨ (a = 22 ∧ b = 0)) (up2 w 22 0 (.inl (cs 0, 8, .inl (fun x => if x < (pts wd ev al) then nI (lof wd ev al x) else 0)))) tq (pts wd ev al) (fun x => if x < pts wd ev al then nI (lof wd ev al x) else 0) (.inr ⟨rfl, rfl⟩) (up2_self _ _ _ _) (fun z hz => if_neg (by omega)) hpt.1 (fun z => z.elim hd (fun y => absurd y.1 (by decide)))) (va_cwS 2 F.1.2.2.2.2 gX5_cut_J7_copyOf_59c91 rfl rfl rfl (by decide +kernel) ⟨Nat.le_of_ble_eq_true rfl, Nat.le_of_ble_eq_true rfl⟩) rfl rfl (Nat.le_of_ble_eq_true rfl) dX5_cut_77 ⟨Nat.le_of_ble_eq_true rfl, Nat.le_of_ble_eq_true rfl⟩ (fun _ _ _ _ hv => ?_)
          obtain ⟨q2, rfl, rfl, rfl, rfl⟩ := hv
          refine g_qa F hr (.inr ⟨_, rfl⟩) hlocks (fun H hH => HW.congr hH (ad' := up2 ad 21 tq q2) (dm' := fun a b => dm a b ∨ (a = 21 ∧ b = tq)) (w' := up2 w 21 tq (.inl (cs 0, pts wd ev al, .inl (fun x => if x < pts wd ev al then nI (lof wd ev al x) else 0)))) (fun a b h => h.elim (fun z => .inl (.inl z)) .inr) (fun a b h => ?_) (fun a b h => ?_)) ⟨q2, rfl, rfl, rfl, rfl⟩ (by decide) (by decide) dX5_cut_80
          · by_cases z : a = 21 ∧ b = tq
            · rw [z.1, z.2, up2_self, up2_self]
            · have h0 := h.resolve_right z
              have h1 : ¬ (a = 22 ∧ b = 0) := fun y => h22 (by rw [← y.1, ← y.2]; exact h0)
              rw [up2_ne _ _ z, up2_ne _ _ z, up2_ne _ _ h1]
          · by_cases z : a = 21 ∧ b = tq
            · rw [z.1, z.2, up2_self, up2_self]
              congr 4
              funext x
              split <;> rfl
            · have h0 := h.resolve_right z
              have h1 : ¬ (a = 22 ∧ b = 0) := fun y => h22 (by rw [← y.1, ← y.2]; exact h0)
              rw [up2_ne _ _ z, up2_ne _ _ z, up2_ne _ _ h1]
        · exact absurd ((nI_leI (by omega) (by omega)).mpr (by omega)) h
    · replace ih : GG p l e _ s m _ below meth c D A _ _ _ _ _ _ (up2 w 22 0 (.inl (cs 0, 8, .inl (fun x => if x < (k + 1) then nI (lof wd ev al x) else 0)))) 29 [(6, .int (nI (stt wd ev al (k + 1)))), (5, .int (nI (k + 1))), (4, .ref ((up2 ad 22 0 q) 22 0)), (0, .int (nI al)), (1, .int (nI e1)), (2, .int (nI a1)), (3, .int (nI lm))] [] := ih
      show GG p l e _ s m _ below meth c D A _ _ _ _ _ _ (up2 w 22 0 (.inl (cs 0, 8, .inl (fun x => if x < k then nI (lof wd ev al x) else 0)))) 29 [(6, .int (nI (stt wd ev al k))), (5, .int (nI k)), (4, .ref ((up2 ad 22 0 q) 22 0)), (0, .int (nI al)), (1, .int (nI e1)), (2, .int (nI a1)), (3, .int (nI lm))] []
      have hlt : stt wd ev al k < al := (stt_lt wd ev al k hmo).mp (hpt.2.2 k hk)
      have hsz := sz_le wd ev al (stt wd ev al k) (by omega)
      have hsp := sz_sp wd ev al (stt wd ev al k)
      rw [← he1, ← hlm] at hsp
      refine g_iload F 1 dX5_cut_29 rfl ?_
      refine g_aload F 2 dX5_cut_31 rfl ?_
      refine g_alen (t0 := 0) (k := 22) (i := 0) (v := nI 8) F (.inr ⟨rfl, rfl⟩) (up2_self _ _ _ _) rfl rfl dX5_cut_33 ?_
      refine g_icmp_ge F (tgt := 73) dX5_cut_34 (by decide) (fun h => absurd ((nI_leI (by omega) (by omega)).mp h) (by omega)) (fun _ => ?_)
      refine g_iload F 0 dX5_cut_37 rfl ?_
      refine g_iload_n F 3 dX5_cut_39 rfl rfl ?_
      refine g_icmp_ge F (tgt := 73) dX5_cut_40 (by decide) (fun h => absurd ((nI_leI (by omega) (by omega)).mp h) (by omega)) (fun _ => ?_)
      refine g_iload F 0 dX5_cut_43 rfl ?_
      refine g_iload_n F 3 dX5_cut_45 rfl rfl ?_
      refine g_iload_n F 4 dX5_cut_46 rfl rfl ?_
      refine g_iload_n F 6 dX5_cut_47 rfl rfl ?_
      refine q_callS F (rest := []) [.int (nI (stt wd ev al k)), .int (nI al), .int (nI e1), .int (nI lm)] (cw_fit l D A cs _ _ _ (stt wd ev al k) al e1 lm (sz wd ev al (stt wd ev al k)) hal he50 hl153 hsz hsp.1 hsp.2) (va_cwS 4 F.1.2.2.2.2 gX5_cut_X5_lettersThatFit rfl rfl rfl (by decide +kernel) ⟨Nat.le_of_ble_eq_true rfl, Nat.le_of_ble_eq_true rfl⟩) rfl rfl (Nat.le_of_ble_eq_true rfl) dX5_cut_48 ⟨Nat.le_of_ble_eq_true rfl, Nat.le_of_ble_eq_true rfl⟩ (fun _ _ _ _ hv => ?_)
      obtain ⟨rfl, rfl, rfl, rfl⟩ := hv
      show GG p l e _ s m _ below meth c D A _ _ _ _ _ _ (up2 w 22 0 (.inl (cs 0, 8, .inl (fun x => if x < k then nI (lof wd ev al x) else 0)))) 51 _ [.int (nI (sz wd ev al (stt wd ev al k)))]
      refine g_istore F (lv1 := (7, .int (nI (sz wd ev al (stt wd ev al k)))) :: [(6, .int (nI (stt wd ev al k))), (5, .int (nI k)), (4, .ref ((up2 ad 22 0 q) 22 0)), (0, .int (nI al)), (1, .int (nI e1)), (2, .int (nI a1)), (3, .int (nI lm))]) dX5_cut_51 (by decide) rfl ?_
      refine g_aload F 3 dX5_cut_53 rfl ?_
      refine g_iload F 2 dX5_cut_55 rfl ?_
      refine g_iload F 0 dX5_cut_57 rfl ?_
      refine ca_iast (k := 22) (i := 0) (n := 8) (j := k) (f := fun x => if x < k then nI (lof wd ev al x) else 0) F (.inr ⟨rfl, rfl⟩) (up2_self _ _ _ _) rfl ⟨by omega, by decide⟩ dX5_cut_59 ?_
      refine g_w (w1 := (up2 w 22 0 (.inl (cs 0, 8, .inl (fun x => if x < (k + 1) then nI (lof wd ev al x) else 0))))) (by
        funext a b
        by_cases z : a = 22 ∧ b = 0
        · rw [z.1, z.2, up2_self, up2_self]
          congr 4
          funext x
          unfold upd
          by_cases hx : x = k
          · rw [if_pos hx, if_pos (by omega), hx, lof_more wd ev al k hmo]
          · rw [if_neg hx]
            show (if x < k + 1 then nI (lof wd ev al x) else 0) = (if x < k then nI (lof wd ev al x) else 0)
            by_cases hx2 : x < k
            · rw [if_pos (by omega), if_pos hx2]
            · rw [if_neg (by omega), if_neg hx2]
        · rw [up2_ne _ _ z, up2_ne _ _ z, up2_ne _ _ z]) ?_
      refine g_iinc F (v := nI (k + 1)) (lv1 := [(5, .int (nI (k + 1))), (7, .int (nI (sz wd ev al (stt wd ev al k)))), (6, .int (nI (stt wd ev al k))), (4, .ref (up2 ad 22 0 q 22 0)), (0, .int (nI al)), (1, .int (nI e1)), (2, .int (nI a1)), (3, .int (nI lm))]) 2 dX5_cut_60 rfl (nI_1 k) (by decide) rfl ?_
      refine g_iload F 2 dX5_cut_63 rfl ?_
      refine g_iload F 1 dX5_cut_65 rfl ?_
      refine g_iadd F dX5_cut_67 ?_
      refine g_top (y := nI (stt wd ev al (k + 1))) (nI_add _ _).symm ?_
      refine g_istore F (lv1 := [(6, .int (nI (stt wd ev al (k + 1)))), (5, .int (nI (k + 1))), (7, .int (nI (sz wd ev al (stt wd ev al k)))), (4, .ref (up2 ad 22 0 q 22 0)), (0, .int (nI al)), (1, .int (nI e1)), (2, .int (nI a1)), (3, .int (nI lm))]) dX5_cut_68 (by decide) rfl ?_
      refine g_goto F (tgt := 29) dX5_cut_70 (by decide) ?_
      exact g_lv [0, 1, 3, 4, 5, 6, 7] rfl ih
  · have hle : plcs wd ev al ≤ (if wd then 70 else 160) := by
      rcases Nat.lt_or_ge a1 (plN e1 al) with z | z
      · exact absurd ((nI_ltI (by omega) (by omega)).mpr z) hc
      · rw [← ha1, ← hpl]; exact z
    have hp1 := pts_first wd ev al hle hal hal0
    refine g_iconst F dX5_cut_9 (v := 1) (by decide) ?_
    refine g_newi (N' := 1) F 21 tq 0 hd rfl (by decide +kernel) (by decide) (by decide) (by decide) (by decide) dX5_cut_10 (fun q => ?_)
    refine g_dup F dX5_cut_12 rfl ?_
    refine g_iconst F dX5_cut_13 (v := 0) (by decide) ?_
    refine g_iload_n F 0 dX5_cut_14 rfl rfl ?_
    refine g_st (st1 := [.int (nI al), .int (nI 0), .ref (up2 ad 21 tq q 21 tq), .ref q]) (by rw [up2_self]; rfl) ?_
    refine ca_iast (k := 21) (i := tq) (n := 1) (j := 0) (f := fun _ => 0) F (.inr ⟨rfl, rfl⟩) (up2_self _ _ _ _) rfl ⟨by decide, by decide⟩ dX5_cut_15 ?_
    refine g_qa F hr (.inr ⟨_, rfl⟩) hlocks (fun _ h => h) ⟨q, rfl, rfl, rfl, ?_⟩ (by decide) (by decide) dX5_cut_16
    rw [hp1]
    have ef : upd (fun _ => (0 : Int32)) 0 (nI al) = (fun x => if x < 1 then nI (lof wd ev al x) else 0) := by
      funext x
      unfold upd
      by_cases hx : x = 0
      · rw [if_pos hx, if_pos (by omega), hx]
        unfold lof
        rw [if_pos hle, if_pos rfl]
      · rw [if_neg hx, if_neg (by omega)]
    rw [ef]
    funext a b
    by_cases z : a = 21 ∧ b = tq
    · rw [z.1, z.2, up2_self, up2_self]
    · rw [up2_ne _ _ z, up2_ne _ _ z, up2_ne _ _ z]

