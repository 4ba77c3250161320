/-- a method's end over such worlds: what it answers, and the world behind it -/
def QW (D : va_G) (A : Nat → Prop) (tys : List (ClassId × FieldType)) (post : Option Value → (Nat → Nat → Nat) → (Nat → Nat → Prop) → CF → Prop) : Array Value → State → Outcome → State → Prop := fun _ st oc t => (∃ (v : Option Value) (ad : Nat → Nat → Nat) (dm : Nat → Nat → Prop) (w : CF), oc = .returned v ∧ post v ad dm w ∧ PW D A tys ad dm w t) ∧ va_F A st t
/-- what is thrown: its class as px says, the world as it was -/
def XW (D : va_G) (A : Nat → Prop) (tys : List (ClassId × FieldType)) (ad : Nat → Nat → Nat) (dm : Nat → Nat → Prop) (w : CF) (px : String → Prop) : String → State → State → Prop := fun E st t => px E ∧ HW D A ad dm w t.heap ∧ va_F A st t
theorem HW.kept {D : va_G} {A : Nat → Prop} {ad : Nat → Nat → Nat} {dm : Nat → Nat → Prop} {w : CF} {H H1 : Heap} (h : HW D A ad dm w H) (hq : ∀ q : Nat, q < H.size → H1[q]? = H[q]?) : HW D A ad dm w H1 := by
  obtain ⟨L, f, hP, hD, hm, hj⟩ := h
  exact ⟨L, f, hP.kept (fun k x hx => hq x.1 ((hP k x hx).lt)), hD, hm, hj⟩
theorem HW.ren {D : va_G} {A : Nat → Prop} {ad ad1 : Nat → Nat → Nat} {dm dm1 : Nat → Nat → Prop} {w w1 : CF} {H : Heap} (h : HW D A ad dm w H) (g : Nat → Nat → Nat × Nat) (h1 : ∀ k i, dm1 k i → dm (g k i).1 (g k i).2 ∧ ad1 k i = ad (g k i).1 (g k i).2 ∧ w1 k i = w (g k i).1 (g k i).2) (h2 : ∀ k i k' i', dm1 k i → dm1 k' i' → g k i = g k' i' → k = k' ∧ i = i') : HW D A ad1 dm1 w1 H := by
  obtain ⟨L, f, hP, hD, hm, hj⟩ := h
  refine ⟨L, f, hP, hD, fun k i q => ?_, fun k i k' i' q q' e9 => ?_⟩
  · obtain ⟨a1, a2, a3⟩ := h1 k i q
    rw [a2, a3]
    exact hm _ _ a1
  · obtain ⟨a1, a2, -⟩ := h1 k i q
    obtain ⟨b1, b2, -⟩ := h1 k' i' q'
    rw [a2, b2] at e9
    obtain ⟨c1, c2⟩ := hj _ _ _ _ a1 b1 e9
    exact h2 k i k' i' q q' (Prod.ext c1 c2)
section FR2
variable {p : Program} {l : Launch} {e : Env} {R : Room} {s : State} {m : MethodId} {args : Array Value} {below : List Frame} {meth : Method} {c : Code} {cells slots : Nat} {Q : State → Prop} {cc : ByteArray} {nL : Nat} {Ts : List Cond} {own : String} {D : va_G} {A : Nat → Prop} {tys : List (ClassId × FieldType)} {ad : Nat → Nat → Nat} {dm : Nat → Nat → Prop} {w : CF} {pc : Nat} {lv : List (Nat × Value)} {rest : List Value}
theorem g_aload_nN (F : FX p s m args c cc nL Ts own D A tys) {k : Fin 4} {i : Nat} (j : Nat) (d : decode cc pc = .ok (.aload_n k, 1)) (hi : (k : Nat) = i) (hj : lv[j]? = some (i, .null))
    (kk : GG p l e R s m args below meth c D A ad dm nL cells slots Q w (pc + 1) lv (.null :: rest)) : GG p l e R s m args below meth c D A ad dm nL cells slots Q w pc lv rest := fun H locs ls hw hS hl => lv_aload_nN F.1.1 F.1.2.1 d hi (lv_at hl j hj) (kk H locs ls hw hS hl)
theorem g_aloadN (F : FX p s m args c cc nL Ts own D A tys) {i : Nat} (j : Nat) (d : decode cc pc = .ok (.aload i, 2)) (hj : lv[j]? = some (i, .null))
    (kk : GG p l e R s m args below meth c D A ad dm nL cells slots Q w (pc + 2) lv (.null :: rest)) : GG p l e R s m args below meth c D A ad dm nL cells slots Q w pc lv rest := fun H locs ls hw hS hl => lv_aloadN F.1.1 F.1.2.1 d (lv_at hl j hj) (kk H locs ls hw hS hl)
theorem g_astore_nN (F : FX p s m args c cc nL Ts own D A tys) {k : Fin 4} {i : Nat} {lv1 : List (Nat × Value)} (d : decode cc pc = .ok (.astore_n k, 1)) (hi : (k : Nat) = i) (hn : i < nL) (hv : (i, Value.null) :: lv.filter (fun q => !(q.1 == i) && !(q.1 + 1 == i && q.2.category == 2)) = lv1)
    (kk : GG p l e R s m args below meth c D A ad dm nL cells slots Q w (pc + 1) lv1 rest) : GG p l e R s m args below meth c D A ad dm nL cells slots Q w pc lv (.null :: rest) := fun H locs ls hw hS hl => lv_astore_nN F.1.1 F.1.2.1 d hi hl hn hv (fun ls1 hl1 => kk H locs ls1 hw hS hl1)
theorem g_astoreN (F : FX p s m args c cc nL Ts own D A tys) {i : Nat} {lv1 : List (Nat × Value)} (d : decode cc pc = .ok (.astore i, 2)) (hn : i < nL) (hv : (i, Value.null) :: lv.filter (fun q => !(q.1 == i) && !(q.1 + 1 == i && q.2.category == 2)) = lv1)
    (kk : GG p l e R s m args below meth c D A ad dm nL cells slots Q w (pc + 2) lv1 rest) : GG p l e R s m args below meth c D A ad dm nL cells slots Q w pc lv (.null :: rest) := fun H locs ls hw hS hl => lv_astoreN F.1.1 F.1.2.1 d hl hn hv (fun ls1 hl1 => kk H locs ls1 hw hS hl1)
theorem g_ifnull (F : FX p s m args c cc nL Ts own D A tys) {x : Nat} {off : Int} (d : decode cc pc = .ok (.ifnull off, 3)) (kk : GG p l e R s m args below meth c D A ad dm nL cells slots Q w (pc + 3) lv rest) : GG p l e R s m args below meth c D A ad dm nL cells slots Q w pc lv (.ref x :: rest) := fun H locs ls hw hS hl => lv_ifnull F.1.1 F.1.2.1 d (kk H locs ls hw hS hl)
theorem g_ifnullN (F : FX p s m args c cc nL Ts own D A tys) {off : Int} {tgt : Nat} (d : decode cc pc = .ok (.ifnull off, 3)) (ht : (pc : Int) + off = (tgt : Int)) (kk : GG p l e R s m args below meth c D A ad dm nL cells slots Q w tgt lv rest) : GG p l e R s m args below meth c D A ad dm nL cells slots Q w pc lv (.null :: rest) := fun H locs ls hw hS hl => lv_ifnullN F.1.1 F.1.2.1 d ht (kk H locs ls hw hS hl)
theorem g_ifnonnull (F : FX p s m args c cc nL Ts own D A tys) {x : Nat} {off : Int} {tgt : Nat} (d : decode cc pc = .ok (.ifnonnull off, 3)) (ht : (pc : Int) + off = (tgt : Int)) (kk : GG p l e R s m args below meth c D A ad dm nL cells slots Q w tgt lv rest) : GG p l e R s m args below meth c D A ad dm nL cells slots Q w pc lv (.ref x :: rest) := fun H locs ls hw hS hl => lv_ifnonnull F.1.1 F.1.2.1 d ht (kk H locs ls hw hS hl)
theorem g_ifnonnullN (F : FX p s m args c cc nL Ts own D A tys) {off : Int} (d : decode cc pc = .ok (.ifnonnull off, 3)) (kk : GG p l e R s m args below meth c D A ad dm nL cells slots Q w (pc + 3) lv rest) : GG p l e R s m args below meth c D A ad dm nL cells slots Q w pc lv (.null :: rest) := fun H locs ls hw hS hl => lv_ifnonnullN F.1.1 F.1.2.1 d (kk H locs ls hw hS hl)
theorem g_acmp_eq (F : FX p s m args c cc nL Ts own D A tys) {x y : Nat} {off : Int} {tgt : Nat} (d : decode cc pc = .ok (.if_acmp .eq off, 3)) (ht : (pc : Int) + off = (tgt : Int)) (kt : x = y → GG p l e R s m args below meth c D A ad dm nL cells slots Q w tgt lv rest) (kf : ¬ x = y → GG p l e R s m args below meth c D A ad dm nL cells slots Q w (pc + 3) lv rest) : GG p l e R s m args below meth c D A ad dm nL cells slots Q w pc lv (.ref y :: .ref x :: rest) := fun H locs ls hw hS hl => lv_acmp_eq (rx := some x) (ry := some y) F.1.1 F.1.2.1 d ht (fun h => kt (Option.some.inj h) H locs ls hw hS hl) (fun h => kf (fun q => h (congrArg some q)) H locs ls hw hS hl)
theorem g_acmp_ne (F : FX p s m args c cc nL Ts own D A tys) {x y : Nat} {off : Int} {tgt : Nat} (d : decode cc pc = .ok (.if_acmp .ne off, 3)) (ht : (pc : Int) + off = (tgt : Int)) (kt : ¬ x = y → GG p l e R s m args below meth c D A ad dm nL cells slots Q w tgt lv rest) (kf : x = y → GG p l e R s m args below meth c D A ad dm nL cells slots Q w (pc + 3) lv rest) : GG p l e R s m args below meth c D A ad dm nL cells slots Q w pc lv (.ref y :: .ref x :: rest) := fun H locs ls hw hS hl => lv_acmp_ne (rx := some x) (ry := some y) F.1.1 F.1.2.1 d ht (fun h => kt (fun q => h (congrArg some q)) H locs ls hw hS hl) (fun h => kf (Option.some.inj h) H locs ls hw hS hl)
theorem g_new (F : FX p s m args c cc nL Ts own D A tys) {ci N index : Nat} {C : String} {T : u_T} {tf : Nat → FieldType} {fs : List Value} (k i : Nat) (hd : ¬ dm k i) (hin : ∀ w ∈ u_ws C T N, w ∈ Ts) (hty : ∀ k, k < N → parseFieldDescriptor (T k).2.2.1 = some (tf k)) (hcl : Cond.classLink own index C ∈ Ts) (hinst : Cond.instantiable C N ∈ Ts) (hini : Cond.initialized C ∈ Ts) (hc : vwCl[ci]? = some (C, T, N)) (hfs : ∀ j, j < N → defaultValue (tf j) = vp_V fs j) (hcells : cells + 1 ≤ R.cells) (hslots : slots + N ≤ R.slots) (d : decode cc pc = .ok (.new index, 3))
    (kk : ∀ q : Nat, GG p l e R s m args below meth c D A (up2 ad k i q) (fun a b => dm a b ∨ (a = k ∧ b = i)) nL (cells + 1) (slots + N) Q (up2 w k i (.inr (ci, fs))) (pc + 3) lv (.ref q :: rest)) : GG p l e R s m args below meth c D A ad dm nL cells slots Q w pc lv rest := by
  intro H locs ls hw hS hl
  obtain ⟨L, f, hP, hD, hm, hj⟩ := id hw
  exact va_new F.1.1 F.1.2.1 F.1.2.2.2.2 hin tf hty F.1.2.2.2.1 (F.1.2.2.2.2 _ hcl) (F.1.2.2.2.2 _ hinst) (F.1.2.2.2.2 _ hini) F.2.1 hP hD hS F.2.2.1 hc hfs hcells hslots d (fun q H1 hP1 hD1 hS1 => kk q H1 locs ls (HW.push hP hm hj hd hP1 hD1) hS1 hl)
theorem ty_one {tys : List (ClassId × FieldType)} {D : va_G} {U : State} {ty : FieldType} {cA cB : ClassId} {t0 : Nat} (h1 : va_K D vwCl (tys ++ [(cA, ty)]) U) (ht : tys[t0]? = some (cB, ty)) : cA = cB := by
  have hl := (List.getElem?_eq_some_iff.mp ht).1
  have a1 := (h1.2 tys.length (cA, ty) (by simp)).2
  have a2 := (h1.2 t0 (cB, ty) (by rw [List.getElem?_append_left hl]; exact ht)).2
  cases ty with
  | object C =>
    obtain ⟨_, _, _, _, _, b1⟩ := a1
    obtain ⟨_, _, _, _, _, b2⟩ := a2
    exact Option.some.inj (b1.symm.trans b2)
  | _ => exact Option.some.inj (Eq.trans (Eq.symm a1) a2)
theorem g_newi (F : FX p s m args c cc nL Ts own D A tys) (k i t0 : Nat) {cA : ClassId} {n : Int32} {N' : Nat} (hd : ¬ dm k i) (ht : tys[t0]? = some (cA, .int)) (harr : Cond.arrayClass .int ∈ Ts) (hn : n = nI N') (hN : N' ≤ 4096) (hcells : cells + 1 ≤ R.cells) (hslots : slots + N' ≤ R.slots) (d : decode cc pc = .ok (.newarray .int, 2))
    (kk : ∀ q : Nat, GG p l e R s m args below meth c D A (up2 ad k i q) (fun a b => dm a b ∨ (a = k ∧ b = i)) nL (cells + 1) (slots + N') Q (up2 w k i (.inl (cA, N', .inl (fun _ => 0)))) (pc + 2) lv (.ref q :: rest)) : GG p l e R s m args below meth c D A ad dm nL cells slots Q w pc lv (.int n :: rest) := by
  intro H locs ls hw hS hl
  subst hn
  obtain ⟨L, f, hP, hD, hm, hj⟩ := id hw
  refine va_newa F.1.1 F.1.2.1 (atype := .int) (ty := .int) (N' := N') (a0 := (N', .inl (fun _ => 0))) (F.1.2.2.2.2 _ harr) rfl F.2.1 hP hD hS F.2.2.1 (fun cA => rfl) (nI_pos (by omega)) (nI_clamp (by omega)) (by simp only [componentBytes]; omega) hcells hslots d (fun q cB H1 hK1 hP1 hD1 hS1 => ?_)
  have hc := ty_one hK1 ht
  subst hc
  exact kk q H1 locs ls (HW.push hP hm hj hd hP1 hD1) hS1 hl
theorem g_newz (F : FX p s m args c cc nL Ts own D A tys) (k i t0 : Nat) {cA : ClassId} {n : Int32} {N' : Nat} (hd : ¬ dm k i) (ht : tys[t0]? = some (cA, .boolean)) (harr : Cond.arrayClass .boolean ∈ Ts) (hn : n = nI N') (hN : N' ≤ 4096) (hcells : cells + 1 ≤ R.cells) (hslots : slots + N' ≤ R.slots) (d : decode cc pc = .ok (.newarray .boolean, 2))
    (kk : ∀ q : Nat, GG p l e R s m args below meth c D A (up2 ad k i q) (fun a b => dm a b ∨ (a = k ∧ b = i)) nL (cells + 1) (slots + N') Q (up2 w k i (.inl (cA, N', .inl (fun _ => 0)))) (pc + 2) lv (.ref q :: rest)) : GG p l e R s m args below meth c D A ad dm nL cells slots Q w pc lv (.int n :: rest) := by
  intro H locs ls hw hS hl
  subst hn
  obtain ⟨L, f, hP, hD, hm, hj⟩ := id hw
  refine va_newa F.1.1 F.1.2.1 (atype := .boolean) (ty := .boolean) (N' := N') (a0 := (N', .inl (fun _ => 0))) (F.1.2.2.2.2 _ harr) rfl F.2.1 hP hD hS F.2.2.1 (fun cA => rfl) (nI_pos (by omega)) (nI_clamp (by omega)) (by simp only [componentBytes]; omega) hcells hslots d (fun q cB H1 hK1 hP1 hD1 hS1 => ?_)
  have hc := ty_one hK1 ht
  subst hc
  exact kk q H1 locs ls (HW.push hP hm hj hd hP1 hD1) hS1 hl
theorem g_newl (F : FX p s m args c cc nL Ts own D A tys) (k i t0 : Nat) {cA : ClassId} {n : Int32} {N' : Nat} (hd : ¬ dm k i) (ht : tys[t0]? = some (cA, .long)) (harr : Cond.arrayClass .long ∈ Ts) (hn : n = nI N') (hN : N' ≤ 4096) (hcells : cells + 1 ≤ R.cells) (hslots : slots + N' ≤ R.slots) (d : decode cc pc = .ok (.newarray .long, 2))
    (kk : ∀ q : Nat, GG p l e R s m args below meth c D A (up2 ad k i q) (fun a b => dm a b ∨ (a = k ∧ b = i)) nL (cells + 1) (slots + N') Q (up2 w k i (.inl (cA, N', .inr (.inl (fun _ => 0))))) (pc + 2) lv (.ref q :: rest)) : GG p l e R s m args below meth c D A ad dm nL cells slots Q w pc lv (.int n :: rest) := by
  intro H locs ls hw hS hl
  subst hn
  obtain ⟨L, f, hP, hD, hm, hj⟩ := id hw
  refine va_newa F.1.1 F.1.2.1 (atype := .long) (ty := .long) (N' := N') (a0 := (N', .inr (.inl (fun _ => 0)))) (F.1.2.2.2.2 _ harr) rfl F.2.1 hP hD hS F.2.2.1 (fun cA => rfl) (nI_pos (by omega)) (nI_clamp (by omega)) (by simp only [componentBytes]; omega) hcells hslots d (fun q cB H1 hK1 hP1 hD1 hS1 => ?_)
  have hc := ty_one hK1 ht
  subst hc
  exact kk q H1 locs ls (HW.push hP hm hj hd hP1 hD1) hS1 hl
theorem g_newq (F : FX p s m args c cc nL Ts own D A tys) (k i t0 : Nat) {cA : ClassId} {C : String} {index : Nat} {n : Int32} {N' : Nat} (hd : ¬ dm k i) (ht : tys[t0]? = some (cA, .object C)) (hcl : Cond.classLink own index C ∈ Ts) (hover : va_AO C s) (hn : n = nI N') (hN : N' ≤ 4096) (hcells : cells + 1 ≤ R.cells) (hslots : slots + N' ≤ R.slots) (d : decode cc pc = .ok (.anewarray index, 3))
    (kk : ∀ q : Nat, GG p l e R s m args below meth c D A (up2 ad k i q) (fun a b => dm a b ∨ (a = k ∧ b = i)) nL (cells + 1) (slots + N') Q (up2 w k i (.inl (cA, N', .inr (.inr (.inr (.inr (fun _ => none))))))) (pc + 3) lv (.ref q :: rest)) : GG p l e R s m args below meth c D A ad dm nL cells slots Q w pc lv (.int n :: rest) := by
  intro H locs ls hw hS hl
  subst hn
  obtain ⟨L, f, hP, hD, hm, hj⟩ := id hw
  refine va_newq F.1.1 F.1.2.1 F.1.2.2.2.1 (F.1.2.2.2.2 _ hcl) hover F.2.1 hP hD hS F.2.2.1 (nI_pos (by omega)) (nI_clamp (by omega)) (by omega) hcells hslots d (fun q cB H1 hK1 hP1 hD1 hS1 => ?_)
  have hc := ty_one hK1 ht
  subst hc
  exact kk q H1 locs ls (HW.push hP hm hj hd hP1 hD1) hS1 hl
theorem g_forget {dm1 : Nat → Nat → Prop} {ad1 : Nat → Nat → Nat} {w1 : CF} (hd : ∀ k i, dm1 k i → dm k i) (ha : ∀ k i, dm1 k i → ad1 k i = ad k i) (hw1 : ∀ k i, dm1 k i → w1 k i = w k i) (kk : GG p l e R s m args below meth c D A ad1 dm1 nL cells slots Q w1 pc lv rest) : GG p l e R s m args below meth c D A ad dm nL cells slots Q w pc lv rest := fun H locs ls hw hS hl => kk H locs ls (hw.congr hd ha hw1) hS hl
theorem g_astN (F : FX p s m args c cc nL Ts own D A tys) {k i n : Nat} {cA : ClassId} {C : String} {f : Nat → Option Nat} {ix : Int32} (t0 : Nat) (hd : dm k i) (he : w k i = .inl (cA, n, .inr (.inr (.inr (.inr f))))) (ht : tys[t0]? = some (cA, .object C)) (hx : vp_in ix n) (d : decode cc pc = .ok (.aastore, 1))
    (kk : GG p l e R s m args below meth c D A ad dm nL cells slots Q (up2 w k i (.inl (cA, n, .inr (.inr (.inr (.inr (va_up f ix.toNatClampNeg none))))))) (pc + 1) lv rest) : GG p l e R s m args below meth c D A ad dm nL cells slots Q w pc lv (.null :: .int ix :: .ref (ad k i) :: rest) := by
  intro H locs ls hw hS hl
  obtain ⟨L, f, hP, hD, hm, hj⟩ := id hw
  obtain ⟨q0, hq0⟩ := va_pl_get (X := []) (f := f) (hm k i hd).1
  have hq1 := hq0
  rw [(hm k i hd).2, he] at hq1
  refine va_astqN F.1.1 F.1.2.1 F.2.1 hP hD hS q0 t0 hq1 ht hx d (fun H1 locs1 hP1 hD1 hS1 => ?_)
  rw [va_pl_set hD (hm k i hd).1 hq0] at hP1 hD1
  exact kk H1 locs1 ls (HW.set hm hj hd hP1 hD1) hS1 hl
theorem g_astq (F : FX p s m args c cc nL Ts own D A tys) {k i n k2 i2 ci : Nat} {cA : ClassId} {r : vw_C} {vs : List Value} {f : Nat → Option Nat} {ix : Int32} (t0 : Nat) (hd : dm k i) (he : w k i = .inl (cA, n, .inr (.inr (.inr (.inr f))))) (ht : tys[t0]? = some (cA, .object r.1)) (hd2 : dm k2 i2) (he2 : w k2 i2 = .inr (ci, vs)) (hc : vwCl[ci]? = some r) (hx : vp_in ix n) (d : decode cc pc = .ok (.aastore, 1))
    (kk : GG p l e R s m args below meth c D A ad dm nL cells slots Q (up2 w k i (.inl (cA, n, .inr (.inr (.inr (.inr (va_up f ix.toNatClampNeg (some (ad k2 i2))))))))) (pc + 1) lv rest) : GG p l e R s m args below meth c D A ad dm nL cells slots Q w pc lv (.ref (ad k2 i2) :: .int ix :: .ref (ad k i) :: rest) := by
  intro H locs ls hw hS hl
  obtain ⟨L, f_1, hP, hD, hm, hj⟩ := id hw
  obtain ⟨q0, hq0⟩ := va_pl_get (X := []) (f := f_1) (hm k i hd).1
  have hq1 := hq0
  rw [(hm k i hd).2, he] at hq1
  obtain ⟨q2, hq2⟩ := va_pl_get (X := []) (f := f_1) (hm k2 i2 hd2).1
  rw [(hm k2 i2 hd2).2, he2] at hq2
  refine va_astq F.1.1 F.1.2.1 F.2.1 hP hD hS q0 t0 q2 ci hq1 ht hq2 hc hx d (fun H1 locs1 hP1 hD1 hS1 => ?_)
  rw [va_pl_set hD (hm k i hd).1 hq0] at hP1 hD1
  exact kk H1 locs1 ls (HW.set hm hj hd hP1 hD1) hS1 hl
theorem g_astO (F : FX p s m args c cc nL Ts own D A tys) {k i n k2 i2 ci : Nat} {cA : ClassId} {E : String} {r : vw_C} {vs : List Value} {f : Nat → Option Nat} {ix : Int32} (t0 : Nat) (hd : dm k i) (he : w k i = .inl (cA, n, .inr (.inr (.inr (.inr f))))) (ht : tys[t0]? = some (cA, .object E)) (hca : va_Nw (.castable r.1 E) s) (hd2 : dm k2 i2) (he2 : w k2 i2 = .inr (ci, vs)) (hc : vwCl[ci]? = some r) (hx : vp_in ix n) (d : decode cc pc = .ok (.aastore, 1))
    (kk : GG p l e R s m args below meth c D A ad dm nL cells slots Q (up2 w k i (.inl (cA, n, .inr (.inr (.inr (.inr (va_up f ix.toNatClampNeg (some (ad k2 i2))))))))) (pc + 1) lv rest) : GG p l e R s m args below meth c D A ad dm nL cells slots Q w pc lv (.ref (ad k2 i2) :: .int ix :: .ref (ad k i) :: rest) := by
  intro H locs ls hw hS hl
  obtain ⟨L, f_1, hP, hD, hm, hj⟩ := id hw
  obtain ⟨q0, hq0⟩ := va_pl_get (X := []) (f := f_1) (hm k i hd).1
  have hq1 := hq0
  rw [(hm k i hd).2, he] at hq1
  obtain ⟨q2, hq2⟩ := va_pl_get (X := []) (f := f_1) (hm k2 i2 hd2).1
  rw [(hm k2 i2 hd2).2, he2] at hq2
  refine va_astqO F.1.1 F.1.2.1 F.2.1 hP hD hS q0 t0 q2 ci hq1 ht hca hq2 hc hx d (fun H1 locs1 hP1 hD1 hS1 => ?_)
  rw [va_pl_set hD (hm k i hd).1 hq0] at hP1 hD1
  exact kk H1 locs1 ls (HW.set hm hj hd hP1 hD1) hS1 hl
theorem g_getsE (F : FX p s m args c cc nL Ts own D A tys) {index : Nat} (hlink : Cond.fieldLink own index "java/util/ArrayList" "DEFAULTCAPACITY_EMPTY_ELEMENTDATA" "[Ljava/lang/Object;" ∈ Ts) (d : decode cc pc = .ok (.getstatic index, 3)) (kk : GG p l e R s m args below meth c D A ad dm nL cells slots Q w (pc + 3) lv (.ref (D.2 100 0) :: rest)) : GG p l e R s m args below meth c D A ad dm nL cells slots Q w pc lv rest := fun H locs ls hw hS hl => va_gets F.1.1 F.1.2.1 F.2.2.2.1.1 hS F.1.2.2.2.1 (F.1.2.2.2.2 _ hlink) (fun x hx => hx) d (kk H locs ls hw hS hl)
theorem g_elen (F : FX p s m args c cc nL Ts own D A tys) (d : decode cc pc = .ok (.arraylength, 1)) (kk : GG p l e R s m args below meth c D A ad dm nL cells slots Q w (pc + 1) lv (.int 0 :: rest)) : GG p l e R s m args below meth c D A ad dm nL cells slots Q w pc lv (.ref (D.2 100 0) :: rest) := fun H locs ls hw hS hl => va_tlen F.1.1 F.1.2.1 F.2.2.2.1.2.1 hS rfl d (kk H locs ls hw hS hl)
theorem g_getsC (F : FX p s m args c cc nL Ts own D A tys) {index : Nat} (i : Nat) {nm : String} (hi : i < 3) (hnm : ["BUSY", "ABSENT", "FULL"].getD i "" = nm) (hlink : Cond.fieldLink own index "MessageCentre$Cause" nm "LMessageCentre$Cause;" ∈ Ts) (d : decode cc pc = .ok (.getstatic index, 3)) (kk : GG p l e R s m args below meth c D A ad dm nL cells slots Q w (pc + 3) lv (.ref (D.2 100 (1 + i)) :: rest)) : GG p l e R s m args below meth c D A ad dm nL cells slots Q w pc lv rest := fun H locs ls hw hS hl => va_gets F.1.1 F.1.2.1 (by have := (F.2.2.2.1.2.2.1.1 i hi).1; rw [hnm] at this; exact this) hS F.1.2.2.2.1 (F.1.2.2.2.2 _ hlink) (fun x hx => hx) d (kk H locs ls hw hS hl)
theorem g_getC (F : FX p s m args c cc nL Ts own D A tys) {index : Nat} (i fk : Nat) {v : Int32} {q : String × String × String × List Int32} (hi : i < 3) (hq : [("MessageCentre$Cause", "place", "I", [(0 : Int32), 1, 2]), ("MessageCentre$Cause", "firstDelay", "I", [2, 5, 10]), ("MessageCentre$Cause", "mark", "I", [0, 1, 2])][fk]? = some q) (hv : q.2.2.2.getD i 0 = v) (hlink : Cond.fieldLink own index q.1 q.2.1 q.2.2.1 ∈ Ts) (d : decode cc pc = .ok (.getfield index, 3)) (kk : GG p l e R s m args below meth c D A ad dm nL cells slots Q w (pc + 3) lv (.int v :: rest)) : GG p l e R s m args below meth c D A ad dm nL cells slots Q w pc lv (.ref (D.2 100 (1 + i)) :: rest) := fun H locs ls hw hS hl => va_getE (ad := fun i => D.2 100 (1 + i)) (i := i) F.1.1 F.1.2.1 F.2.2.2.1.2.2.1 hi hS F.1.2.2.2.1 (List.mem_of_getElem? hq) (F.1.2.2.2.2 _ hlink) (fun x hx => hx) d (by subst hv; exact kk H locs ls hw hS hl)
theorem g_castY (F : FX p s m args c cc nL Ts own D A tys) {k i ci index : Nat} {C nm : String} {T : u_T} {N : Nat} {fs : List Value} (hd : dm k i) (he : w k i = .inr (ci, fs)) (hc : vwCl[ci]? = some (C, T, N)) (hlink : Cond.classLink own index nm ∈ Ts) (hca : va_Nw (.castable C nm) s) (d : decode cc pc = .ok (.checkcast index, 3)) (kk : GG p l e R s m args below meth c D A ad dm nL cells slots Q w (pc + 3) lv (.ref (ad k i) :: rest)) : GG p l e R s m args below meth c D A ad dm nL cells slots Q w pc lv (.ref (ad k i) :: rest) := by
  intro H locs ls hw hS hl
  obtain ⟨L, f, hP, hD, hm, hj⟩ := id hw
  obtain ⟨q0, hq0⟩ := va_pl_get (X := []) (f := f) (hm k i hd).1
  rw [(hm k i hd).2, he] at hq0
  exact va_castY F.1.1 F.1.2.1 F.1.2.2.2.1 (F.1.2.2.2.2 _ hlink) hca (va_recv F.2.1 hP hc hq0) d (kk H locs ls hw hS hl)
theorem g_mmax (F : FX p s m args c cc nL Ts own D A tys) {index : Nat} (hlink : Cond.methodLink own index Lib.Math.max.name ∈ Ts) (hstat : Cond.static Lib.Math.max.name ∈ Ts) (hini : Cond.initialized "java/lang/Math" ∈ Ts) (hcode : Cond.code Lib.Math.max.name Lib.Math.max.code 2 (some .int) ∈ Ts) (hf : 1 ≤ R.frames) (hlo : (rest.map fun v => v.category).sum + 13 ≤ R.locals) (hc : cells ≤ R.cells) (hs : slots ≤ R.slots) {x y : Int32} (d : decode cc pc = .ok (.invokestatic index, 3)) (kk : GG p l e R s m args below meth c D A ad dm nL cells slots Q w (pc + 3) lv (.int (if x < y then y else x) :: rest)) : GG p l e R s m args below meth c D A ad dm nL cells slots Q w pc lv (.int y :: .int x :: rest) := fun H locs ls hw hS hl => va_mmax F.1.1 F.1.2.1 (F.1.2.2.1.trans hl.1.symm) F.1.2.2.2.1 (F.1.2.2.2.2 _ hlink) (F.1.2.2.2.2 _ hstat) (F.1.2.2.2.2 _ hini) (F.1.2.2.2.2 _ hcode) hf hlo hc hs d (kk H locs ls hw hS hl)
theorem g_mmin (F : FX p s m args c cc nL Ts own D A tys) {index : Nat} (hlink : Cond.methodLink own index Lib.Math.min.name ∈ Ts) (hstat : Cond.static Lib.Math.min.name ∈ Ts) (hini : Cond.initialized "java/lang/Math" ∈ Ts) (hcode : Cond.code Lib.Math.min.name Lib.Math.min.code 2 (some .int) ∈ Ts) (hf : 1 ≤ R.frames) (hlo : (rest.map fun v => v.category).sum + 13 ≤ R.locals) (hc : cells ≤ R.cells) (hs : slots ≤ R.slots) {x y : Int32} (d : decode cc pc = .ok (.invokestatic index, 3)) (kk : GG p l e R s m args below meth c D A ad dm nL cells slots Q w (pc + 3) lv (.int (if y < x then y else x) :: rest)) : GG p l e R s m args below meth c D A ad dm nL cells slots Q w pc lv (.int y :: .int x :: rest) := fun H locs ls hw hS hl => va_mmin F.1.1 F.1.2.1 (F.1.2.2.1.trans hl.1.symm) F.1.2.2.2.1 (F.1.2.2.2.2 _ hlink) (F.1.2.2.2.2 _ hstat) (F.1.2.2.2.2 _ hini) (F.1.2.2.2.2 _ hcode) hf hlo hc hs d (kk H locs ls hw hS hl)
theorem g_copyq (F : FX p s m args c cc nL Ts own D A tys) {index k0 i0 k1 i1 n0 n1 a b z : Nat} {c0 c1 : ClassId} {f g : Nat → Option Nat} {E0 E1 : String} {sp dp nn : Int32} (t0 t1 : Nat) (hlink : Cond.methodLink own index arraycopyName ∈ Ts) (hnat : Cond.native arraycopyName ∈ Ts) (hstat : Cond.static arraycopyName ∈ Ts) (hini : Cond.initialized "java/lang/System" ∈ Ts) (hd0 : dm k0 i0) (he0 : w k0 i0 = .inl (c0, n0, .inr (.inr (.inr (.inr f))))) (hd1 : dm k1 i1) (he1 : w k1 i1 = .inl (c1, n1, .inr (.inr (.inr (.inr g))))) (ht0 : tys[t0]? = some (c0, .object E0)) (ht1 : tys[t1]? = some (c1, .object E1)) (hsp : sp = nI a) (hdp : dp = nI b) (hnn : nn = nI z) (h4 : a + z ≤ n0) (h5 : b + z ≤ n1) (hb0 : n0 < 2 ^ 31) (hb1 : n1 < 2 ^ 31)
    (hel : ∀ q, q < z → ∀ y, f (a + q) = some y → ∃ j, y = ad 17 j ∧ dm 17 j ∧ ∃ fs, w 17 j = .inr (3, fs)) (hca : va_Nw (.castable "MessageCentre$Message" E1) s) (hf : 1 ≤ R.frames) (hlo : (rest.map fun v => v.category).sum + (nativeFrameWords "java/lang/System" "arraycopy" 5 + 11) ≤ R.locals) (d : decode cc pc = .ok (.invokestatic index, 3))
    (kk : GG p l e R s m args below meth c D A ad dm nL cells slots Q (up2 w k1 i1 (.inl (c1, n1, .inr (.inr (.inr (.inr (va_cpy f g a b z))))))) (pc + 3) lv rest) : GG p l e R s m args below meth c D A ad dm nL cells slots Q w pc lv (.int nn :: .int dp :: .ref (ad k1 i1) :: .int sp :: .ref (ad k0 i0) :: rest) := by
  intro H locs ls hw hS hl
  subst hsp; subst hdp; subst hnn
  obtain ⟨L, f1, hP, hD, hm, hj⟩ := id hw
  obtain ⟨q0, hq0⟩ := va_pl_get (X := []) (f := f1) (hm k0 i0 hd0).1
  rw [(hm k0 i0 hd0).2, he0] at hq0
  obtain ⟨q1, hq1⟩ := va_pl_get (X := []) (f := f1) (hm k1 i1 hd1).1
  have hq2 := hq1
  rw [(hm k1 i1 hd1).2, he1] at hq2
  have ca : (nI a).toNatClampNeg = a := nI_clamp (by omega)
  have cb : (nI b).toNatClampNeg = b := nI_clamp (by omega)
  have cz : (nI z).toNatClampNeg = z := nI_clamp (by omega)
  refine va_copyq (C := "MessageCentre$Message") F.1.1 F.1.2.1 (F.1.2.2.1.trans hl.1.symm) F.1.2.2.2.1 (F.1.2.2.2.2 _ hlink) (F.1.2.2.2.2 _ hnat) (F.1.2.2.2.2 _ hstat) (F.1.2.2.2.2 _ hini) F.2.1 hP hD hS q0 q1 t0 t1 hq0 hq2 ht0 ht1 (nI_pos (by omega)) (nI_pos (by omega)) (nI_pos (by omega)) (by rw [ca, cz]; exact h4) (by rw [cb, cz]; exact h5) ?_ ?_ hf hlo d (fun H1 locs1 hP1 hD1 hS1 => ?_)
  · intro q hq y hy
    rw [cz] at hq
    rw [ca] at hy
    obtain ⟨j, rfl, hdj, fs, hfs⟩ := hel q hq y hy
    obtain ⟨qm, hqm⟩ := va_pl_get (X := []) (f := f1) (hm 17 j hdj).1
    rw [(hm 17 j hdj).2, hfs] at hqm
    exact va_recv F.2.1 hP (ci := 3) rfl hqm
  · intro comp cM h1 h2
    obtain ⟨x0, x1, f3, f4, f5⟩ := Cond.castable_spec (va_Nw.use (A := args) rfl hca)
    cases h2.symm.trans f3
    cases h1.symm.trans f4
    exact f5
  · rw [ca, cb, cz] at hP1 hD1
    rw [va_pl_set hD (hm k1 i1 hd1).1 hq1] at hP1 hD1
    exact kk H1 locs1 ls (HW.set hm hj hd1 hP1 hD1) hS1 hl
theorem g_copyi (F : FX p s m args c cc nL Ts own D A tys) {index k0 i0 k1 i1 n0 n1 a b z : Nat} {c0 : ClassId} {f g : Nat → Int32} {sp dp nn : Int32} (t0 : Nat) (hlink : Cond.methodLink own index arraycopyName ∈ Ts) (hnat : Cond.native arraycopyName ∈ Ts) (hstat : Cond.static arraycopyName ∈ Ts) (hini : Cond.initialized "java/lang/System" ∈ Ts) (hd0 : dm k0 i0) (he0 : w k0 i0 = .inl (c0, n0, .inl f)) (hd1 : dm k1 i1) (he1 : w k1 i1 = .inl (c0, n1, .inl g)) (ht0 : tys[t0]? = some (c0, .int)) (hsp : sp = nI a) (hdp : dp = nI b) (hnn : nn = nI z) (h4 : a + z ≤ n0) (h5 : b + z ≤ n1) (hb0 : n0 < 2 ^ 31) (hb1 : n1 < 2 ^ 31)
    (hf : 1 ≤ R.frames) (hlo : (rest.map fun v => v.category).sum + (nativeFrameWords "java/lang/System" "arraycopy" 5 + 11) ≤ R.locals) (d : decode cc pc = .ok (.invokestatic index, 3))
    (kk : GG p l e R s m args below meth c D A ad dm nL cells slots Q (up2 w k1 i1 (.inl (c0, n1, .inl (va_cpy f g a b z)))) (pc + 3) lv rest) : GG p l e R s m args below meth c D A ad dm nL cells slots Q w pc lv (.int nn :: .int dp :: .ref (ad k1 i1) :: .int sp :: .ref (ad k0 i0) :: rest) := by
  intro H locs ls hw hS hl
  subst hsp; subst hdp; subst hnn
  obtain ⟨L, f1, hP, hD, hm, hj⟩ := id hw
  obtain ⟨q0, hq0⟩ := va_pl_get (X := []) (f := f1) (hm k0 i0 hd0).1
  rw [(hm k0 i0 hd0).2, he0] at hq0
  obtain ⟨q1, hq1⟩ := va_pl_get (X := []) (f := f1) (hm k1 i1 hd1).1
  have hq2 := hq1
  rw [(hm k1 i1 hd1).2, he1] at hq2
  have ca : (nI a).toNatClampNeg = a := nI_clamp (by omega)
  have cb : (nI b).toNatClampNeg = b := nI_clamp (by omega)
  have cz : (nI z).toNatClampNeg = z := nI_clamp (by omega)
  refine va_copyi F.1.1 F.1.2.1 (F.1.2.2.1.trans hl.1.symm) F.1.2.2.2.1 (F.1.2.2.2.2 _ hlink) (F.1.2.2.2.2 _ hnat) (F.1.2.2.2.2 _ hstat) (F.1.2.2.2.2 _ hini) F.2.1 hP hD hS q0 q1 t0 t0 hq0 hq2 ht0 ht0 rfl (nI_pos (by omega)) (nI_pos (by omega)) (nI_pos (by omega)) (by rw [ca, cz]; exact h4) (by rw [cb, cz]; exact h5) (fun _ _ => rfl) hf hlo d (fun H1 locs1 hP1 hD1 hS1 => ?_)
  rw [ca, cb, cz] at hP1 hD1
  rw [va_pl_set hD (hm k1 i1 hd1).1 hq1] at hP1 hD1
  exact kk H1 locs1 ls (HW.set hm hj hd1 hP1 hD1) hS1 hl
theorem g_getClass (F : FX p s m args c cc nL Ts own D A tys) {index k i : Nat} {cA : ClassId} {x : vp_A} (t0 : Nat) (hlink : Cond.methodLink own index ⟨"java/lang/Object", "getClass", "()Ljava/lang/Class;"⟩ ∈ Ts) (hsel : Cond.selects "[Ljava/lang/Object;" ⟨"java/lang/Object", "getClass", "()Ljava/lang/Class;"⟩ ⟨"java/lang/Object", "getClass", "()Ljava/lang/Class;"⟩ ∈ Ts) (hinst : Cond.instanceMethod ⟨"java/lang/Object", "getClass", "()Ljava/lang/Class;"⟩ ∈ Ts) (hnat : Cond.native ⟨"java/lang/Object", "getClass", "()Ljava/lang/Class;"⟩ ∈ Ts) (hd : dm k i) (he : w k i = .inl (cA, x)) (ht : tys[t0]? = some (cA, .object "java/lang/Object")) (hf : 1 ≤ R.frames) (hlo : (rest.map fun v => v.category).sum + 14 ≤ R.locals) (d : decode cc pc = .ok (.invokevirtual index, 3))
    (kk : GG p l e R s m args below meth c D A ad dm nL cells slots Q w (pc + 3) lv (.ref (D.2 100 30) :: rest)) : GG p l e R s m args below meth c D A ad dm nL cells slots Q w pc lv (.ref (ad k i) :: rest) := by
  intro H locs ls hw hS hl
  obtain ⟨L, f, hP, hD, hm, hj⟩ := id hw
  obtain ⟨q0, hq0⟩ := va_pl_get (X := []) (f := f) (hm k i hd).1
  rw [(hm k i hd).2, he] at hq0
  obtain ⟨_, _, _, _, _, hcl⟩ := (F.2.1.2 t0 _ ht).2
  exact va_getC F.1.1 F.1.2.1 (F.1.2.2.1.trans hl.1.symm) F.1.2.2.2.1 (F.1.2.2.2.2 _ hlink) (va_Dc.use F.2.2.2.2.1.2.1) (F.1.2.2.2.2 _ hsel) (F.1.2.2.2.2 _ hinst) (F.1.2.2.2.2 _ hnat) F.2.2.2.2.1.1 ⟨_, hP q0 _ hq0, by cases x with | mk x1 x2 => cases x2 with | inl _ => rfl | inr x3 => cases x3 with | inl _ => rfl | inr x4 => cases x4 with | inl _ => rfl | inr x5 => cases x5 <;> rfl, by cases x with | mk x1 x2 => cases x2 with | inl _ => exact hcl | inr x3 => cases x3 with | inl _ => exact hcl | inr x4 => cases x4 with | inl _ => exact hcl | inr x5 => cases x5 <;> exact hcl⟩ hf hlo d (kk H locs ls hw hS hl)
theorem g_ldcM (F : FX p s m args c cc nL Ts own D A tys) {index : Nat} (hlink : Cond.classLink own index "[Ljava/lang/Object;" ∈ Ts) (d : decode cc pc = .ok (.ldc index, 2)) (kk : GG p l e R s m args below meth c D A ad dm nL cells slots Q w (pc + 2) lv (.ref (D.2 100 30) :: rest)) : GG p l e R s m args below meth c D A ad dm nL cells slots Q w pc lv rest := fun H locs ls hw hS hl => va_ldcM F.1.1 F.1.2.1 F.1.2.2.2.1 (F.1.2.2.2.2 _ hlink) F.2.2.2.2.1.1 d (kk H locs ls hw hS hl)
theorem g_qi (F : FX p s m args c cc nL Ts own D A tys) {post : Option Value → (Nat → Nat → Nat) → (Nat → Nat → Prop) → CF → Prop} {cells1 slots1 : Nat} {v : Int32} {w1 : CF} {ad1 : Nat → Nat → Nat} {dm1 : Nat → Nat → Prop} (hr : meth.sig.returnType = some .int) (hlocks : meth.locks = false) (hq : ∀ H : Heap, HW D A ad dm w H → HW D A ad1 dm1 w1 H) (hp : post (some (.int v)) ad1 dm1 w1) (hc : cells ≤ cells1) (hs : slots ≤ slots1) (d : decode cc pc = .ok (.ireturn, 1)) : GG p l e R s m args below meth c D A ad dm nL cells slots (MQ below (QW D A tys post) args s cells1 slots1 A) w pc lv [.int v] := by
  intro H locs ls hw hS hl
  refine W.widen hc hs ?_
  exact W.iret F.1.1 F.1.2.1 hr (fun t ht hW => ⟨⟨_, ad1, dm1, w1, rfl, hp, F.PW (hq H hw) hS ht hW⟩, hS.F ht⟩) hS.2.2 d hlocks
theorem x_qi (F : FX p s m args c cc nL Ts own D A tys) {XC : String → State → State → Prop} {post : Option Value → (Nat → Nat → Nat) → (Nat → Nat → Prop) → CF → Prop} {cells1 slots1 : Nat} {v : Int32} {w1 : CF} {ad1 : Nat → Nat → Nat} {dm1 : Nat → Nat → Prop} (hr : meth.sig.returnType = some .int) (hlocks : meth.locks = false) (hq : ∀ H : Heap, HW D A ad dm w H → HW D A ad1 dm1 w1 H) (hp : post (some (.int v)) ad1 dm1 w1) (hc : cells ≤ cells1) (hs : slots ≤ slots1) (d : decode cc pc = .ok (.ireturn, 1)) : GG p l e R s m args below meth c D A ad dm nL cells slots (vx_MQ below (QW D A tys post) XC args s cells1 slots1 A) w pc lv [.int v] := by
  intro H locs ls hw hS hl
  refine W.widen hc hs ?_
  refine vx_ret ?_
  exact W.iret F.1.1 F.1.2.1 hr (fun t ht hW => ⟨⟨_, ad1, dm1, w1, rfl, hp, F.PW (hq H hw) hS ht hW⟩, hS.F ht⟩) hS.2.2 d hlocks
theorem g_qz (F : FX p s m args c cc nL Ts own D A tys) {post : Option Value → (Nat → Nat → Nat) → (Nat → Nat → Prop) → CF → Prop} {cells1 slots1 : Nat} {v : Int32} {ty : FieldType} {w1 : CF} {ad1 : Nat → Nat → Nat} {dm1 : Nat → Nat → Prop} (hr : meth.sig.returnType = some ty) (hn : narrow ty (.int v) = .int v) (hlocks : meth.locks = false) (hq : ∀ H : Heap, HW D A ad dm w H → HW D A ad1 dm1 w1 H) (hp : post (some (.int v)) ad1 dm1 w1) (hc : cells ≤ cells1) (hs : slots ≤ slots1) (d : decode cc pc = .ok (.ireturn, 1)) : GG p l e R s m args below meth c D A ad dm nL cells slots (MQ below (QW D A tys post) args s cells1 slots1 A) w pc lv [.int v] := by
  intro H locs ls hw hS hl
  refine W.widen hc hs ?_
  exact W.zret F.1.1 F.1.2.1 hr hn (fun t ht hW => ⟨⟨_, ad1, dm1, w1, rfl, hp, F.PW (hq H hw) hS ht hW⟩, hS.F ht⟩) hS.2.2 d hlocks
theorem x_qz (F : FX p s m args c cc nL Ts own D A tys) {XC : String → State → State → Prop} {post : Option Value → (Nat → Nat → Nat) → (Nat → Nat → Prop) → CF → Prop} {cells1 slots1 : Nat} {v : Int32} {ty : FieldType} {w1 : CF} {ad1 : Nat → Nat → Nat} {dm1 : Nat → Nat → Prop} (hr : meth.sig.returnType = some ty) (hn : narrow ty (.int v) = .int v) (hlocks : meth.locks = false) (hq : ∀ H : Heap, HW D A ad dm w H → HW D A ad1 dm1 w1 H) (hp : post (some (.int v)) ad1 dm1 w1) (hc : cells ≤ cells1) (hs : slots ≤ slots1) (d : decode cc pc = .ok (.ireturn, 1)) : GG p l e R s m args below meth c D A ad dm nL cells slots (vx_MQ below (QW D A tys post) XC args s cells1 slots1 A) w pc lv [.int v] := by
  intro H locs ls hw hS hl
  refine W.widen hc hs ?_
  refine vx_ret ?_
  exact W.zret F.1.1 F.1.2.1 hr hn (fun t ht hW => ⟨⟨_, ad1, dm1, w1, rfl, hp, F.PW (hq H hw) hS ht hW⟩, hS.F ht⟩) hS.2.2 d hlocks
theorem g_qv (F : FX p s m args c cc nL Ts own D A tys) {post : Option Value → (Nat → Nat → Nat) → (Nat → Nat → Prop) → CF → Prop} {cells1 slots1 : Nat}  {w1 : CF} {ad1 : Nat → Nat → Nat} {dm1 : Nat → Nat → Prop} (hr : meth.sig.returnType = none) (hlocks : meth.locks = false) (hq : ∀ H : Heap, HW D A ad dm w H → HW D A ad1 dm1 w1 H) (hp : post none ad1 dm1 w1) (hc : cells ≤ cells1) (hs : slots ≤ slots1) (d : decode cc pc = .ok (.return_, 1)) : GG p l e R s m args below meth c D A ad dm nL cells slots (MQ below (QW D A tys post) args s cells1 slots1 A) w pc lv [] := by
  intro H locs ls hw hS hl
  refine W.widen hc hs ?_
  exact W.vret F.1.1 F.1.2.1 hr (fun t ht hW => ⟨⟨_, ad1, dm1, w1, rfl, hp, F.PW (hq H hw) hS ht hW⟩, hS.F ht⟩) hS.2.2 d hlocks
theorem x_qv (F : FX p s m args c cc nL Ts own D A tys) {XC : String → State → State → Prop} {post : Option Value → (Nat → Nat → Nat) → (Nat → Nat → Prop) → CF → Prop} {cells1 slots1 : Nat}  {w1 : CF} {ad1 : Nat → Nat → Nat} {dm1 : Nat → Nat → Prop} (hr : meth.sig.returnType = none) (hlocks : meth.locks = false) (hq : ∀ H : Heap, HW D A ad dm w H → HW D A ad1 dm1 w1 H) (hp : post none ad1 dm1 w1) (hc : cells ≤ cells1) (hs : slots ≤ slots1) (d : decode cc pc = .ok (.return_, 1)) : GG p l e R s m args below meth c D A ad dm nL cells slots (vx_MQ below (QW D A tys post) XC args s cells1 slots1 A) w pc lv [] := by
  intro H locs ls hw hS hl
  refine W.widen hc hs ?_
  refine vx_ret ?_
  exact W.vret F.1.1 F.1.2.1 hr (fun t ht hW => ⟨⟨_, ad1, dm1, w1, rfl, hp, F.PW (hq H hw) hS ht hW⟩, hS.F ht⟩) hS.2.2 d hlocks
theorem g_qa (F : FX p s m args c cc nL Ts own D A tys) {post : Option Value → (Nat → Nat → Nat) → (Nat → Nat → Prop) → CF → Prop} {cells1 slots1 : Nat} {v : Nat} {rt : FieldType} {w1 : CF} {ad1 : Nat → Nat → Nat} {dm1 : Nat → Nat → Prop} (hr : meth.sig.returnType = some rt) (hrt : (∃ n, rt = .object n) ∨ ∃ t, rt = .array t) (hlocks : meth.locks = false) (hq : ∀ H : Heap, HW D A ad dm w H → HW D A ad1 dm1 w1 H) (hp : post (some (.ref v)) ad1 dm1 w1) (hc : cells ≤ cells1) (hs : slots ≤ slots1) (d : decode cc pc = .ok (.areturn, 1)) : GG p l e R s m args below meth c D A ad dm nL cells slots (MQ below (QW D A tys post) args s cells1 slots1 A) w pc lv [.ref v] := by
  intro H locs ls hw hS hl
  refine W.widen hc hs ?_
  exact W.aret F.1.1 F.1.2.1 hr hrt (.inr ⟨v, rfl⟩) (fun t ht hW => ⟨⟨_, ad1, dm1, w1, rfl, hp, F.PW (hq H hw) hS ht hW⟩, hS.F ht⟩) hS.2.2 d hlocks
theorem x_qa (F : FX p s m args c cc nL Ts own D A tys) {XC : String → State → State → Prop} {post : Option Value → (Nat → Nat → Nat) → (Nat → Nat → Prop) → CF → Prop} {cells1 slots1 : Nat} {v : Nat} {rt : FieldType} {w1 : CF} {ad1 : Nat → Nat → Nat} {dm1 : Nat → Nat → Prop} (hr : meth.sig.returnType = some rt) (hrt : (∃ n, rt = .object n) ∨ ∃ t, rt = .array t) (hlocks : meth.locks = false) (hq : ∀ H : Heap, HW D A ad dm w H → HW D A ad1 dm1 w1 H) (hp : post (some (.ref v)) ad1 dm1 w1) (hc : cells ≤ cells1) (hs : slots ≤ slots1) (d : decode cc pc = .ok (.areturn, 1)) : GG p l e R s m args below meth c D A ad dm nL cells slots (vx_MQ below (QW D A tys post) XC args s cells1 slots1 A) w pc lv [.ref v] := by
  intro H locs ls hw hS hl
  refine W.widen hc hs ?_
  refine vx_ret ?_
  exact W.aret F.1.1 F.1.2.1 hr hrt (.inr ⟨v, rfl⟩) (fun t ht hW => ⟨⟨_, ad1, dm1, w1, rfl, hp, F.PW (hq H hw) hS ht hW⟩, hS.F ht⟩) hS.2.2 d hlocks
theorem g_qn (F : FX p s m args c cc nL Ts own D A tys) {post : Option Value → (Nat → Nat → Nat) → (Nat → Nat → Prop) → CF → Prop} {cells1 slots1 : Nat} {rt : FieldType} {w1 : CF} {ad1 : Nat → Nat → Nat} {dm1 : Nat → Nat → Prop} (hr : meth.sig.returnType = some rt) (hrt : (∃ n, rt = .object n) ∨ ∃ t, rt = .array t) (hlocks : meth.locks = false) (hq : ∀ H : Heap, HW D A ad dm w H → HW D A ad1 dm1 w1 H) (hp : post (some .null) ad1 dm1 w1) (hc : cells ≤ cells1) (hs : slots ≤ slots1) (d : decode cc pc = .ok (.areturn, 1)) : GG p l e R s m args below meth c D A ad dm nL cells slots (MQ below (QW D A tys post) args s cells1 slots1 A) w pc lv [.null] := by
  intro H locs ls hw hS hl
  refine W.widen hc hs ?_
  exact W.aret F.1.1 F.1.2.1 hr hrt (.inl rfl) (fun t ht hW => ⟨⟨_, ad1, dm1, w1, rfl, hp, F.PW (hq H hw) hS ht hW⟩, hS.F ht⟩) hS.2.2 d hlocks
theorem x_qn (F : FX p s m args c cc nL Ts own D A tys) {XC : String → State → State → Prop} {post : Option Value → (Nat → Nat → Nat) → (Nat → Nat → Prop) → CF → Prop} {cells1 slots1 : Nat} {rt : FieldType} {w1 : CF} {ad1 : Nat → Nat → Nat} {dm1 : Nat → Nat → Prop} (hr : meth.sig.returnType = some rt) (hrt : (∃ n, rt = .object n) ∨ ∃ t, rt = .array t) (hlocks : meth.locks = false) (hq : ∀ H : Heap, HW D A ad dm w H → HW D A ad1 dm1 w1 H) (hp : post (some .null) ad1 dm1 w1) (hc : cells ≤ cells1) (hs : slots ≤ slots1) (d : decode cc pc = .ok (.areturn, 1)) : GG p l e R s m args below meth c D A ad dm nL cells slots (vx_MQ below (QW D A tys post) XC args s cells1 slots1 A) w pc lv [.null] := by
  intro H locs ls hw hS hl
  refine W.widen hc hs ?_
  refine vx_ret ?_
  exact W.aret F.1.1 F.1.2.1 hr hrt (.inl rfl) (fun t ht hW => ⟨⟨_, ad1, dm1, w1, rfl, hp, F.PW (hq H hw) hS ht hW⟩, hS.F ht⟩) hS.2.2 d hlocks
theorem q_call {mc ms : Nat} {post : Option Value → (Nat → Nat → Nat) → (Nat → Nat → Prop) → CF → Prop} {st0 : List Value} {H : Heap} {locs : List Loc} {ls : Array Slot} {a : Array Value} (hr : va_Run p l e R s m args below meth c H locs cells slots mc ms (F0 m pc ls st0) rest (QW D A tys post a) A) (hS : va_S A s.heap H locs) (hl : lv_has ls nL lv)
    (kk : ∀ (v : Option Value) (ad1 : Nat → Nat → Nat) (dm1 : Nat → Nat → Prop) (w1 : CF), post v ad1 dm1 w1 → GG p l e R s m args below meth c D A ad1 dm1 nL (cells + mc) (slots + ms) Q w1 (pc + 3) lv (v.toList ++ rest)) : W p l e R s m args below meth c H locs cells slots Q (F0 m pc ls st0) := by
  intro T hT X
  obtain ⟨v, st₀, t, T', L, h0, X', hL, e1, e2, ⟨⟨v1, ad1, dm1, w1, hv, hp, hb⟩, hz, hk⟩, st⟩ := hr T hT X
  cases hv
  rw [h0] at hz hk
  obtain ⟨t2, a1, b1⟩ := kk v ad1 dm1 w1 hp T'.heap (locs ++ L) ls (by rw [e1]; exact hb.1) ⟨Nat.le_trans hS.1 (by rw [e1]; exact hz), fun q h1 h2 => by rw [e1, hk q (Nat.lt_of_lt_of_le h1 hS.1) h2]; exact hS.2.1 q h1 h2, fun q hq => by
      rcases List.mem_append.mp hq with h | h
      · exact hS.2.2 q h
      · exact hL q h⟩ hl T' rfl X'
  exact ⟨t2, st t2 a1, b1⟩
theorem qx_call {mc ms : Nat} {post : Option Value → (Nat → Nat → Nat) → (Nat → Nat → Prop) → CF → Prop} {px : String → Prop} {st0 : List Value} {H : Heap} {locs : List Loc} {ls : Array Slot} {a : Array Value} (hr : vx_Run p l e R s m args below meth c H locs cells slots mc ms (F0 m pc ls st0) rest (QW D A tys post a) (XW D A tys ad dm w px) A) (hS : va_S A s.heap H locs) (hl : lv_has ls nL lv)
    (kx : ∀ (E : String) (ce : Cell) (q9 : Addr) (H1 : Heap) (locs1 : List Loc), px E → HW D A ad dm w H1 → va_S A s.heap H1 locs1 → H1[q9]? = some ce → ce.vm = .none → s.vm.findClass E = some ce.cls → vx_W p l e R s m args below meth c H1 locs1 (cells + mc) (slots + ms) Q (F0 m pc ls rest) q9)
    (kk : ∀ (v : Option Value) (ad1 : Nat → Nat → Nat) (dm1 : Nat → Nat → Prop) (w1 : CF), post v ad1 dm1 w1 → GG p l e R s m args below meth c D A ad1 dm1 nL (cells + mc) (slots + ms) Q w1 (pc + 3) lv (v.toList ++ rest)) : W p l e R s m args below meth c H locs cells slots Q (F0 m pc ls st0) := by
  intro T hT X
  have keep : ∀ (T' t : State) (L : List Loc), T'.heap = t.heap → H.size ≤ t.heap.size → (∀ q : Nat, q < H.size → ¬ A q → t.heap[q]? = H[q]?) → (∀ z ∈ L, A z.base) → va_S A s.heap T'.heap (locs ++ L) := by
    intro T' t L e1 hz hk hL
    exact ⟨Nat.le_trans hS.1 (by rw [e1]; exact hz), fun q h1 h2 => by rw [e1, hk q (Nat.lt_of_lt_of_le h1 hS.1) h2]; exact hS.2.1 q h1 h2, fun q hq => by
      rcases List.mem_append.mp hq with h | h
      · exact hS.2.2 q h
      · exact hL q h⟩
  rcases hr T hT X with ⟨v, st₀, t, T', L, h0, X', hL, e1, e2, ⟨⟨v1, ad1, dm1, w1, hv, hp, hb⟩, hz, hk⟩, st⟩ | ⟨q, st₀, t, T', L, E, ce, h0, X', hL, e1, e2, ⟨hp, hb, hz, hk⟩, hce, hcv, hcl, st⟩
  · cases hv
    rw [h0] at hz hk
    obtain ⟨t2, a1, b1⟩ := kk v ad1 dm1 w1 hp T'.heap (locs ++ L) ls (by rw [e1]; exact hb.1) (keep T' t L e1 hz hk hL) hl T' rfl X'
    exact ⟨t2, st t2 a1, b1⟩
  · rw [h0] at hz hk
    obtain ⟨t2, a1, b1⟩ := kx E ce q T'.heap (locs ++ L) hp (by rw [e1]; exact hb) (keep T' t L e1 hz hk hL) (by rw [e1]; exact hce) hcv hcl T' rfl X'
    exact ⟨t2, st.trans a1, b1⟩
theorem q_callV (F : FX p s m args c cc nL Ts own D A tys) {y : MethodName} {bytes : ByteArray} {maxL mc ms n index : Nat} {ret : Option FieldType} {ws : List Cond} {rm : Room} {post : Option Value → (Nat → Nat → Nat) → (Nat → Nat → Prop) → CF → Prop} {C : String} {b k i ci : Nat} {T : u_T} {N : Nat} {fs : List Value} (As : List Value) {st : List Value} (hM : Met l y ws rm (va_Pc (.ref b :: As) (PW D A tys ad dm w)) (QW D A tys post) mc ms A) (cw : CallW R s args own C index y bytes maxL ret ws rm mc ms n) (hb : b = ad k i) (hd : dm k i) (he : w k i = .inr (ci, fs)) (hc : vwCl[ci]? = some (C, T, N)) (hn : As.length = n) (hst : st = As.reverse ++ .ref b :: rest) (hroom : (rest.map fun v => v.category).sum ≤ 8) (d : decode cc pc = .ok (.invokevirtual index, 3)) (hf : cells + mc ≤ R.cells ∧ slots + ms ≤ R.slots)
    (kk : ∀ (v : Option Value) (ad1 : Nat → Nat → Nat) (dm1 : Nat → Nat → Prop) (w1 : CF), post v ad1 dm1 w1 → GG p l e R s m args below meth c D A ad1 dm1 nL (cells + mc) (slots + ms) Q w1 (pc + 3) lv (v.toList ++ rest)) : GG p l e R s m args below meth c D A ad dm nL cells slots Q w pc lv st := by
  intro H locs ls hw hS hl
  subst hst
  subst hb
  obtain ⟨L, f, hP, hD, hm, hj⟩ := id hw
  obtain ⟨q0, hq0⟩ := va_pl_get (X := []) (f := f) (hm k i hd).1
  rw [(hm k i hd).2, he] at hq0
  exact q_call (va_runV (As := As) (rest := rest) F.1 hM cw ⟨fun a U g mk q => ⟨q.1, q.2.call a g mk⟩, va_recv F.2.1 hP hc hq0, fun U hU hW => ⟨rfl, F.PW hw hS hU hW⟩⟩ rfl hn hl.1 rfl (lv_room hroom) d hf) hS hl kk
theorem q_callS (F : FX p s m args c cc nL Ts own D A tys) {y : MethodName} {bytes : ByteArray} {maxL mc ms n index : Nat} {ret : Option FieldType} {ws : List Cond} {rm : Room} {post : Option Value → (Nat → Nat → Nat) → (Nat → Nat → Prop) → CF → Prop} (As : List Value) {st : List Value} (hM : Met l y ws rm (va_Pc (As) (PW D A tys ad dm w)) (QW D A tys post) mc ms A) (cw : CallB R s args own index y bytes maxL ret ws rm mc ms n ∧ (Cond.static y).before args s = true) (hn : As.length = n) (hst : st = As.reverse ++ rest) (hroom : (rest.map fun v => v.category).sum ≤ 8) (d : decode cc pc = .ok (.invokestatic index, 3)) (hf : cells + mc ≤ R.cells ∧ slots + ms ≤ R.slots)
    (kk : ∀ (v : Option Value) (ad1 : Nat → Nat → Nat) (dm1 : Nat → Nat → Prop) (w1 : CF), post v ad1 dm1 w1 → GG p l e R s m args below meth c D A ad1 dm1 nL (cells + mc) (slots + ms) Q w1 (pc + 3) lv (v.toList ++ rest)) : GG p l e R s m args below meth c D A ad dm nL cells slots Q w pc lv st := by
  intro H locs ls hw hS hl
  subst hst
  exact q_call (va_runS (As := As) (rest := rest) F.1 hM cw ⟨fun a U g mk q => ⟨q.1, q.2.call a g mk⟩, fun U hU hW => ⟨rfl, F.PW hw hS hU hW⟩⟩ rfl hn hl.1 rfl (lv_room hroom) d hf) hS hl kk
theorem q_callI (F : FX p s m args c cc nL Ts own D A tys) {y : MethodName} {bytes : ByteArray} {maxL mc ms n index : Nat} {ret : Option FieldType} {ws : List Cond} {rm : Room} {post : Option Value → (Nat → Nat → Nat) → (Nat → Nat → Prop) → CF → Prop} {b : Nat} (As : List Value) {st : List Value} (hM : Met l y ws rm (va_Pc (.ref b :: As) (PW D A tys ad dm w)) (QW D A tys post) mc ms A) (cw : CallB R s args own index y bytes maxL none ws rm mc ms n ∧ y.name = "<init>" ∧ (Cond.instanceMethod y).before args s = true) (hn : As.length = n) (hst : st = As.reverse ++ .ref b :: rest) (hroom : (rest.map fun v => v.category).sum ≤ 8) (d : decode cc pc = .ok (.invokespecial index, 3)) (hf : cells + mc ≤ R.cells ∧ slots + ms ≤ R.slots)
    (kk : ∀ (v : Option Value) (ad1 : Nat → Nat → Nat) (dm1 : Nat → Nat → Prop) (w1 : CF), post v ad1 dm1 w1 → GG p l e R s m args below meth c D A ad1 dm1 nL (cells + mc) (slots + ms) Q w1 (pc + 3) lv (v.toList ++ rest)) : GG p l e R s m args below meth c D A ad dm nL cells slots Q w pc lv st := by
  intro H locs ls hw hS hl
  subst hst
  exact q_call (va_runI (As := As) (rest := rest) F.1 hM cw ⟨fun a U g mk q => ⟨q.1, q.2.call a g mk⟩, fun U hU hW => ⟨rfl, F.PW hw hS hU hW⟩⟩ rfl hn hl.1 rfl (lv_room hroom) d hf) hS hl kk
theorem x_callV (F : FX p s m args c cc nL Ts own D A tys) {y : MethodName} {bytes : ByteArray} {maxL mc ms n index : Nat} {ret : Option FieldType} {ws : List Cond} {rm : Room} {post : Option Value → (Nat → Nat → Nat) → (Nat → Nat → Prop) → CF → Prop} {px : String → Prop} {C : String} {b k i ci : Nat} {T : u_T} {N : Nat} {fs : List Value} (As : List Value) {st : List Value} (hM : vx_Met l y ws rm (va_Pc (.ref b :: As) (PW D A tys ad dm w)) (QW D A tys post) (XW D A tys ad dm w px) mc ms A) (cw : CallW R s args own C index y bytes maxL ret ws rm mc ms n) (hb : b = ad k i) (hd : dm k i) (he : w k i = .inr (ci, fs)) (hc : vwCl[ci]? = some (C, T, N)) (hn : As.length = n) (hst : st = As.reverse ++ .ref b :: rest) (hroom : (rest.map fun v => v.category).sum ≤ 8) (d : decode cc pc = .ok (.invokevirtual index, 3)) (hf : cells + mc ≤ R.cells ∧ slots + ms ≤ R.slots)
    (kx : ∀ (H : Heap) (ls : Array Slot) (E : String) (ce : Cell) (q9 : Addr) (H1 : Heap) (locs1 : List Loc), px E → HW D A ad dm w H1 → va_S A s.heap H1 locs1 → H1[q9]? = some ce → ce.vm = .none → s.vm.findClass E = some ce.cls → vx_W p l e R s m args below meth c H1 locs1 (cells + mc) (slots + ms) Q (F0 m pc ls rest) q9)
    (kk : ∀ (v : Option Value) (ad1 : Nat → Nat → Nat) (dm1 : Nat → Nat → Prop) (w1 : CF), post v ad1 dm1 w1 → GG p l e R s m args below meth c D A ad1 dm1 nL (cells + mc) (slots + ms) Q w1 (pc + 3) lv (v.toList ++ rest)) : GG p l e R s m args below meth c D A ad dm nL cells slots Q w pc lv st := by
  intro H locs ls hw hS hl
  subst hst
  subst hb
  obtain ⟨L, f, hP, hD, hm, hj⟩ := id hw
  obtain ⟨q0, hq0⟩ := va_pl_get (X := []) (f := f) (hm k i hd).1
  rw [(hm k i hd).2, he] at hq0
  exact qx_call (vx_runV (As := As) (rest := rest) F.1 hM cw ⟨fun a U g mk q => ⟨q.1, q.2.call a g mk⟩, va_recv F.2.1 hP hc hq0, fun U hU hW => ⟨rfl, F.PW hw hS hU hW⟩⟩ rfl hn hl.1 rfl (lv_room hroom) d hf) hS hl (fun E ce q9 H1 locs1 a1 a2 a3 a4 a5 a6 => kx H ls E ce q9 H1 locs1 a1 a2 a3 a4 a5 a6) kk
theorem x_callS (F : FX p s m args c cc nL Ts own D A tys) {y : MethodName} {bytes : ByteArray} {maxL mc ms n index : Nat} {ret : Option FieldType} {ws : List Cond} {rm : Room} {post : Option Value → (Nat → Nat → Nat) → (Nat → Nat → Prop) → CF → Prop} {px : String → Prop} (As : List Value) {st : List Value} (hM : vx_Met l y ws rm (va_Pc (As) (PW D A tys ad dm w)) (QW D A tys post) (XW D A tys ad dm w px) mc ms A) (cw : CallB R s args own index y bytes maxL ret ws rm mc ms n ∧ (Cond.static y).before args s = true) (hn : As.length = n) (hst : st = As.reverse ++ rest) (hroom : (rest.map fun v => v.category).sum ≤ 8) (d : decode cc pc = .ok (.invokestatic index, 3)) (hf : cells + mc ≤ R.cells ∧ slots + ms ≤ R.slots)
    (kx : ∀ (H : Heap) (ls : Array Slot) (E : String) (ce : Cell) (q9 : Addr) (H1 : Heap) (locs1 : List Loc), px E → HW D A ad dm w H1 → va_S A s.heap H1 locs1 → H1[q9]? = some ce → ce.vm = .none → s.vm.findClass E = some ce.cls → vx_W p l e R s m args below meth c H1 locs1 (cells + mc) (slots + ms) Q (F0 m pc ls rest) q9)
    (kk : ∀ (v : Option Value) (ad1 : Nat → Nat → Nat) (dm1 : Nat → Nat → Prop) (w1 : CF), post v ad1 dm1 w1 → GG p l e R s m args below meth c D A ad1 dm1 nL (cells + mc) (slots + ms) Q w1 (pc + 3) lv (v.toList ++ rest)) : GG p l e R s m args below meth c D A ad dm nL cells slots Q w pc lv st := by
  intro H locs ls hw hS hl
  subst hst
  exact qx_call (vx_runS (As := As) (rest := rest) F.1 hM cw ⟨fun a U g mk q => ⟨q.1, q.2.call a g mk⟩, fun U hU hW => ⟨rfl, F.PW hw hS hU hW⟩⟩ rfl hn hl.1 rfl (lv_room hroom) d hf) hS hl (fun E ce q9 H1 locs1 a1 a2 a3 a4 a5 a6 => kx H ls E ce q9 H1 locs1 a1 a2 a3 a4 a5 a6) kk
theorem g_getfS (F : FX p s m args c cc nL Ts own D A tys) {k i ci N index fk : Nat} {C ref : String} {T : u_T} {fs : List Value} {v : Value} (hin : ∀ w ∈ u_ws C T N, w ∈ Ts) (hd : dm k i) (he : w k i = .inr (ci, fs)) (hc : vwCl[ci]? = some (C, T, N)) (hk : fk < N) (hlink : Cond.fieldLink own index ref (T fk).2.1 (T fk).2.2.1 ∈ Ts) (hsf : Cond.sameField ref (T fk).1 (T fk).2.1 (T fk).2.2.1 ∈ Ts) (hv : fs[fk]? = some v) (d : decode cc pc = .ok (.getfield index, 3))
    (kk : GG p l e R s m args below meth c D A ad dm nL cells slots Q w (pc + 3) lv (v :: rest)) : GG p l e R s m args below meth c D A ad dm nL cells slots Q w pc lv (.ref (ad k i) :: rest) := by
  intro H locs ls hw hS hl
  obtain ⟨L, f, hP, hD, hm, hj⟩ := id hw
  obtain ⟨q0, hq0⟩ := va_pl_get (X := []) (f := f) (hm k i hd).1
  rw [(hm k i hd).2, he] at hq0
  exact va_get F.1.1 F.1.2.1 F.1.2.2.2.2 hin F.1.2.2.2.1 F.2.1 hP q0 hq0 hc fk hk (F.1.2.2.2.2 _ hlink) (fun x hx => u_same (F.1.2.2.2.2 _ hsf) x hx) hv d (kk H locs ls hw hS hl)
theorem g_putfS (F : FX p s m args c cc nL Ts own D A tys) {k i ci N index fk : Nat} {C ref : String} {T : u_T} {fs : List Value} {v : Value} {ty : FieldType} {tf : Nat → FieldType} (hin : ∀ w ∈ u_ws C T N, w ∈ Ts) (hty : ∀ k, k < N → parseFieldDescriptor (T k).2.2.1 = some (tf k)) (hnm : ∀ a, a < N → ∀ b, b < N → a ≠ b → (T a).2.1 ≠ (T b).2.1) (hd : dm k i) (he : w k i = .inr (ci, fs)) (hc : vwCl[ci]? = some (C, T, N)) (hk : fk < N) (hlink : Cond.fieldLink own index ref (T fk).2.1 (T fk).2.2.1 ∈ Ts) (hsf : Cond.sameField ref (T fk).1 (T fk).2.1 (T fk).2.2.1 ∈ Ts) (hfin : (T fk).2.2.2 = false) (hty2 : parseFieldDescriptor (T fk).2.2.1 = some ty) (hn : narrow ty v = v) (hfit : fits ty v = true) (hl0 : fk < fs.length) (d : decode cc pc = .ok (.putfield index, 3))
    (kk : GG p l e R s m args below meth c D A ad dm nL cells slots Q (up2 w k i (.inr (ci, fs.set fk v))) (pc + 3) lv rest) : GG p l e R s m args below meth c D A ad dm nL cells slots Q w pc lv (v :: .ref (ad k i) :: rest) := by
  intro H locs ls hw hS hl
  obtain ⟨L, f, hP, hD, hm, hj⟩ := id hw
  obtain ⟨q0, hq0⟩ := va_pl_get (X := []) (f := f) (hm k i hd).1
  have hq1 := hq0
  rw [(hm k i hd).2, he] at hq1
  refine va_put F.1.1 F.1.2.1 F.1.2.2.2.2 hin tf hty hnm F.1.2.2.2.1 F.2.1 hP hD hS q0 hq1 hc fk hk (F.1.2.2.2.2 _ hlink) (fun x hx => u_same (F.1.2.2.2.2 _ hsf) x hx) hfin hty2 hn hfit hl0 d (fun H1 locs1 hP1 hD1 hS1 => ?_)
  rw [va_pl_set hD (hm k i hd).1 hq0] at hP1 hD1
  exact kk H1 locs1 ls (HW.set hm hj hd hP1 hD1) hS1 hl
theorem x_throw_io (F : FX p s m args c cc nL Ts RX5 D A tys) {px : String → Prop} {post : Option Value → (Nat → Nat → Nat) → (Nat → Nat → Prop) → CF → Prop} {is sa mc ms : Nat} {text : String} (hl : l.stackTraces = false) (hk : Cond.classLink RX5 138 "java/lang/IndexOutOfBoundsException" ∈ Ts) (hini : Cond.initialized "java/lang/IndexOutOfBoundsException" ∈ Ts) (hin : ∀ w ∈ (vx_atS RX5 142 "java/lang/IndexOutOfBoundsException" ["java/lang/RuntimeException", "java/lang/Exception"]).filter goodWord, w ∈ Ts) (hstr : vk_R RX5 is text sa s) (hout : c.exceptionTable.toList = []) (hlocks : meth.locks = false) (hpx : px "java/lang/IndexOutOfBoundsException")
    (d0 : decode cc pc = .ok (.new 138, 3)) (d3 : decode cc (pc + 3) = .ok (.dup, 1)) (d4 : decode cc (pc + 4) = .ok (.ldc is, 2)) (d6 : decode cc (pc + 6) = .ok (.invokespecial 142, 3)) (d9 : decode cc (pc + 9) = .ok (.athrow, 1))
    (hRf : 5 < R.frames) (hRl : (rest.map fun v => v.category).sum + 82 ≤ R.locals) (hRc : cells + 1 ≤ R.cells) (hRs : slots + 6 ≤ R.slots) (hc : cells + 1 ≤ mc) (hs : slots + 6 ≤ ms) : GG p l e R s m args below meth c D A ad dm nL cells slots (vx_MQ below (QW D A tys post) (XW D A tys ad dm w px) args s mc ms A) w pc lv rest := by
  intro H locs ls hw hS hlv
  refine vx_throwS (own := RX5) (cls := "java/lang/IndexOutOfBoundsException") (text := text) (names := ["java/lang/RuntimeException", "java/lang/Exception"]) (ik := 138) (is := is) (ic := 142) (sa := sa) (A := A) (free := A) F.1.1 F.1.2.1 hl F.1.2.2.2.1 (by decide) (by decide) (F.1.2.2.2.2 _ hk) (F.1.2.2.2.2 _ hini) hstr (vx_hat (B := kxB) (fun w hw2 => F.1.2.2.2.2 w (hin w hw2)) (by decide +kernel) (fun w hw2 => ?_)) (by decide +kernel) F.2.2.2.1.2.2.2.1 F.2.2.2.1.2.2.2.2.1 hS (hlv.1.trans F.1.2.2.1.symm) d0 d3 d4 d6 d9 (by rw [hout]; exact fun x hx => absurd hx List.not_mem_nil) hRf hRl hRc hRs hlocks (fun t hA hz hk => ⟨hpx, ?_, ?_⟩) hS.2.2 hc hs
  · have h0 := F.2.2.2.2.1.2.2.2.2.2.2.1 w hw2
    simp only [kxB, List.mem_cons, List.not_mem_nil, or_false] at hw2
    rcases hw2 with rfl | rfl | rfl | rfl | rfl | rfl | rfl | rfl | rfl <;> exact va_any rfl h0
  · exact hw.kept hk
  · exact ⟨Nat.le_trans hS.1 hz, fun q h1 h2 => by rw [hk q (Nat.lt_of_lt_of_le h1 hS.1)]; exact hS.2.1 q h1 h2⟩
theorem x_throw_ia (F : FX p s m args c cc nL Ts RX5 D A tys) {px : String → Prop} {post : Option Value → (Nat → Nat → Nat) → (Nat → Nat → Prop) → CF → Prop} {is sa mc ms : Nat} {text : String} (hl : l.stackTraces = false) (hk : Cond.classLink RX5 210 "java/lang/IllegalArgumentException" ∈ Ts) (hini : Cond.initialized "java/lang/IllegalArgumentException" ∈ Ts) (hin : ∀ w ∈ (vx_atS RX5 214 "java/lang/IllegalArgumentException" ["java/lang/RuntimeException", "java/lang/Exception"]).filter goodWord, w ∈ Ts) (hstr : vk_R RX5 is text sa s) (hout : c.exceptionTable.toList = []) (hlocks : meth.locks = false) (hpx : px "java/lang/IllegalArgumentException")
    (d0 : decode cc pc = .ok (.new 210, 3)) (d3 : decode cc (pc + 3) = .ok (.dup, 1)) (d4 : decode cc (pc + 4) = .ok (.ldc is, 2)) (d6 : decode cc (pc + 6) = .ok (.invokespecial 214, 3)) (d9 : decode cc (pc + 9) = .ok (.athrow, 1))
    (hRf : 5 < R.frames) (hRl : (rest.map fun v => v.category).sum + 82 ≤ R.locals) (hRc : cells + 1 ≤ R.cells) (hRs : slots + 6 ≤ R.slots) (hc : cells + 1 ≤ mc) (hs : slots + 6 ≤ ms) : GG p l e R s m args below meth c D A ad dm nL cells slots (vx_MQ below (QW D A tys post) (XW D A tys ad dm w px) args s mc ms A) w pc lv rest := by
  intro H locs ls hw hS hlv
  refine vx_throwS (own := RX5) (cls := "java/lang/IllegalArgumentException") (text := text) (names := ["java/lang/RuntimeException", "java/lang/Exception"]) (ik := 210) (is := is) (ic := 214) (sa := sa) (A := A) (free := A) F.1.1 F.1.2.1 hl F.1.2.2.2.1 (by decide) (by decide) (F.1.2.2.2.2 _ hk) (F.1.2.2.2.2 _ hini) hstr (vx_hat (B := kxB) (fun w hw2 => F.1.2.2.2.2 w (hin w hw2)) (by decide +kernel) (fun w hw2 => ?_)) (by decide +kernel) F.2.2.2.1.2.2.2.1 F.2.2.2.1.2.2.2.2.1 hS (hlv.1.trans F.1.2.2.1.symm) d0 d3 d4 d6 d9 (by rw [hout]; exact fun x hx => absurd hx List.not_mem_nil) hRf hRl hRc hRs hlocks (fun t hA hz hk => ⟨hpx, ?_, ?_⟩) hS.2.2 hc hs
  · have h0 := F.2.2.2.2.1.2.2.2.2.2.2.1 w hw2
    simp only [kxB, List.mem_cons, List.not_mem_nil, or_false] at hw2
    rcases hw2 with rfl | rfl | rfl | rfl | rfl | rfl | rfl | rfl | rfl <;> exact va_any rfl h0
  · exact hw.kept hk
  · exact ⟨Nat.le_trans hS.1 hz, fun q h1 h2 => by rw [hk q (Nat.lt_of_lt_of_le h1 hS.1)]; exact hS.2.1 q h1 h2⟩
theorem x_throw_is (F : FX p s m args c cc nL Ts RX5 D A tys) {px : String → Prop} {post : Option Value → (Nat → Nat → Nat) → (Nat → Nat → Prop) → CF → Prop} {is sa mc ms : Nat} {text : String} (hl : l.stackTraces = false) (hk : Cond.classLink RX5 84 "java/lang/IllegalStateException" ∈ Ts) (hini : Cond.initialized "java/lang/IllegalStateException" ∈ Ts) (hin : ∀ w ∈ (vx_atS RX5 88 "java/lang/IllegalStateException" ["java/lang/RuntimeException", "java/lang/Exception"]).filter goodWord, w ∈ Ts) (hstr : vk_R RX5 is text sa s) (hout : c.exceptionTable.toList = []) (hlocks : meth.locks = false) (hpx : px "java/lang/IllegalStateException")
    (d0 : decode cc pc = .ok (.new 84, 3)) (d3 : decode cc (pc + 3) = .ok (.dup, 1)) (d4 : decode cc (pc + 4) = .ok (.ldc is, 2)) (d6 : decode cc (pc + 6) = .ok (.invokespecial 88, 3)) (d9 : decode cc (pc + 9) = .ok (.athrow, 1))
    (hRf : 5 < R.frames) (hRl : (rest.map fun v => v.category).sum + 82 ≤ R.locals) (hRc : cells + 1 ≤ R.cells) (hRs : slots + 6 ≤ R.slots) (hc : cells + 1 ≤ mc) (hs : slots + 6 ≤ ms) : GG p l e R s m args below meth c D A ad dm nL cells slots (vx_MQ below (QW D A tys post) (XW D A tys ad dm w px) args s mc ms A) w pc lv rest := by
  intro H locs ls hw hS hlv
  refine vx_throwS (own := RX5) (cls := "java/lang/IllegalStateException") (text := text) (names := ["java/lang/RuntimeException", "java/lang/Exception"]) (ik := 84) (is := is) (ic := 88) (sa := sa) (A := A) (free := A) F.1.1 F.1.2.1 hl F.1.2.2.2.1 (by decide) (by decide) (F.1.2.2.2.2 _ hk) (F.1.2.2.2.2 _ hini) hstr (vx_hat (B := kxB) (fun w hw2 => F.1.2.2.2.2 w (hin w hw2)) (by decide +kernel) (fun w hw2 => ?_)) (by decide +kernel) F.2.2.2.1.2.2.2.1 F.2.2.2.1.2.2.2.2.1 hS (hlv.1.trans F.1.2.2.1.symm) d0 d3 d4 d6 d9 (by rw [hout]; exact fun x hx => absurd hx List.not_mem_nil) hRf hRl hRc hRs hlocks (fun t hA hz hk => ⟨hpx, ?_, ?_⟩) hS.2.2 hc hs
  · have h0 := F.2.2.2.2.1.2.2.2.2.2.2.1 w hw2
    simp only [kxB, List.mem_cons, List.not_mem_nil, or_false] at hw2
    rcases hw2 with rfl | rfl | rfl | rfl | rfl | rfl | rfl | rfl | rfl <;> exact va_any rfl h0
  · exact hw.kept hk
  · exact ⟨Nat.le_trans hS.1 hz, fun q h1 h2 => by rw [hk q (Nat.lt_of_lt_of_le h1 hS.1)]; exact hS.2.1 q h1 h2⟩
theorem x_prop (F : FX p s m args c cc nL Ts own D A tys) {px px1 : String → Prop} {post : Option Value → (Nat → Nat → Nat) → (Nat → Nat → Prop) → CF → Prop} {mc ms mc1 ms1 : Nat} (hout : c.exceptionTable.toList = []) (hlocks : meth.locks = false) (hpx : ∀ E, px1 E → px E) (hc : cells + mc1 ≤ mc) (hs : slots + ms1 ≤ ms) : ∀ (H : Heap) (ls : Array Slot) (E : String) (ce : Cell) (q9 : Addr) (H1 : Heap) (locs1 : List Loc), px1 E → HW D A ad dm w H1 → va_S A s.heap H1 locs1 → H1[q9]? = some ce → ce.vm = .none → s.vm.findClass E = some ce.cls → vx_W p l e R s m args below meth c H1 locs1 (cells + mc1) (slots + ms1) (vx_MQ below (QW D A tys post) (XW D A tys ad dm w px) args s mc ms A) (F0 m pc ls rest) q9 := by
  intro H ls E ce q9 H1 locs1 h1 h2 h3 h4 h5 h6
  exact vx_out (by rw [hout]; exact fun x hx => absurd hx List.not_mem_nil) hlocks h4 h5 h6 (fun t ht hA => ⟨hpx E h1, by rw [ht]; exact h2, h3.F ht⟩) h3.2.2 hc hs
end FR2
theorem q_start {l : Launch} {D : va_G} {A : Nat → Prop} {tys : List (ClassId × FieldType)} {ad : Nat → Nat → Nat} {dm : Nat → Nat → Prop} {w : CF} {y : MethodName} {ws ws' : List Cond} {rm : Room} {Qc : Array Value → State → Outcome → State → Prop} {XC : String → State → State → Prop} {mc ms : Nat} (av : List Value) {cc : ByteArray} {maxL : Nat} {ret : Option FieldType} {own : String} {lv0 : List (Nat × Value)} (hy : plainName y.cls = true) (hw : ws = Cond.code y cc maxL ret :: ws') (how : y.cls = own) (hlen : (lg_sl av).length ≤ maxL) (hlv : lv_args 0 av = lv0)
    (body : ∀ (p : Program) (e : Env) (s : State) (m : MethodId) (below : List Frame) (meth : Method) (c : Code), FX p s m av.toArray c cc maxL ws own D A tys → meth.sig.returnType = ret → meth.locks = false → c.exceptionTable.toList = [] → GG p l e rm s m av.toArray below meth c D A ad dm maxL 0 0 (vx_MQ below Qc XC av.toArray s mc ms A) w 0 lv0 []) : vx_Met l y ws rm (va_Pc av (PW D A tys ad dm w)) Qc XC mc ms A := by
  refine vx_ofW (cc := cc) (maxL := maxL) (ret := ret) hy hw ?_
  intro p e s m args below meth c s₁ B hml hno hv
  obtain ⟨rfl, hW, hK, hA, hSF⟩ := hv
  have hts := atoms_spec (ws := ws) B.pre
  have hown : s.vm.findClass own = some m.cls := how ▸ findClass_of_methodNamed B.named
  have hno2 : c.exceptionTable.toList = [] := by
    cases hh : c.exceptionTable.toList with
    | nil => rfl
    | cons x xs => exact (hno x (by rw [hh]; exact List.mem_cons_self)).elim
  rw [lg_entry_eq]
  subst hlv
  exact body p e s m below meth c ⟨⟨B.exec, B.bytes, hml, hown, hts⟩, hK, hA, hSF⟩ B.returns B.notSynchronized hno2 s.heap [] _ hW va_S.rf (lv_entry av hlen)

