/-! worlds by kind and index: cell (k, i) lies at ad k i, and holds w k i -/
abbrev CF : Type := Nat → Nat → va_E
def up2 {α : Type} (f : Nat → Nat → α) (k i : Nat) (v : α) : Nat → Nat → α := fun a b => if a = k ∧ b = i then v else f a b
theorem up2_self {α : Type} (f : Nat → Nat → α) (k i : Nat) (v : α) : up2 f k i v k i = v := by simp [up2]
theorem up2_ne {α : Type} (f : Nat → Nat → α) {k i a b : Nat} (v : α) (h : ¬ (a = k ∧ b = i)) : up2 f k i v a b = f a b := by simp [up2, h]
def HW (D : va_G) (A : Nat → Prop) (ad : Nat → Nat → Nat) (dm : Nat → Nat → Prop) (w : CF) (H : Heap) : Prop :=
  ∃ (L : List Nat) (f : Nat → va_E), va_P D vwCl ([] ++ va_pl L f) H ∧ va_D A ([] ++ va_pl L f) ∧ (∀ k i, dm k i → ad k i ∈ L ∧ f (ad k i) = w k i) ∧ (∀ k i k' i', dm k i → dm k' i' → ad k i = ad k' i' → k = k' ∧ i = i')
theorem HW.congr {D : va_G} {A : Nat → Prop} {ad ad' : Nat → Nat → Nat} {dm dm' : Nat → Nat → Prop} {w w' : CF} {H : Heap} (h : HW D A ad dm w H) (hd : ∀ k i, dm' k i → dm k i) (ha : ∀ k i, dm' k i → ad' k i = ad k i) (hw : ∀ k i, dm' k i → w' k i = w k i) : HW D A ad' dm' w' H := by
  obtain ⟨L, f, hP, hD, hm, hj⟩ := h
  refine ⟨L, f, hP, hD, fun k i q => ?_, fun k i k' i' q q' e => ?_⟩
  · rw [ha k i q, hw k i q]
    exact hm k i (hd k i q)
  · rw [ha k i q, ha k' i' q'] at e
    exact hj k i k' i' (hd k i q) (hd k' i' q') e
theorem HW.inj {D : va_G} {A : Nat → Prop} {ad : Nat → Nat → Nat} {dm : Nat → Nat → Prop} {w : CF} {H : Heap} (h : HW D A ad dm w H) {k i k' i' : Nat} (h1 : dm k i) (h2 : dm k' i') : ad k i = ad k' i' ↔ (k = k' ∧ i = i') := by
  obtain ⟨L, f, hP, hD, hm, hj⟩ := h
  exact ⟨hj k i k' i' h1 h2, fun q => by rw [q.1, q.2]⟩
theorem HW.set {D : va_G} {A : Nat → Prop} {ad : Nat → Nat → Nat} {dm : Nat → Nat → Prop} {w : CF} {H1 : Heap} {L : List Nat} {f : Nat → va_E} (hm : ∀ k i, dm k i → ad k i ∈ L ∧ f (ad k i) = w k i) (hj : ∀ k i k' i', dm k i → dm k' i' → ad k i = ad k' i' → k = k' ∧ i = i') {k i : Nat} (hd : dm k i) {e' : va_E} (hP : va_P D vwCl ([] ++ va_pl L (va_up f (ad k i) e')) H1) (hD : va_D A ([] ++ va_pl L (va_up f (ad k i) e'))) : HW D A ad dm (up2 w k i e') H1 := by
  refine ⟨L, _, hP, hD, fun a b q => ⟨(hm a b q).1, ?_⟩, hj⟩
  by_cases h : a = k ∧ b = i
  · rw [h.1, h.2, up2_self, va_up_self]
  · rw [up2_ne _ _ h, va_up_ne _ _ (fun z => h (hj a b k i q hd z))]
    exact (hm a b q).2
theorem HW.push {D : va_G} {A : Nat → Prop} {ad : Nat → Nat → Nat} {dm : Nat → Nat → Prop} {w : CF} {H H1 : Heap} {L : List Nat} {f : Nat → va_E} (hP0 : va_P D vwCl ([] ++ va_pl L f) H) (hm : ∀ k i, dm k i → ad k i ∈ L ∧ f (ad k i) = w k i) (hj : ∀ k i k' i', dm k i → dm k' i' → ad k i = ad k' i' → k = k' ∧ i = i') {k i q : Nat} (hd : ¬ dm k i) {e' : va_E} (hP : va_P D vwCl (([] ++ va_pl L f) ++ [(q, e')]) H1) (hD : va_D A (([] ++ va_pl L f) ++ [(q, e')])) : HW D A (up2 ad k i q) (fun a b => dm a b ∨ (a = k ∧ b = i)) (up2 w k i e') H1 := by
  have hq : q ∉ L := by
    intro hL
    obtain ⟨k1, hk1⟩ := va_pl_get (X := []) (f := f) hL
    have h2 : (([] ++ va_pl L f) ++ [(q, e')])[k1]? = some (q, f q) := by
      rw [List.getElem?_append_left (List.getElem?_eq_some_iff.mp hk1).1]; exact hk1
    have h3 : (([] ++ va_pl L f) ++ [(q, e')])[([] ++ va_pl L f).length]? = some (q, e') := by simp
    have := hD.1 _ _ _ _ h2 h3 rfl
    have := (List.getElem?_eq_some_iff.mp hk1).1
    omega
  rw [List.append_assoc, va_pl_push hq] at hP hD
  refine ⟨_, _, hP, hD, fun a b h => ?_, fun a b a' b' h h' z => ?_⟩
  · by_cases hab : a = k ∧ b = i
    · rw [hab.1, hab.2, up2_self, up2_self, va_up_self]
      exact ⟨List.mem_append_right _ (List.mem_singleton.mpr rfl), rfl⟩
    · have h := h.resolve_right hab
      rw [up2_ne _ _ hab, up2_ne _ _ hab, va_up_ne _ _ (fun z => hq (by rw [← z]; exact (hm a b h).1))]
      exact ⟨List.mem_append_left _ (hm a b h).1, (hm a b h).2⟩
  · by_cases hab : a = k ∧ b = i
    · by_cases hab' : a' = k ∧ b' = i
      · exact ⟨hab.1.trans hab'.1.symm, hab.2.trans hab'.2.symm⟩
      · have h' := h'.resolve_right hab'
        rw [hab.1, hab.2, up2_self, up2_ne _ _ hab'] at z
        exact absurd (by rw [z]; exact (hm a' b' h').1) hq
    · have h := h.resolve_right hab
      by_cases hab' : a' = k ∧ b' = i
      · rw [hab'.1, hab'.2, up2_self, up2_ne _ _ hab] at z
        exact absurd (by rw [← z]; exact (hm a b h).1) hq
      · have h' := h'.resolve_right hab'
        rw [up2_ne _ _ hab, up2_ne _ _ hab'] at z
        exact hj a b a' b' h h' z
/-- what a throw asks of the tables, and no reader of steady words carries -/
def kxB : List Cond := [.declares (Bundle.initS "java/lang/RuntimeException"), .declares (Bundle.initS "java/lang/Exception"), .declares (Bundle.initS Bundle.tN), .castable "java/lang/IndexOutOfBoundsException" "java/lang/IndexOutOfBoundsException", .castable "java/lang/IllegalArgumentException" "java/lang/IllegalArgumentException", .castable "java/lang/IllegalStateException" "java/lang/IllegalStateException", .castable "[I" "java/lang/Cloneable", .methodLinkNest RX5 15 yX0_init "MessageCentre", .methodLinkNest RX5 22 yX4_init "MessageCentre"]
def KX (U : State) : Prop := ∀ w ∈ kxB, w.before #[] U = true
theorem dc_moved {x : MethodName} {u U : State} (hvm : u.vm.Alike U.vm) (h : (Cond.declares x).before #[] u = true) : (Cond.declares x).before #[] U = true := by
  have h1 : (Cond.declares x).before #[] (u.setVm U.vm) = true := by
    rw [Cond.declares_setVm hvm]
    exact h
  have e := Cond.onTables_vm (A := #[]) (A' := #[]) (U := u) (U' := U) U.vm (Cond.declares x) rfl
  have hU : U.setVm U.vm = U := rfl
  rw [hU] at e
  rw [← e]
  exact h1
theorem KX.warm {s U : State} (h : KX s) (hW : s.WarmedH U.vm) : KX U := by
  intro w hw
  have h0 := h w hw
  simp only [kxB, List.mem_cons, List.not_mem_nil, or_false] at hw
  rcases hw with rfl | rfl | rfl | rfl | rfl | rfl | rfl | rfl | rfl
  · exact dc_moved hW.alike h0
  · exact dc_moved hW.alike h0
  · exact dc_moved hW.alike h0
  · exact va_Nw.warmC hW h0
  · exact va_Nw.warmC hW h0
  · exact va_Nw.warmC hW h0
  · exact va_Nw.warmC hW h0
  · exact va_Nw.warmM hW h0
  · exact va_Nw.warmM hW h0
theorem KX.same {s U : State} (h : KX s) (hv : U.vm = s.vm) : KX U := by
  intro w hw
  have h0 := h w hw
  simp only [kxB, List.mem_cons, List.not_mem_nil, or_false] at hw
  rcases hw with rfl | rfl | rfl | rfl | rfl | rfl | rfl | rfl | rfl <;> exact va_tabs rfl hv.symm h0
/-- what the tables say besides: the class object of a row of objects, rows of our classes, what a message is, throws -/
def KF (D : va_G) (U : State) : Prop := va_Mi "[Ljava/lang/Object;" (D.2 100 30) U ∧ va_Dc U ∧ va_AO "java/lang/Object" U ∧ va_AO "MessageCentre$Account" U ∧ va_AO "MessageCentre$Recipient" U ∧ va_Nw (.castable "MessageCentre$Message" "java/lang/Object") U ∧ KX U ∧ va_Nc "java/lang/IllegalArgumentException" "java/lang/IndexOutOfBoundsException" U ∧ va_Nc "java/lang/IllegalStateException" "java/lang/IndexOutOfBoundsException" U ∧ va_Nc "java/lang/IllegalStateException" "java/lang/IllegalArgumentException" U
theorem KF.warm {D : va_G} {s U : State} (h : KF D s) (hW : s.WarmedH U.vm) : KF D U := by
  obtain ⟨h1, h2, h3, h4, h5, h6, h7, h8, h9, h10⟩ := h
  exact ⟨h1.moved hW.alike, h2.moved hW.alike, h3.moved hW.alike, h4.moved hW.alike, h5.moved hW.alike, h6.warmC hW, h7.warm hW, h8.moved hW.alike, h9.moved hW.alike, h10.moved hW.alike⟩
theorem KF.same {D : va_G} {s U : State} (h : KF D s) (hv : U.vm = s.vm) : KF D U := by
  have hA : s.vm.Alike U.vm := by rw [hv]; exact Vm.Alike.refl s.vm
  obtain ⟨h1, h2, h3, h4, h5, h6, h7, h8, h9, h10⟩ := h
  exact ⟨h1.moved hA, h2.moved hA, h3.moved hA, h4.moved hA, h5.moved hA, va_tabs rfl hv.symm h6, h7.same hv, h8.moved hA, h9.moved hA, h10.moved hA⟩
/-- the script: an old row of numbers, at D.2 100 40 -/
def SX (D : va_G) (A : Nat → Prop) (U : State) (H : Heap) : Prop := ∃ (L : Nat) (xs : Nat → Int32), L ≤ 260 ∧ va_X (D.2 100 40) L xs U H ∧ D.2 100 40 < H.size ∧ ¬ A (D.2 100 40)
theorem SX.kept {D : va_G} {A : Nat → Prop} {U : State} {H H1 : Heap} (h : SX D A U H) (hq : ∀ a : Nat, a < H.size → ¬ A a → H1[a]? = H[a]?) : SX D A U H1 := by
  obtain ⟨L, xs, h1, h2, h3, h4⟩ := h
  have e := hq _ h3 h4
  refine ⟨L, xs, h1, h2.kept e, ?_, h4⟩
  obtain ⟨scr, g, -⟩ := h2
  rw [← e] at g
  exact (Array.getElem?_eq_some_iff.mp g).1
theorem SX.moved {D : va_G} {A : Nat → Prop} {u U : State} {H : Heap} (hvm : u.vm.Alike U.vm) (h : SX D A u H) : SX D A U H := by
  obtain ⟨L, xs, h1, h2, h3, h4⟩ := h
  exact ⟨L, xs, h1, h2.moved hvm, h3, h4⟩
/-- what lies in statics and is never written: the empty row of lists, the causes, what a throw wants, the texts; their addresses stand at D.2 100 -/
def SF (D : va_G) (A : Nat → Prop) (U : State) (H : Heap) : Prop :=
  (va_Z "java/util/ArrayList" "DEFAULTCAPACITY_EMPTY_ELEMENTDATA" "[Ljava/lang/Object;" (.ref (D.2 100 0)) A U H ∧ va_T (.object "java/lang/Object") (D.2 100 0) 0 (fun _ => .null) A U H ∧
  va_En "MessageCentre$Cause" "LMessageCentre$Cause;" ["BUSY", "ABSENT", "FULL"] [("MessageCentre$Cause", "place", "I", [0, 1, 2]), ("MessageCentre$Cause", "firstDelay", "I", [2, 5, 10]), ("MessageCentre$Cause", "mark", "I", [0, 1, 2])] (fun i => D.2 100 (1 + i)) A U H ∧
  vx_Zq Bundle.tN "UNASSIGNED_STACK" Bundle.steD A U H ∧ vx_Zq Bundle.tN "SUPPRESSED_SENTINEL" Bundle.listD A U H ∧ SX D A U H) ∧ KF D U ∧
  (vk_R RX5 202 "no such account" (D.2 100 10) U ∧ vk_R RX5 212 "an argument is out of its range" (D.2 100 11) U ∧ vk_R RX5 204 "no such recipient" (D.2 100 12) U ∧ vk_R RX5 86 "throttled, or no message more" (D.2 100 13) U ∧ vk_R RX5 206 "no such message" (D.2 100 14) U ∧ vk_R RX5 208 "the message does not wait" (D.2 100 15) U ∧ vk_R RX5 140 "no such part" (D.2 100 16) U ∧ vk_R RX5 193 "no receipt" (D.2 100 17) U)
theorem SF.warm {D : va_G} {A : Nat → Prop} {s U : State} (h : SF D A s s.heap) (hW : s.WarmedH U.vm) (hq : ∀ a : Nat, a < s.heap.size → ¬ A a → U.heap[a]? = s.heap[a]?) : SF D A U U.heap := by
  obtain ⟨⟨h1, h2, h3, h4, h5, h6⟩, kf, k0, k1, k2, k3, k4, k5, k6, k7⟩ := h
  exact ⟨⟨va_Z.moved hW.alike (h1.kept hq), va_T.moved hW.alike (h2.kept hq), va_En.moved hW.alike (h3.kept hq), vx_Zq.moved hW.alike (h4.kept hq), vx_Zq.moved hW.alike (h5.kept hq), (h6.kept hq).moved hW.alike⟩, kf.warm hW, k0.warm hW, k1.warm hW, k2.warm hW, k3.warm hW, k4.warm hW, k5.warm hW, k6.warm hW, k7.warm hW⟩
theorem SF.call {D : va_G} {A : Nat → Prop} {U U1 : State} (h : SF D A U U.heap) (hv : U1.vm = U.vm) (hh : U1.heap = U.heap) : SF D A U1 U1.heap := by
  have hA : U.vm.Alike U1.vm := by rw [hv]; exact Vm.Alike.refl U.vm
  obtain ⟨⟨h1, h2, h3, h4, h5, h6⟩, kf, k0, k1, k2, k3, k4, k5, k6, k7⟩ := h
  rw [hh]
  exact ⟨⟨va_Z.moved hA h1, va_T.moved hA h2, va_En.moved hA h3, vx_Zq.moved hA h4, vx_Zq.moved hA h5, h6.moved hA⟩, kf.same hv, k0.same hv, k1.same hv, k2.same hv, k3.same hv, k4.same hv, k5.same hv, k6.same hv, k7.same hv⟩
/-- a method's start and end over such a world -/
def PW (D : va_G) (A : Nat → Prop) (tys : List (ClassId × FieldType)) (ad : Nat → Nat → Nat) (dm : Nat → Nat → Prop) (w : CF) (U : State) : Prop := HW D A ad dm w U.heap ∧ va_K D vwCl tys U ∧ (∀ q : Nat, U.heap.size ≤ q → A q) ∧ SF D A U U.heap
theorem PW.call {D : va_G} {A : Nat → Prop} {tys : List (ClassId × FieldType)} {ad : Nat → Nat → Nat} {dm : Nat → Nat → Prop} {w : CF} {U : State} (h : PW D A tys ad dm w U) (a : Array Value) (g : JFrame) (mk : MethodId) : PW D A tys ad dm w (U.calling g mk a) :=
  ⟨h.1, va_K.moved (u := U) (U := U.calling g mk a) (Vm.Alike.refl U.vm) h.2.1, h.2.2.1, h.2.2.2.call (U1 := U.calling g mk a) rfl rfl⟩
/-- what stays the same through a method's body -/
def FX (p : Program) (s : State) (m : MethodId) (args : Array Value) (c : Code) (cc : ByteArray) (nL : Nat) (Ts : List Cond) (own : String) (D : va_G) (A : Nat → Prop) (tys : List (ClassId × FieldType)) : Prop :=
  CallFix p m c cc nL s args Ts own ∧ va_K D vwCl tys s ∧ (∀ q : Nat, s.heap.size ≤ q → A q) ∧ SF D A s s.heap
theorem FX.PW {p : Program} {s : State} {m : MethodId} {args : Array Value} {c : Code} {cc : ByteArray} {nL : Nat} {Ts : List Cond} {own : String} {D : va_G} {A : Nat → Prop} {tys : List (ClassId × FieldType)} {ad : Nat → Nat → Nat} {dm : Nat → Nat → Prop} {w : CF} {H : Heap} {locs : List Loc} (F : FX p s m args c cc nL Ts own D A tys) (hw : HW D A ad dm w H) (hS : va_S A s.heap H locs) {U : State} (hU : U.heap = H) (hW : s.WarmedH U.vm) : PW D A tys ad dm w U := by
  subst hU
  exact ⟨hw, va_K.moved hW.alike F.2.1, fun q hz => F.2.2.1 q (Nat.le_trans hS.1 hz), F.2.2.2.warm hW hS.2.1⟩
def GG (p : Program) (l : Launch) (e : Env) (R : Room) (s : State) (m : MethodId) (args : Array Value) (below : List Frame) (meth : Method) (c : Code) (D : va_G) (A : Nat → Prop) (ad : Nat → Nat → Nat) (dm : Nat → Nat → Prop) (nL cells slots : Nat) (Q : State → Prop) (w : CF) (pc : Nat) (lv : List (Nat × Value)) (st : List Value) : Prop :=
  ∀ (H : Heap) (locs : List Loc) (ls : Array Slot), HW D A ad dm w H → va_S A s.heap H locs → lv_has ls nL lv → W p l e R s m args below meth c H locs cells slots Q (F0 m pc ls st)
section FR
variable {p : Program} {l : Launch} {e : Env} {R : Room} {s : State} {m : MethodId} {args : Array Value} {below : List Frame} {meth : Method} {c : Code} {cells slots : Nat} {Q : State → Prop} {cc : ByteArray} {nL : Nat} {Ts : List Cond} {own : String} {D : va_G} {A : Nat → Prop} {tys : List (ClassId × FieldType)} {ad : Nat → Nat → Nat} {dm : Nat → Nat → Prop} {w : CF} {pc : Nat} {lv : List (Nat × Value)} {rest : List Value}
theorem g_iconst (F : FX p s m args c cc nL Ts own D A tys) {n : Int} {v : Int32} (d : decode cc pc = .ok (.iconst n, 1)) (hv : Int32.ofInt n = v)
    (kk : GG p l e R s m args below meth c D A ad dm nL cells slots Q w (pc + 1) lv (.int v :: rest)) : GG p l e R s m args below meth c D A ad dm nL cells slots Q w pc lv rest := fun H locs ls hw hS hl => lv_iconst F.1.1 F.1.2.1 d hv (kk H locs ls hw hS hl)
theorem g_bipush (F : FX p s m args c cc nL Ts own D A tys) {n : Int} {v : Int32} (d : decode cc pc = .ok (.bipush n, 2)) (hv : (Int8.ofInt n).toInt32 = v)
    (kk : GG p l e R s m args below meth c D A ad dm nL cells slots Q w (pc + 2) lv (.int v :: rest)) : GG p l e R s m args below meth c D A ad dm nL cells slots Q w pc lv rest := fun H locs ls hw hS hl => lv_bipush F.1.1 F.1.2.1 d hv (kk H locs ls hw hS hl)
theorem g_sipush (F : FX p s m args c cc nL Ts own D A tys) {n : Int} {v : Int32} (d : decode cc pc = .ok (.sipush n, 3)) (hv : (Int16.ofInt n).toInt32 = v)
    (kk : GG p l e R s m args below meth c D A ad dm nL cells slots Q w (pc + 3) lv (.int v :: rest)) : GG p l e R s m args below meth c D A ad dm nL cells slots Q w pc lv rest := fun H locs ls hw hS hl => lv_sipush F.1.1 F.1.2.1 d hv (kk H locs ls hw hS hl)
theorem g_iload_n (F : FX p s m args c cc nL Ts own D A tys) {k : Fin 4} {i : Nat} {x : Int32} (j : Nat) (d : decode cc pc = .ok (.iload_n k, 1)) (hi : (k : Nat) = i) (hj : lv[j]? = some (i, .int x))
    (kk : GG p l e R s m args below meth c D A ad dm nL cells slots Q w (pc + 1) lv (.int x :: rest)) : GG p l e R s m args below meth c D A ad dm nL cells slots Q w pc lv rest := fun H locs ls hw hS hl => lv_iload_n F.1.1 F.1.2.1 d hi (lv_at hl j hj) (kk H locs ls hw hS hl)
theorem g_iload (F : FX p s m args c cc nL Ts own D A tys) {i : Nat} {x : Int32} (j : Nat) (d : decode cc pc = .ok (.iload i, 2)) (hj : lv[j]? = some (i, .int x))
    (kk : GG p l e R s m args below meth c D A ad dm nL cells slots Q w (pc + 2) lv (.int x :: rest)) : GG p l e R s m args below meth c D A ad dm nL cells slots Q w pc lv rest := fun H locs ls hw hS hl => lv_iload F.1.1 F.1.2.1 d (lv_at hl j hj) (kk H locs ls hw hS hl)
theorem g_istore_n (F : FX p s m args c cc nL Ts own D A tys) {k : Fin 4} {i : Nat} {x : Int32} {lv1 : List (Nat × Value)} (d : decode cc pc = .ok (.istore_n k, 1)) (hi : (k : Nat) = i) (hn : i < nL) (hv : (i, Value.int x) :: lv.filter (fun q => !(q.1 == i) && !(q.1 + 1 == i && q.2.category == 2)) = lv1)
    (kk : GG p l e R s m args below meth c D A ad dm nL cells slots Q w (pc + 1) lv1 rest) : GG p l e R s m args below meth c D A ad dm nL cells slots Q w pc lv (.int x :: rest) := fun H locs ls hw hS hl => lv_istore_n F.1.1 F.1.2.1 d hi hl hn hv (fun ls1 hl1 => kk H locs ls1 hw hS hl1)
theorem g_istore (F : FX p s m args c cc nL Ts own D A tys) {i : Nat} {x : Int32} {lv1 : List (Nat × Value)} (d : decode cc pc = .ok (.istore i, 2)) (hn : i < nL) (hv : (i, Value.int x) :: lv.filter (fun q => !(q.1 == i) && !(q.1 + 1 == i && q.2.category == 2)) = lv1)
    (kk : GG p l e R s m args below meth c D A ad dm nL cells slots Q w (pc + 2) lv1 rest) : GG p l e R s m args below meth c D A ad dm nL cells slots Q w pc lv (.int x :: rest) := fun H locs ls hw hS hl => lv_istore F.1.1 F.1.2.1 d hl hn hv (fun ls1 hl1 => kk H locs ls1 hw hS hl1)
theorem g_aload_n (F : FX p s m args c cc nL Ts own D A tys) {k : Fin 4} {i : Nat} {x : Nat} (j : Nat) (d : decode cc pc = .ok (.aload_n k, 1)) (hi : (k : Nat) = i) (hj : lv[j]? = some (i, .ref x))
    (kk : GG p l e R s m args below meth c D A ad dm nL cells slots Q w (pc + 1) lv (.ref x :: rest)) : GG p l e R s m args below meth c D A ad dm nL cells slots Q w pc lv rest := fun H locs ls hw hS hl => lv_aload_n F.1.1 F.1.2.1 d hi (lv_at hl j hj) (kk H locs ls hw hS hl)
theorem g_aload (F : FX p s m args c cc nL Ts own D A tys) {i : Nat} {x : Nat} (j : Nat) (d : decode cc pc = .ok (.aload i, 2)) (hj : lv[j]? = some (i, .ref x))
    (kk : GG p l e R s m args below meth c D A ad dm nL cells slots Q w (pc + 2) lv (.ref x :: rest)) : GG p l e R s m args below meth c D A ad dm nL cells slots Q w pc lv rest := fun H locs ls hw hS hl => lv_aload F.1.1 F.1.2.1 d (lv_at hl j hj) (kk H locs ls hw hS hl)
theorem g_astore_n (F : FX p s m args c cc nL Ts own D A tys) {k : Fin 4} {i : Nat} {x : Nat} {lv1 : List (Nat × Value)} (d : decode cc pc = .ok (.astore_n k, 1)) (hi : (k : Nat) = i) (hn : i < nL) (hv : (i, Value.ref x) :: lv.filter (fun q => !(q.1 == i) && !(q.1 + 1 == i && q.2.category == 2)) = lv1)
    (kk : GG p l e R s m args below meth c D A ad dm nL cells slots Q w (pc + 1) lv1 rest) : GG p l e R s m args below meth c D A ad dm nL cells slots Q w pc lv (.ref x :: rest) := fun H locs ls hw hS hl => lv_astore_n F.1.1 F.1.2.1 d hi hl hn hv (fun ls1 hl1 => kk H locs ls1 hw hS hl1)
theorem g_astore (F : FX p s m args c cc nL Ts own D A tys) {i : Nat} {x : Nat} {lv1 : List (Nat × Value)} (d : decode cc pc = .ok (.astore i, 2)) (hn : i < nL) (hv : (i, Value.ref x) :: lv.filter (fun q => !(q.1 == i) && !(q.1 + 1 == i && q.2.category == 2)) = lv1)
    (kk : GG p l e R s m args below meth c D A ad dm nL cells slots Q w (pc + 2) lv1 rest) : GG p l e R s m args below meth c D A ad dm nL cells slots Q w pc lv (.ref x :: rest) := fun H locs ls hw hS hl => lv_astore F.1.1 F.1.2.1 d hl hn hv (fun ls1 hl1 => kk H locs ls1 hw hS hl1)
theorem g_iinc (F : FX p s m args c cc nL Ts own D A tys) {i : Nat} {n : Int} {x v : Int32} {lv1 : List (Nat × Value)} (j : Nat) (d : decode cc pc = .ok (.iinc i n, 3)) (hj : lv[j]? = some (i, .int x)) (hv : x + Int32.ofInt n = v) (hn : i < nL) (hq : (i, Value.int v) :: lv.filter (fun q => !(q.1 == i) && !(q.1 + 1 == i && q.2.category == 2)) = lv1)
    (kk : GG p l e R s m args below meth c D A ad dm nL cells slots Q w (pc + 3) lv1 rest) : GG p l e R s m args below meth c D A ad dm nL cells slots Q w pc lv rest := fun H locs ls hw hS hl => lv_iinc F.1.1 F.1.2.1 d hl hj hv hn hq (fun ls1 hl1 => kk H locs ls1 hw hS hl1)
theorem g_iadd (F : FX p s m args c cc nL Ts own D A tys) {x y : Int32} (d : decode cc pc = .ok (.iadd, 1)) 
    (kk : GG p l e R s m args below meth c D A ad dm nL cells slots Q w (pc + 1) lv (.int (x + y) :: rest)) : GG p l e R s m args below meth c D A ad dm nL cells slots Q w pc lv (.int y :: .int x :: rest) := fun H locs ls hw hS hl => lv_iadd F.1.1 F.1.2.1 d (kk H locs ls hw hS hl)
theorem g_isub (F : FX p s m args c cc nL Ts own D A tys) {x y : Int32} (d : decode cc pc = .ok (.isub, 1)) 
    (kk : GG p l e R s m args below meth c D A ad dm nL cells slots Q w (pc + 1) lv (.int (x - y) :: rest)) : GG p l e R s m args below meth c D A ad dm nL cells slots Q w pc lv (.int y :: .int x :: rest) := fun H locs ls hw hS hl => lv_isub F.1.1 F.1.2.1 d (kk H locs ls hw hS hl)
theorem g_imul (F : FX p s m args c cc nL Ts own D A tys) {x y : Int32} (d : decode cc pc = .ok (.imul, 1)) 
    (kk : GG p l e R s m args below meth c D A ad dm nL cells slots Q w (pc + 1) lv (.int (x * y) :: rest)) : GG p l e R s m args below meth c D A ad dm nL cells slots Q w pc lv (.int y :: .int x :: rest) := fun H locs ls hw hS hl => lv_imul F.1.1 F.1.2.1 d (kk H locs ls hw hS hl)
theorem g_iand (F : FX p s m args c cc nL Ts own D A tys) {x y : Int32} (d : decode cc pc = .ok (.iand, 1)) 
    (kk : GG p l e R s m args below meth c D A ad dm nL cells slots Q w (pc + 1) lv (.int (x &&& y) :: rest)) : GG p l e R s m args below meth c D A ad dm nL cells slots Q w pc lv (.int y :: .int x :: rest) := fun H locs ls hw hS hl => lv_iand F.1.1 F.1.2.1 d (kk H locs ls hw hS hl)
theorem g_ior (F : FX p s m args c cc nL Ts own D A tys) {x y : Int32} (d : decode cc pc = .ok (.ior, 1)) 
    (kk : GG p l e R s m args below meth c D A ad dm nL cells slots Q w (pc + 1) lv (.int (x ||| y) :: rest)) : GG p l e R s m args below meth c D A ad dm nL cells slots Q w pc lv (.int y :: .int x :: rest) := fun H locs ls hw hS hl => lv_ior F.1.1 F.1.2.1 d (kk H locs ls hw hS hl)
theorem g_ixor (F : FX p s m args c cc nL Ts own D A tys) {x y : Int32} (d : decode cc pc = .ok (.ixor, 1)) 
    (kk : GG p l e R s m args below meth c D A ad dm nL cells slots Q w (pc + 1) lv (.int (x ^^^ y) :: rest)) : GG p l e R s m args below meth c D A ad dm nL cells slots Q w pc lv (.int y :: .int x :: rest) := fun H locs ls hw hS hl => lv_ixor F.1.1 F.1.2.1 d (kk H locs ls hw hS hl)
theorem g_ldc (F : FX p s m args c cc nL Ts own D A tys) {index : Nat} {v : Int32} (d : decode cc pc = .ok (.ldc index, 2)) (hv : Jvm.Cond.constant own index v ∈ Ts)
    (kk : GG p l e R s m args below meth c D A ad dm nL cells slots Q w (pc + 2) lv (.int v :: rest)) : GG p l e R s m args below meth c D A ad dm nL cells slots Q w pc lv rest := fun H locs ls hw hS hl => lv_ldc F.1.1 F.1.2.1 F.1.2.2.2.1 (F.1.2.2.2.2 _ hv) d (kk H locs ls hw hS hl)
theorem g_ishl (F : FX p s m args c cc nL Ts own D A tys) {x y : Int32} (d : decode cc pc = .ok (.ishl, 1)) 
    (kk : GG p l e R s m args below meth c D A ad dm nL cells slots Q w (pc + 1) lv (.int (x <<< (y &&& 31)) :: rest)) : GG p l e R s m args below meth c D A ad dm nL cells slots Q w pc lv (.int y :: .int x :: rest) := fun H locs ls hw hS hl => lv_ishl F.1.1 F.1.2.1 d (kk H locs ls hw hS hl)
theorem g_ishr (F : FX p s m args c cc nL Ts own D A tys) {x y : Int32} (d : decode cc pc = .ok (.ishr, 1)) 
    (kk : GG p l e R s m args below meth c D A ad dm nL cells slots Q w (pc + 1) lv (.int (x >>> (y &&& 31)) :: rest)) : GG p l e R s m args below meth c D A ad dm nL cells slots Q w pc lv (.int y :: .int x :: rest) := fun H locs ls hw hS hl => lv_ishr F.1.1 F.1.2.1 d (kk H locs ls hw hS hl)
theorem g_idiv (F : FX p s m args c cc nL Ts own D A tys) {x y : Int32} (d : decode cc pc = .ok (.idiv, 1)) (hne : ¬ y = 0)
    (kk : GG p l e R s m args below meth c D A ad dm nL cells slots Q w (pc + 1) lv (.int (x / y) :: rest)) : GG p l e R s m args below meth c D A ad dm nL cells slots Q w pc lv (.int y :: .int x :: rest) := fun H locs ls hw hS hl => lv_idiv F.1.1 F.1.2.1 d hne (kk H locs ls hw hS hl)
theorem g_irem (F : FX p s m args c cc nL Ts own D A tys) {x y : Int32} (d : decode cc pc = .ok (.irem, 1)) (hne : ¬ y = 0)
    (kk : GG p l e R s m args below meth c D A ad dm nL cells slots Q w (pc + 1) lv (.int (x - x / y * y) :: rest)) : GG p l e R s m args below meth c D A ad dm nL cells slots Q w pc lv (.int y :: .int x :: rest) := fun H locs ls hw hS hl => lv_irem F.1.1 F.1.2.1 d hne (kk H locs ls hw hS hl)
theorem g_dup (F : FX p s m args c cc nL Ts own D A tys) {va : Value} (d : decode cc pc = .ok (.dup, 1)) (hva : va.category = 1)
    (kk : GG p l e R s m args below meth c D A ad dm nL cells slots Q w (pc + 1) lv (va :: va :: rest)) : GG p l e R s m args below meth c D A ad dm nL cells slots Q w pc lv (va :: rest) := fun H locs ls hw hS hl => lv_dup F.1.1 F.1.2.1 d hva (kk H locs ls hw hS hl)
theorem g_pop (F : FX p s m args c cc nL Ts own D A tys) {va : Value} (d : decode cc pc = .ok (.pop, 1)) (hva : va.category = 1)
    (kk : GG p l e R s m args below meth c D A ad dm nL cells slots Q w (pc + 1) lv rest) : GG p l e R s m args below meth c D A ad dm nL cells slots Q w pc lv (va :: rest) := fun H locs ls hw hS hl => lv_pop F.1.1 F.1.2.1 d hva (kk H locs ls hw hS hl)
theorem g_dup_x1 (F : FX p s m args c cc nL Ts own D A tys) {va vb : Value} (d : decode cc pc = .ok (.dup_x1, 1)) (hva : va.category = 1) (hvb : vb.category = 1)
    (kk : GG p l e R s m args below meth c D A ad dm nL cells slots Q w (pc + 1) lv (va :: vb :: va :: rest)) : GG p l e R s m args below meth c D A ad dm nL cells slots Q w pc lv (va :: vb :: rest) := fun H locs ls hw hS hl => lv_dup_x1 F.1.1 F.1.2.1 d hva hvb (kk H locs ls hw hS hl)
theorem g_dup2 (F : FX p s m args c cc nL Ts own D A tys) {va vb : Value} (d : decode cc pc = .ok (.dup2, 1)) (hva : va.category = 1) (hvb : vb.category = 1)
    (kk : GG p l e R s m args below meth c D A ad dm nL cells slots Q w (pc + 1) lv (va :: vb :: va :: vb :: rest)) : GG p l e R s m args below meth c D A ad dm nL cells slots Q w pc lv (va :: vb :: rest) := fun H locs ls hw hS hl => lv_dup2_11 F.1.1 F.1.2.1 d hva hvb (kk H locs ls hw hS hl)
theorem g_null (F : FX p s m args c cc nL Ts own D A tys)  (d : decode cc pc = .ok (.aconst_null, 1)) 
    (kk : GG p l e R s m args below meth c D A ad dm nL cells slots Q w (pc + 1) lv (.null :: rest)) : GG p l e R s m args below meth c D A ad dm nL cells slots Q w pc lv rest := fun H locs ls hw hS hl => lv_null F.1.1 F.1.2.1 d (kk H locs ls hw hS hl)
theorem g_if_eq (F : FX p s m args c cc nL Ts own D A tys) {x : Int32} {off : Int} {tgt : Nat} (d : decode cc pc = .ok (.ifCond .eq off, 3)) (ht : (pc : Int) + off = (tgt : Int))
    (kt : x = 0 → GG p l e R s m args below meth c D A ad dm nL cells slots Q w tgt lv rest) (kf : ¬ (x = 0) → GG p l e R s m args below meth c D A ad dm nL cells slots Q w (pc + 3) lv rest) : GG p l e R s m args below meth c D A ad dm nL cells slots Q w pc lv (.int x :: rest) := fun H locs ls hw hS hl => lv_if_eq F.1.1 F.1.2.1 d ht (fun h => kt h H locs ls hw hS hl) (fun h => kf h H locs ls hw hS hl)
theorem g_icmp_eq (F : FX p s m args c cc nL Ts own D A tys) {x y : Int32} {off : Int} {tgt : Nat} (d : decode cc pc = .ok (.if_icmp .eq off, 3)) (ht : (pc : Int) + off = (tgt : Int))
    (kt : x = y → GG p l e R s m args below meth c D A ad dm nL cells slots Q w tgt lv rest) (kf : ¬ (x = y) → GG p l e R s m args below meth c D A ad dm nL cells slots Q w (pc + 3) lv rest) : GG p l e R s m args below meth c D A ad dm nL cells slots Q w pc lv (.int y :: .int x :: rest) := fun H locs ls hw hS hl => lv_icmp_eq F.1.1 F.1.2.1 d ht (fun h => kt h H locs ls hw hS hl) (fun h => kf h H locs ls hw hS hl)
theorem g_if_ne (F : FX p s m args c cc nL Ts own D A tys) {x : Int32} {off : Int} {tgt : Nat} (d : decode cc pc = .ok (.ifCond .ne off, 3)) (ht : (pc : Int) + off = (tgt : Int))
    (kt : ¬ x = 0 → GG p l e R s m args below meth c D A ad dm nL cells slots Q w tgt lv rest) (kf : x = 0 → GG p l e R s m args below meth c D A ad dm nL cells slots Q w (pc + 3) lv rest) : GG p l e R s m args below meth c D A ad dm nL cells slots Q w pc lv (.int x :: rest) := fun H locs ls hw hS hl => lv_if_ne F.1.1 F.1.2.1 d ht (fun h => kt h H locs ls hw hS hl) (fun h => kf h H locs ls hw hS hl)
theorem g_icmp_ne (F : FX p s m args c cc nL Ts own D A tys) {x y : Int32} {off : Int} {tgt : Nat} (d : decode cc pc = .ok (.if_icmp .ne off, 3)) (ht : (pc : Int) + off = (tgt : Int))
    (kt : ¬ x = y → GG p l e R s m args below meth c D A ad dm nL cells slots Q w tgt lv rest) (kf : x = y → GG p l e R s m args below meth c D A ad dm nL cells slots Q w (pc + 3) lv rest) : GG p l e R s m args below meth c D A ad dm nL cells slots Q w pc lv (.int y :: .int x :: rest) := fun H locs ls hw hS hl => lv_icmp_ne F.1.1 F.1.2.1 d ht (fun h => kt h H locs ls hw hS hl) (fun h => kf h H locs ls hw hS hl)
theorem g_if_lt (F : FX p s m args c cc nL Ts own D A tys) {x : Int32} {off : Int} {tgt : Nat} (d : decode cc pc = .ok (.ifCond .lt off, 3)) (ht : (pc : Int) + off = (tgt : Int))
    (kt : x < 0 → GG p l e R s m args below meth c D A ad dm nL cells slots Q w tgt lv rest) (kf : ¬ (x < 0) → GG p l e R s m args below meth c D A ad dm nL cells slots Q w (pc + 3) lv rest) : GG p l e R s m args below meth c D A ad dm nL cells slots Q w pc lv (.int x :: rest) := fun H locs ls hw hS hl => lv_if_lt F.1.1 F.1.2.1 d ht (fun h => kt h H locs ls hw hS hl) (fun h => kf h H locs ls hw hS hl)
theorem g_icmp_lt (F : FX p s m args c cc nL Ts own D A tys) {x y : Int32} {off : Int} {tgt : Nat} (d : decode cc pc = .ok (.if_icmp .lt off, 3)) (ht : (pc : Int) + off = (tgt : Int))
    (kt : x < y → GG p l e R s m args below meth c D A ad dm nL cells slots Q w tgt lv rest) (kf : ¬ (x < y) → GG p l e R s m args below meth c D A ad dm nL cells slots Q w (pc + 3) lv rest) : GG p l e R s m args below meth c D A ad dm nL cells slots Q w pc lv (.int y :: .int x :: rest) := fun H locs ls hw hS hl => lv_icmp_lt F.1.1 F.1.2.1 d ht (fun h => kt h H locs ls hw hS hl) (fun h => kf h H locs ls hw hS hl)
theorem g_if_ge (F : FX p s m args c cc nL Ts own D A tys) {x : Int32} {off : Int} {tgt : Nat} (d : decode cc pc = .ok (.ifCond .ge off, 3)) (ht : (pc : Int) + off = (tgt : Int))
    (kt : 0 ≤ x → GG p l e R s m args below meth c D A ad dm nL cells slots Q w tgt lv rest) (kf : ¬ (0 ≤ x) → GG p l e R s m args below meth c D A ad dm nL cells slots Q w (pc + 3) lv rest) : GG p l e R s m args below meth c D A ad dm nL cells slots Q w pc lv (.int x :: rest) := fun H locs ls hw hS hl => lv_if_ge F.1.1 F.1.2.1 d ht (fun h => kt h H locs ls hw hS hl) (fun h => kf h H locs ls hw hS hl)
theorem g_icmp_ge (F : FX p s m args c cc nL Ts own D A tys) {x y : Int32} {off : Int} {tgt : Nat} (d : decode cc pc = .ok (.if_icmp .ge off, 3)) (ht : (pc : Int) + off = (tgt : Int))
    (kt : y ≤ x → GG p l e R s m args below meth c D A ad dm nL cells slots Q w tgt lv rest) (kf : ¬ (y ≤ x) → GG p l e R s m args below meth c D A ad dm nL cells slots Q w (pc + 3) lv rest) : GG p l e R s m args below meth c D A ad dm nL cells slots Q w pc lv (.int y :: .int x :: rest) := fun H locs ls hw hS hl => lv_icmp_ge F.1.1 F.1.2.1 d ht (fun h => kt h H locs ls hw hS hl) (fun h => kf h H locs ls hw hS hl)
theorem g_if_gt (F : FX p s m args c cc nL Ts own D A tys) {x : Int32} {off : Int} {tgt : Nat} (d : decode cc pc = .ok (.ifCond .gt off, 3)) (ht : (pc : Int) + off = (tgt : Int))
    (kt : 0 < x → GG p l e R s m args below meth c D A ad dm nL cells slots Q w tgt lv rest) (kf : ¬ (0 < x) → GG p l e R s m args below meth c D A ad dm nL cells slots Q w (pc + 3) lv rest) : GG p l e R s m args below meth c D A ad dm nL cells slots Q w pc lv (.int x :: rest) := fun H locs ls hw hS hl => lv_if_gt F.1.1 F.1.2.1 d ht (fun h => kt h H locs ls hw hS hl) (fun h => kf h H locs ls hw hS hl)
theorem g_icmp_gt (F : FX p s m args c cc nL Ts own D A tys) {x y : Int32} {off : Int} {tgt : Nat} (d : decode cc pc = .ok (.if_icmp .gt off, 3)) (ht : (pc : Int) + off = (tgt : Int))
    (kt : y < x → GG p l e R s m args below meth c D A ad dm nL cells slots Q w tgt lv rest) (kf : ¬ (y < x) → GG p l e R s m args below meth c D A ad dm nL cells slots Q w (pc + 3) lv rest) : GG p l e R s m args below meth c D A ad dm nL cells slots Q w pc lv (.int y :: .int x :: rest) := fun H locs ls hw hS hl => lv_icmp_gt F.1.1 F.1.2.1 d ht (fun h => kt h H locs ls hw hS hl) (fun h => kf h H locs ls hw hS hl)
theorem g_if_le (F : FX p s m args c cc nL Ts own D A tys) {x : Int32} {off : Int} {tgt : Nat} (d : decode cc pc = .ok (.ifCond .le off, 3)) (ht : (pc : Int) + off = (tgt : Int))
    (kt : x ≤ 0 → GG p l e R s m args below meth c D A ad dm nL cells slots Q w tgt lv rest) (kf : ¬ (x ≤ 0) → GG p l e R s m args below meth c D A ad dm nL cells slots Q w (pc + 3) lv rest) : GG p l e R s m args below meth c D A ad dm nL cells slots Q w pc lv (.int x :: rest) := fun H locs ls hw hS hl => lv_if_le F.1.1 F.1.2.1 d ht (fun h => kt h H locs ls hw hS hl) (fun h => kf h H locs ls hw hS hl)
theorem g_icmp_le (F : FX p s m args c cc nL Ts own D A tys) {x y : Int32} {off : Int} {tgt : Nat} (d : decode cc pc = .ok (.if_icmp .le off, 3)) (ht : (pc : Int) + off = (tgt : Int))
    (kt : x ≤ y → GG p l e R s m args below meth c D A ad dm nL cells slots Q w tgt lv rest) (kf : ¬ (x ≤ y) → GG p l e R s m args below meth c D A ad dm nL cells slots Q w (pc + 3) lv rest) : GG p l e R s m args below meth c D A ad dm nL cells slots Q w pc lv (.int y :: .int x :: rest) := fun H locs ls hw hS hl => lv_icmp_le F.1.1 F.1.2.1 d ht (fun h => kt h H locs ls hw hS hl) (fun h => kf h H locs ls hw hS hl)
theorem g_goto (F : FX p s m args c cc nL Ts own D A tys) {off : Int} {tgt : Nat} (d : decode cc pc = .ok (.goto off, 3)) (ht : (pc : Int) + off = (tgt : Int)) (kk : GG p l e R s m args below meth c D A ad dm nL cells slots Q w tgt lv rest) : GG p l e R s m args below meth c D A ad dm nL cells slots Q w pc lv rest := fun H locs ls hw hS hl => lv_goto F.1.1 F.1.2.1 d ht (kk H locs ls hw hS hl)
def bi (P : Prop) [Decidable P] : Int32 := if P then 1 else 0
theorem bi_t {P : Prop} [Decidable P] (h : P) : bi P = 1 := if_pos h
theorem bi_f {P : Prop} [Decidable P] (h : ¬ P) : bi P = 0 := if_neg h
theorem nI_mulE {a b : Int32} {m n : Nat} (ha : a = nI m) (hb : b = nI n) : a * b = nI (m * n) := by rw [ha, hb, pk_mul]
theorem nI_addE {a b : Int32} {m n : Nat} (ha : a = nI m) (hb : b = nI n) : a + b = nI (m + n) := by rw [ha, hb, nI_add]
theorem nI_leE {a b : Int32} {m n : Nat} (ha : a = nI m) (hb : b = nI n) (hm : m < 2 ^ 31) (hn : n < 2 ^ 31) : a ≤ b ↔ m ≤ n := by rw [ha, hb]; exact nI_leI hm hn
theorem nI_ltE {a b : Int32} {m n : Nat} (ha : a = nI m) (hb : b = nI n) (hm : m < 2 ^ 31) (hn : n < 2 ^ 31) : a < b ↔ m < n := by rw [ha, hb]; exact nI_ltI hm hn
theorem nI_eqE {a b : Int32} {m n : Nat} (ha : a = nI m) (hb : b = nI n) (hm : m < 2 ^ 31) (hn : n < 2 ^ 31) : a = b ↔ m = n := by rw [ha, hb]; exact nI_eq hm hn
theorem bi_iff {P Q : Prop} [Decidable P] [Decidable Q] (h : P ↔ Q) : bi P = bi Q := by unfold bi; simp only [h]
theorem bi_0 {P : Prop} [Decidable P] : bi P = 0 ↔ ¬ P := by by_cases h : P <;> simp [bi, h]
theorem bi_1 {P : Prop} [Decidable P] : ¬ bi P = 0 ↔ P := by by_cases h : P <;> simp [bi, h]
theorem bi_nar (P : Prop) [Decidable P] : narrow .boolean (.int (bi P)) = .int (bi P) := by by_cases h : P <;> simp only [bi, h, if_true, if_false] <;> rfl
theorem bi_vn (P : Prop) [Decidable P] : vp_nar .boolean (bi P) = bi P := by by_cases h : P <;> simp only [bi, h, if_true, if_false] <;> rfl
theorem bi_fit (P : Prop) [Decidable P] : fits .boolean (.int (bi P)) = true := by by_cases h : P <;> simp only [bi, h, if_true, if_false] <;> rfl
theorem g_ifb_eq (F : FX p s m args c cc nL Ts own D A tys) {P : Prop} [Decidable P] {off : Int} {tgt : Nat} (d : decode cc pc = .ok (.ifCond .eq off, 3)) (ht : (pc : Int) + off = (tgt : Int)) (kt : ¬ P → GG p l e R s m args below meth c D A ad dm nL cells slots Q w tgt lv rest) (kf : P → GG p l e R s m args below meth c D A ad dm nL cells slots Q w (pc + 3) lv rest) : GG p l e R s m args below meth c D A ad dm nL cells slots Q w pc lv (.int (bi P) :: rest) := g_if_eq F d ht (fun h => kt (bi_0.mp h)) (fun h => kf (bi_1.mp h))
theorem g_ifb_ne (F : FX p s m args c cc nL Ts own D A tys) {P : Prop} [Decidable P] {off : Int} {tgt : Nat} (d : decode cc pc = .ok (.ifCond .ne off, 3)) (ht : (pc : Int) + off = (tgt : Int)) (kt : P → GG p l e R s m args below meth c D A ad dm nL cells slots Q w tgt lv rest) (kf : ¬ P → GG p l e R s m args below meth c D A ad dm nL cells slots Q w (pc + 3) lv rest) : GG p l e R s m args below meth c D A ad dm nL cells slots Q w pc lv (.int (bi P) :: rest) := g_if_ne F d ht (fun h => kt (bi_1.mp h)) (fun h => kf (bi_0.mp h))
theorem g_top {x y : Int32} (ee : y = x) (kk : GG p l e R s m args below meth c D A ad dm nL cells slots Q w pc lv (.int y :: rest)) : GG p l e R s m args below meth c D A ad dm nL cells slots Q w pc lv (.int x :: rest) := ee ▸ kk
theorem g_w {w1 : CF} (ee : w1 = w) (kk : GG p l e R s m args below meth c D A ad dm nL cells slots Q w1 pc lv rest) : GG p l e R s m args below meth c D A ad dm nL cells slots Q w pc lv rest := ee ▸ kk
theorem g_lv {lv1 : List (Nat × Value)} (ks : List Nat) (ee : lv_pick lv ks = lv1) (kk : GG p l e R s m args below meth c D A ad dm nL cells slots Q w pc lv1 rest) : GG p l e R s m args below meth c D A ad dm nL cells slots Q w pc lv rest := fun H locs ls hw hS hl => kk H locs ls hw hS (lv_sub hl ks ee)
theorem g_widen {cells1 slots1 : Nat} (h1 : cells ≤ cells1) (h2 : slots ≤ slots1) (kk : GG p l e R s m args below meth c D A ad dm nL cells1 slots1 Q w pc lv rest) : GG p l e R s m args below meth c D A ad dm nL cells slots Q w pc lv rest := fun H locs ls hw hS hl => W.widen h1 h2 (kk H locs ls hw hS hl)
theorem g_for (N : Nat) (wf : Nat → CF) (lf : Nat → List (Nat × Value)) (hx : GG p l e R s m args below meth c D A ad dm nL cells slots Q (wf N) pc (lf N) rest) (hs : ∀ k, k < N → GG p l e R s m args below meth c D A ad dm nL cells slots Q (wf (k + 1)) pc (lf (k + 1)) rest → GG p l e R s m args below meth c D A ad dm nL cells slots Q (wf k) pc (lf k) rest) : ∀ k, k ≤ N → GG p l e R s m args below meth c D A ad dm nL cells slots Q (wf k) pc (lf k) rest := by
  intro k hk
  obtain ⟨j, hj⟩ : ∃ j, N = k + j := ⟨N - k, by omega⟩
  induction j generalizing k with
  | zero =>
    have : k = N := by omega
    rw [this]
    exact hx
  | succ j ih => exact hs k (by omega) (ih (k + 1) (by omega) (by omega))
theorem g_getf (F : FX p s m args c cc nL Ts own D A tys) {k i ci N index fk : Nat} {C ref : String} {T : u_T} {fs : List Value} {v : Value} (hin : ∀ w ∈ u_ws C T N, w ∈ Ts) (hd : dm k i) (he : w k i = .inr (ci, fs)) (hc : vwCl[ci]? = some (C, T, N)) (hk : fk < N) (hlink : Cond.fieldLink own index ref (T fk).2.1 (T fk).2.2.1 ∈ Ts) (hsame : (T fk).1 = ref) (hv : fs[fk]? = some v) (d : decode cc pc = .ok (.getfield index, 3))
    (kk : GG p l e R s m args below meth c D A ad dm nL cells slots Q w (pc + 3) lv (v :: rest)) : GG p l e R s m args below meth c D A ad dm nL cells slots Q w pc lv (.ref (ad k i) :: rest) := by
  intro H locs ls hw hS hl
  obtain ⟨L, f, hP, hD, hm, hj⟩ := id hw
  obtain ⟨q0, hq0⟩ := va_pl_get (X := []) (f := f) (hm k i hd).1
  rw [(hm k i hd).2, he] at hq0
  exact va_get F.1.1 F.1.2.1 F.1.2.2.2.2 hin F.1.2.2.2.1 F.2.1 hP q0 hq0 hc fk hk (F.1.2.2.2.2 _ hlink) (fun x hx => hsame ▸ hx) hv d (kk H locs ls hw hS hl)
theorem g_putf (F : FX p s m args c cc nL Ts own D A tys) {k i ci N index fk : Nat} {C ref : String} {T : u_T} {fs : List Value} {v : Value} {ty : FieldType} {tf : Nat → FieldType} (hin : ∀ w ∈ u_ws C T N, w ∈ Ts) (hty : ∀ k, k < N → parseFieldDescriptor (T k).2.2.1 = some (tf k)) (hnm : ∀ a, a < N → ∀ b, b < N → a ≠ b → (T a).2.1 ≠ (T b).2.1) (hd : dm k i) (he : w k i = .inr (ci, fs)) (hc : vwCl[ci]? = some (C, T, N)) (hk : fk < N) (hlink : Cond.fieldLink own index ref (T fk).2.1 (T fk).2.2.1 ∈ Ts) (hsame : (T fk).1 = ref) (hfin : (T fk).2.2.2 = false) (hty2 : parseFieldDescriptor (T fk).2.2.1 = some ty) (hn : narrow ty v = v) (hfit : fits ty v = true) (hl0 : fk < fs.length) (d : decode cc pc = .ok (.putfield index, 3))
    (kk : GG p l e R s m args below meth c D A ad dm nL cells slots Q (up2 w k i (.inr (ci, fs.set fk v))) (pc + 3) lv rest) : GG p l e R s m args below meth c D A ad dm nL cells slots Q w pc lv (v :: .ref (ad k i) :: rest) := by
  intro H locs ls hw hS hl
  obtain ⟨L, f, hP, hD, hm, hj⟩ := id hw
  obtain ⟨q0, hq0⟩ := va_pl_get (X := []) (f := f) (hm k i hd).1
  have hq1 := hq0
  rw [(hm k i hd).2, he] at hq1
  refine va_put F.1.1 F.1.2.1 F.1.2.2.2.2 hin tf hty hnm F.1.2.2.2.1 F.2.1 hP hD hS q0 hq1 hc fk hk (F.1.2.2.2.2 _ hlink) (fun x hx => hsame ▸ hx) hfin hty2 hn hfit hl0 d (fun H1 locs1 hP1 hD1 hS1 => ?_)
  rw [va_pl_set hD (hm k i hd).1 hq0] at hP1 hD1
  exact kk H1 locs1 ls (HW.set hm hj hd hP1 hD1) hS1 hl
theorem g_putF (F : FX p s m args c cc nL Ts own D A tys) {k i ci N index fk : Nat} {C ref : String} {T : u_T} {fs : List Value} {v : Value} {ty : FieldType} {tf : Nat → FieldType} (hin : ∀ w ∈ u_ws C T N, w ∈ Ts) (hty : ∀ k, k < N → parseFieldDescriptor (T k).2.2.1 = some (tf k)) (hnm : ∀ a, a < N → ∀ b, b < N → a ≠ b → (T a).2.1 ≠ (T b).2.1) (hd : dm k i) (he : w k i = .inr (ci, fs)) (hc : vwCl[ci]? = some (C, T, N)) (hk : fk < N) (hlink : Cond.fieldLink own index ref (T fk).2.1 (T fk).2.2.1 ∈ Ts) (hsame : (T fk).1 = ref) (hfin : (T fk).2.2.2 = true) (hin2 : meth.name = "<init>") (hdecl : (T fk).1 = own) (hty2 : parseFieldDescriptor (T fk).2.2.1 = some ty) (hn : narrow ty v = v) (hfit : fits ty v = true) (hl0 : fk < fs.length) (d : decode cc pc = .ok (.putfield index, 3))
    (kk : GG p l e R s m args below meth c D A ad dm nL cells slots Q (up2 w k i (.inr (ci, fs.set fk v))) (pc + 3) lv rest) : GG p l e R s m args below meth c D A ad dm nL cells slots Q w pc lv (v :: .ref (ad k i) :: rest) := by
  intro H locs ls hw hS hl
  obtain ⟨L, f, hP, hD, hm, hj⟩ := id hw
  obtain ⟨q0, hq0⟩ := va_pl_get (X := []) (f := f) (hm k i hd).1
  have hq1 := hq0
  rw [(hm k i hd).2, he] at hq1
  refine va_putF F.1.1 F.1.2.1 F.1.2.2.2.2 hin tf hty hnm F.1.2.2.2.1 F.2.1 hP hD hS q0 hq1 hc fk hk (F.1.2.2.2.2 _ hlink) (fun x hx => hsame ▸ hx) hfin hin2 hdecl hty2 hn hfit hl0 d (fun H1 locs1 hP1 hD1 hS1 => ?_)
  rw [va_pl_set hD (hm k i hd).1 hq0] at hP1 hD1
  exact kk H1 locs1 ls (HW.set hm hj hd hP1 hD1) hS1 hl
theorem g_iald (F : FX p s m args c cc nL Ts own D A tys) {k i n : Nat} {cA : ClassId} {f : Nat → Int32} {ix : Int32} (t0 : Nat) (hd : dm k i) (he : w k i = .inl (cA, n, .inl f)) (ht : tys[t0]? = some (cA, .int)) (hx : vp_in ix n) (d : decode cc pc = .ok (.iaload, 1))
    (kk : GG p l e R s m args below meth c D A ad dm nL cells slots Q w (pc + 1) lv (.int (f ix.toNatClampNeg) :: rest)) : GG p l e R s m args below meth c D A ad dm nL cells slots Q w pc lv (.int ix :: .ref (ad k i) :: rest) := by
  intro H locs ls hw hS hl
  obtain ⟨L, f, hP, hD, hm, hj⟩ := id hw
  obtain ⟨q0, hq0⟩ := va_pl_get (X := []) (f := f) (hm k i hd).1
  rw [(hm k i hd).2, he] at hq0
  exact va_iald F.1.1 F.1.2.1 F.2.1 hP q0 t0 hq0 ht hx d (kk H locs ls hw hS hl)
theorem g_zald (F : FX p s m args c cc nL Ts own D A tys) {k i n : Nat} {cA : ClassId} {f : Nat → Int32} {ix : Int32} (t0 : Nat) (hd : dm k i) (he : w k i = .inl (cA, n, .inl f)) (ht : tys[t0]? = some (cA, .boolean)) (hx : vp_in ix n) (d : decode cc pc = .ok (.baload, 1))
    (kk : GG p l e R s m args below meth c D A ad dm nL cells slots Q w (pc + 1) lv (.int (f ix.toNatClampNeg) :: rest)) : GG p l e R s m args below meth c D A ad dm nL cells slots Q w pc lv (.int ix :: .ref (ad k i) :: rest) := by
  intro H locs ls hw hS hl
  obtain ⟨L, f, hP, hD, hm, hj⟩ := id hw
  obtain ⟨q0, hq0⟩ := va_pl_get (X := []) (f := f) (hm k i hd).1
  rw [(hm k i hd).2, he] at hq0
  exact va_zald F.1.1 F.1.2.1 F.2.1 hP q0 t0 hq0 ht hx d (kk H locs ls hw hS hl)
theorem g_lald (F : FX p s m args c cc nL Ts own D A tys) {k i n : Nat} {cA : ClassId} {f : Nat → Int64} {ix : Int32} (t0 : Nat) (hd : dm k i) (he : w k i = .inl (cA, n, .inr (.inl f))) (ht : tys[t0]? = some (cA, .long)) (hx : vp_in ix n) (d : decode cc pc = .ok (.laload, 1))
    (kk : GG p l e R s m args below meth c D A ad dm nL cells slots Q w (pc + 1) lv (.long (f ix.toNatClampNeg) :: rest)) : GG p l e R s m args below meth c D A ad dm nL cells slots Q w pc lv (.int ix :: .ref (ad k i) :: rest) := by
  intro H locs ls hw hS hl
  obtain ⟨L, f, hP, hD, hm, hj⟩ := id hw
  obtain ⟨q0, hq0⟩ := va_pl_get (X := []) (f := f) (hm k i hd).1
  rw [(hm k i hd).2, he] at hq0
  exact va_lald F.1.1 F.1.2.1 F.2.1 hP q0 t0 hq0 ht hx d (kk H locs ls hw hS hl)
theorem g_aldq (F : FX p s m args c cc nL Ts own D A tys) {k i n : Nat} {cA : ClassId} {C : String} {f : Nat → Option Nat} {ix : Int32} (t0 : Nat) (hd : dm k i) (he : w k i = .inl (cA, n, .inr (.inr (.inr (.inr f))))) (ht : tys[t0]? = some (cA, .object C)) (hx : vp_in ix n) (d : decode cc pc = .ok (.aaload, 1))
    (kk : GG p l e R s m args below meth c D A ad dm nL cells slots Q w (pc + 1) lv (va_rf (f ix.toNatClampNeg) :: rest)) : GG p l e R s m args below meth c D A ad dm nL cells slots Q w pc lv (.int ix :: .ref (ad k i) :: rest) := by
  intro H locs ls hw hS hl
  obtain ⟨L, f, hP, hD, hm, hj⟩ := id hw
  obtain ⟨q0, hq0⟩ := va_pl_get (X := []) (f := f) (hm k i hd).1
  rw [(hm k i hd).2, he] at hq0
  exact va_aldq F.1.1 F.1.2.1 F.2.1 hP q0 t0 hq0 ht hx d (kk H locs ls hw hS hl)
theorem g_iast (F : FX p s m args c cc nL Ts own D A tys) {k i n : Nat} {cA : ClassId} {f : Nat → Int32} {ix : Int32} {x : Int32} (t0 : Nat) (hd : dm k i) (he : w k i = .inl (cA, n, .inl f)) (ht : tys[t0]? = some (cA, .int)) (hx : vp_in ix n) (d : decode cc pc = .ok (.iastore, 1))
    (kk : GG p l e R s m args below meth c D A ad dm nL cells slots Q (up2 w k i (.inl (cA, n, .inl (upd f ix.toNatClampNeg x)))) (pc + 1) lv rest) : GG p l e R s m args below meth c D A ad dm nL cells slots Q w pc lv (.int x :: .int ix :: .ref (ad k i) :: rest) := by
  intro H locs ls hw hS hl
  obtain ⟨L, f, hP, hD, hm, hj⟩ := id hw
  obtain ⟨q0, hq0⟩ := va_pl_get (X := []) (f := f) (hm k i hd).1
  have hq1 := hq0
  rw [(hm k i hd).2, he] at hq1
  refine va_iast F.1.1 F.1.2.1 F.2.1 hP hD hS q0 t0 hq1 ht hx d (fun H1 locs1 hP1 hD1 hS1 => ?_)
  rw [va_pl_set hD (hm k i hd).1 hq0] at hP1 hD1
  exact kk H1 locs1 ls (HW.set hm hj hd hP1 hD1) hS1 hl
theorem g_zast (F : FX p s m args c cc nL Ts own D A tys) {k i n : Nat} {cA : ClassId} {f : Nat → Int32} {ix : Int32} {x : Int32} (t0 : Nat) (hd : dm k i) (he : w k i = .inl (cA, n, .inl f)) (ht : tys[t0]? = some (cA, .boolean)) (hx : vp_in ix n) (d : decode cc pc = .ok (.bastore, 1))
    (kk : GG p l e R s m args below meth c D A ad dm nL cells slots Q (up2 w k i (.inl (cA, n, .inl (upd f ix.toNatClampNeg (vp_nar .boolean x))))) (pc + 1) lv rest) : GG p l e R s m args below meth c D A ad dm nL cells slots Q w pc lv (.int x :: .int ix :: .ref (ad k i) :: rest) := by
  intro H locs ls hw hS hl
  obtain ⟨L, f, hP, hD, hm, hj⟩ := id hw
  obtain ⟨q0, hq0⟩ := va_pl_get (X := []) (f := f) (hm k i hd).1
  have hq1 := hq0
  rw [(hm k i hd).2, he] at hq1
  refine va_zast F.1.1 F.1.2.1 F.2.1 hP hD hS q0 t0 hq1 ht hx d (fun H1 locs1 hP1 hD1 hS1 => ?_)
  rw [va_pl_set hD (hm k i hd).1 hq0] at hP1 hD1
  exact kk H1 locs1 ls (HW.set hm hj hd hP1 hD1) hS1 hl
theorem g_last (F : FX p s m args c cc nL Ts own D A tys) {k i n : Nat} {cA : ClassId} {f : Nat → Int64} {ix : Int32} {x : Int64} (t0 : Nat) (hd : dm k i) (he : w k i = .inl (cA, n, .inr (.inl f))) (ht : tys[t0]? = some (cA, .long)) (hx : vp_in ix n) (d : decode cc pc = .ok (.lastore, 1))
    (kk : GG p l e R s m args below meth c D A ad dm nL cells slots Q (up2 w k i (.inl (cA, n, .inr (.inl (vp_updL f ix.toNatClampNeg x))))) (pc + 1) lv rest) : GG p l e R s m args below meth c D A ad dm nL cells slots Q w pc lv (.long x :: .int ix :: .ref (ad k i) :: rest) := by
  intro H locs ls hw hS hl
  obtain ⟨L, f, hP, hD, hm, hj⟩ := id hw
  obtain ⟨q0, hq0⟩ := va_pl_get (X := []) (f := f) (hm k i hd).1
  have hq1 := hq0
  rw [(hm k i hd).2, he] at hq1
  refine va_last F.1.1 F.1.2.1 F.2.1 hP hD hS q0 t0 hq1 ht hx d (fun H1 locs1 hP1 hD1 hS1 => ?_)
  rw [va_pl_set hD (hm k i hd).1 hq0] at hP1 hD1
  exact kk H1 locs1 ls (HW.set hm hj hd hP1 hD1) hS1 hl
theorem g_alen (F : FX p s m args c cc nL Ts own D A tys) {k i : Nat} {cA : ClassId} {ty : FieldType} {x : vp_A} {v : Int32} (t0 : Nat) (hd : dm k i) (he : w k i = .inl (cA, x)) (ht : tys[t0]? = some (cA, ty)) (hv : Int32.ofNat x.1 = v) (d : decode cc pc = .ok (.arraylength, 1))
    (kk : GG p l e R s m args below meth c D A ad dm nL cells slots Q w (pc + 1) lv (.int v :: rest)) : GG p l e R s m args below meth c D A ad dm nL cells slots Q w pc lv (.ref (ad k i) :: rest) := by
  intro H locs ls hw hS hl
  obtain ⟨L, f, hP, hD, hm, hj⟩ := id hw
  obtain ⟨q0, hq0⟩ := va_pl_get (X := []) (f := f) (hm k i hd).1
  rw [(hm k i hd).2, he] at hq0
  exact va_alen F.1.1 F.1.2.1 F.2.1 hP q0 t0 hq0 ht hv d (kk H locs ls hw hS hl)
theorem g_iret (F : FX p s m args c cc nL Ts own D A tys) {v v0 : Int32} {w1 : CF} {ad1 : Nat → Nat → Nat} {dm1 : Nat → Nat → Prop} (hr : meth.sig.returnType = some .int) (hv : v = v0) (hlocks : meth.locks = false) (hq : ∀ H : Heap, HW D A ad dm w H → HW D A ad1 dm1 w1 H) (d : decode cc pc = .ok (.ireturn, 1)) : GG p l e R s m args below meth c D A ad dm nL cells slots (MQ below (va_Qi (fun r (_ : Unit) => r = v0) (fun _ t => PW D A tys ad1 dm1 w1 t) A) args s cells slots A) w pc lv [.int v] := by
  intro H locs ls hw hS hl
  exact W.iret F.1.1 F.1.2.1 hr (fun t ht hW => ⟨⟨v, (), rfl, hv, (F.PW (hq H hw) hS ht hW)⟩, hS.F ht⟩) hS.2.2 d hlocks
theorem g_zret (F : FX p s m args c cc nL Ts own D A tys) {v v0 : Int32} {ty : FieldType} {w1 : CF} {ad1 : Nat → Nat → Nat} {dm1 : Nat → Nat → Prop} (hr : meth.sig.returnType = some ty) (hn : narrow ty (.int v) = .int v) (hv : v = v0) (hlocks : meth.locks = false) (hq : ∀ H : Heap, HW D A ad dm w H → HW D A ad1 dm1 w1 H) (d : decode cc pc = .ok (.ireturn, 1)) : GG p l e R s m args below meth c D A ad dm nL cells slots (MQ below (va_Qi (fun r (_ : Unit) => r = v0) (fun _ t => PW D A tys ad1 dm1 w1 t) A) args s cells slots A) w pc lv [.int v] := by
  intro H locs ls hw hS hl
  exact W.zret F.1.1 F.1.2.1 hr hn (fun t ht hW => ⟨⟨v, (), rfl, hv, (F.PW (hq H hw) hS ht hW)⟩, hS.F ht⟩) hS.2.2 d hlocks
theorem g_vret (F : FX p s m args c cc nL Ts own D A tys)  {w1 : CF} {ad1 : Nat → Nat → Nat} {dm1 : Nat → Nat → Prop} (hr : meth.sig.returnType = none) (hlocks : meth.locks = false) (hq : ∀ H : Heap, HW D A ad dm w H → HW D A ad1 dm1 w1 H) (d : decode cc pc = .ok (.return_, 1)) : GG p l e R s m args below meth c D A ad dm nL cells slots (MQ below (va_Qv (fun (_ : Unit) => True) (fun _ t => PW D A tys ad1 dm1 w1 t) A) args s cells slots A) w pc lv [] := by
  intro H locs ls hw hS hl
  exact W.vret F.1.1 F.1.2.1 hr (fun t ht hW => ⟨⟨(), rfl, trivial, (F.PW (hq H hw) hS ht hW)⟩, hS.F ht⟩) hS.2.2 d hlocks
theorem g_callVi (F : FX p s m args c cc nL Ts own D A tys) {y : MethodName} {bytes : ByteArray} {maxL mc ms n index : Nat} {ret : Option FieldType} {ws : List Cond} {rm : Room} {w1 : CF} {v : Int32} {C : String} {b k i ci : Nat} {T : u_T} {N : Nat} {fs : List Value} (As : List Value) {st : List Value} (hM : Met l y ws rm (va_Pc (.ref b :: As) (PW D A tys ad dm w)) (va_Qi (fun r (_ : Unit) => r = v) (fun _ t => PW D A tys ad dm w1 t) A) mc ms A) (cw : CallW R s args own C index y bytes maxL ret ws rm mc ms n) (hb : b = ad k i) (hd : dm k i) (he : w k i = .inr (ci, fs)) (hc : vwCl[ci]? = some (C, T, N)) (hn : As.length = n) (hst : st = As.reverse ++ .ref b :: rest) (hroom : (rest.map fun v => v.category).sum ≤ 8) (d : decode cc pc = .ok (.invokevirtual index, 3)) (hf : cells + mc ≤ R.cells ∧ slots + ms ≤ R.slots)
    (kk : GG p l e R s m args below meth c D A ad dm nL (cells + mc) (slots + ms) Q w1 (pc + 3) lv (.int v :: rest)) : GG p l e R s m args below meth c D A ad dm nL cells slots Q w pc lv st := by
  intro H locs ls hw hS hl
  subst hst
  subst hb
  obtain ⟨L, f, hP, hD, hm, hj⟩ := id hw
  obtain ⟨q0, hq0⟩ := va_pl_get (X := []) (f := f) (hm k i hd).1
  rw [(hm k i hd).2, he] at hq0
  refine va_calli (va_runV (As := As) (rest := rest) F.1 hM cw ⟨fun a U g mk q => ⟨q.1, q.2.call a g mk⟩, va_recv F.2.1 hP hc hq0, fun U hU hW => ⟨rfl, F.PW hw hS hU hW⟩⟩ rfl hn hl.1 rfl (lv_room hroom) d hf) hS (fun q _ h => h) (fun q h => h) (fun r u t H1 locs1 ht hvm hp hB hz hk hS1 => ?_)
  have hB1 : HW D A ad dm w1 H1 := by rw [← ht]; exact hB.1
  exact (by subst hp; exact kk H1 locs1 ls hB1 hS1 hl)
theorem g_callVv (F : FX p s m args c cc nL Ts own D A tys) {y : MethodName} {bytes : ByteArray} {maxL mc ms n index : Nat} {ret : Option FieldType} {ws : List Cond} {rm : Room} {w1 : CF}  {C : String} {b k i ci : Nat} {T : u_T} {N : Nat} {fs : List Value} (As : List Value) {st : List Value} (hM : Met l y ws rm (va_Pc (.ref b :: As) (PW D A tys ad dm w)) (va_Qv (fun (_ : Unit) => True) (fun _ t => PW D A tys ad dm w1 t) A) mc ms A) (cw : CallW R s args own C index y bytes maxL ret ws rm mc ms n) (hb : b = ad k i) (hd : dm k i) (he : w k i = .inr (ci, fs)) (hc : vwCl[ci]? = some (C, T, N)) (hn : As.length = n) (hst : st = As.reverse ++ .ref b :: rest) (hroom : (rest.map fun v => v.category).sum ≤ 8) (d : decode cc pc = .ok (.invokevirtual index, 3)) (hf : cells + mc ≤ R.cells ∧ slots + ms ≤ R.slots)
    (kk : GG p l e R s m args below meth c D A ad dm nL (cells + mc) (slots + ms) Q w1 (pc + 3) lv rest) : GG p l e R s m args below meth c D A ad dm nL cells slots Q w pc lv st := by
  intro H locs ls hw hS hl
  subst hst
  subst hb
  obtain ⟨L, f, hP, hD, hm, hj⟩ := id hw
  obtain ⟨q0, hq0⟩ := va_pl_get (X := []) (f := f) (hm k i hd).1
  rw [(hm k i hd).2, he] at hq0
  refine va_callv (va_runV (As := As) (rest := rest) F.1 hM cw ⟨fun a U g mk q => ⟨q.1, q.2.call a g mk⟩, va_recv F.2.1 hP hc hq0, fun U hU hW => ⟨rfl, F.PW hw hS hU hW⟩⟩ rfl hn hl.1 rfl (lv_room hroom) d hf) hS (fun q _ h => h) (fun q h => h) (fun u t H1 locs1 ht hvm hp hB hz hk hS1 => ?_)
  have hB1 : HW D A ad dm w1 H1 := by rw [← ht]; exact hB.1
  exact kk H1 locs1 ls hB1 hS1 hl
theorem g_callSi (F : FX p s m args c cc nL Ts own D A tys) {y : MethodName} {bytes : ByteArray} {maxL mc ms n index : Nat} {ret : Option FieldType} {ws : List Cond} {rm : Room} {w1 : CF} {v : Int32} (As : List Value) {st : List Value} (hM : Met l y ws rm (va_Pc (As) (PW D A tys ad dm w)) (va_Qi (fun r (_ : Unit) => r = v) (fun _ t => PW D A tys ad dm w1 t) A) mc ms A) (cw : CallB R s args own index y bytes maxL ret ws rm mc ms n ∧ (Cond.static y).before args s = true) (hn : As.length = n) (hst : st = As.reverse ++ rest) (hroom : (rest.map fun v => v.category).sum ≤ 8) (d : decode cc pc = .ok (.invokestatic index, 3)) (hf : cells + mc ≤ R.cells ∧ slots + ms ≤ R.slots)
    (kk : GG p l e R s m args below meth c D A ad dm nL (cells + mc) (slots + ms) Q w1 (pc + 3) lv (.int v :: rest)) : GG p l e R s m args below meth c D A ad dm nL cells slots Q w pc lv st := by
  intro H locs ls hw hS hl
  subst hst
  refine va_calli (va_runS (As := As) (rest := rest) F.1 hM cw ⟨fun a U g mk q => ⟨q.1, q.2.call a g mk⟩, fun U hU hW => ⟨rfl, F.PW hw hS hU hW⟩⟩ rfl hn hl.1 rfl (lv_room hroom) d hf) hS (fun q _ h => h) (fun q h => h) (fun r u t H1 locs1 ht hvm hp hB hz hk hS1 => ?_)
  have hB1 : HW D A ad dm w1 H1 := by rw [← ht]; exact hB.1
  exact (by subst hp; exact kk H1 locs1 ls hB1 hS1 hl)
theorem g_callSv (F : FX p s m args c cc nL Ts own D A tys) {y : MethodName} {bytes : ByteArray} {maxL mc ms n index : Nat} {ret : Option FieldType} {ws : List Cond} {rm : Room} {w1 : CF}  (As : List Value) {st : List Value} (hM : Met l y ws rm (va_Pc (As) (PW D A tys ad dm w)) (va_Qv (fun (_ : Unit) => True) (fun _ t => PW D A tys ad dm w1 t) A) mc ms A) (cw : CallB R s args own index y bytes maxL ret ws rm mc ms n ∧ (Cond.static y).before args s = true) (hn : As.length = n) (hst : st = As.reverse ++ rest) (hroom : (rest.map fun v => v.category).sum ≤ 8) (d : decode cc pc = .ok (.invokestatic index, 3)) (hf : cells + mc ≤ R.cells ∧ slots + ms ≤ R.slots)
    (kk : GG p l e R s m args below meth c D A ad dm nL (cells + mc) (slots + ms) Q w1 (pc + 3) lv rest) : GG p l e R s m args below meth c D A ad dm nL cells slots Q w pc lv st := by
  intro H locs ls hw hS hl
  subst hst
  refine va_callv (va_runS (As := As) (rest := rest) F.1 hM cw ⟨fun a U g mk q => ⟨q.1, q.2.call a g mk⟩, fun U hU hW => ⟨rfl, F.PW hw hS hU hW⟩⟩ rfl hn hl.1 rfl (lv_room hroom) d hf) hS (fun q _ h => h) (fun q h => h) (fun u t H1 locs1 ht hvm hp hB hz hk hS1 => ?_)
  have hB1 : HW D A ad dm w1 H1 := by rw [← ht]; exact hB.1
  exact kk H1 locs1 ls hB1 hS1 hl
theorem g_cut {w2 : CF} {pc2 : Nat} {lv2 : List (Nat × Value)} {st2 : List Value} (hJ : GG p l e R s m args below meth c D A ad dm nL cells slots Q w2 pc2 lv2 st2) (kk : GG p l e R s m args below meth c D A ad dm nL cells slots Q w2 pc2 lv2 st2 → GG p l e R s m args below meth c D A ad dm nL cells slots Q w pc lv rest) : GG p l e R s m args below meth c D A ad dm nL cells slots Q w pc lv rest := kk hJ
theorem g_loop (N k0 : Nat) (h0 : k0 ≤ N) (wf : Nat → CF) (lf : Nat → List (Nat × Value)) (ew : wf k0 = w) (el : lf k0 = lv) (hx : GG p l e R s m args below meth c D A ad dm nL cells slots Q (wf N) pc (lf N) rest) (hs : ∀ k, k0 ≤ k → k < N → GG p l e R s m args below meth c D A ad dm nL cells slots Q (wf (k + 1)) pc (lf (k + 1)) rest → GG p l e R s m args below meth c D A ad dm nL cells slots Q (wf k) pc (lf k) rest) : GG p l e R s m args below meth c D A ad dm nL cells slots Q w pc lv rest := by
  subst ew
  subst el
  obtain ⟨j, hj⟩ : ∃ j, N = k0 + j := ⟨N - k0, by omega⟩
  have go : ∀ j k, k0 ≤ k → N = k + j → GG p l e R s m args below meth c D A ad dm nL cells slots Q (wf k) pc (lf k) rest := by
    intro j
    induction j with
    | zero =>
      intro k _ h
      have : k = N := by omega
      rw [this]
      exact hx
    | succ j ih => exact fun k h1 h => hs k h1 (by omega) (ih (k + 1) (by omega) (by omega))
  exact go j k0 (Nat.le_refl _) hj
theorem g_rec {S : Type} (μ : S → Nat) (I : S → Prop) (wf : S → CF) (lf : S → List (Nat × Value)) (s0 : S) (i0 : I s0) (ew : wf s0 = w) (el : lf s0 = lv) (hs : ∀ x, I x → (∀ x', I x' → μ x' < μ x → GG p l e R s m args below meth c D A ad dm nL cells slots Q (wf x') pc (lf x') rest) → GG p l e R s m args below meth c D A ad dm nL cells slots Q (wf x) pc (lf x) rest) : GG p l e R s m args below meth c D A ad dm nL cells slots Q w pc lv rest := by
  subst ew
  subst el
  have go : ∀ n x, I x → μ x < n → GG p l e R s m args below meth c D A ad dm nL cells slots Q (wf x) pc (lf x) rest := by
    intro n
    induction n with
    | zero => exact fun x _ h => absurd h (Nat.not_lt_zero _)
    | succ n ih => exact fun x hx h => hs x hx (fun x' hx' hm => ih x' hx' (by omega))
  exact go _ s0 i0 (Nat.lt_succ_self _)
end FR
theorem g_start {l : Launch} {D : va_G} {A : Nat → Prop} {tys : List (ClassId × FieldType)} {ad : Nat → Nat → Nat} {dm : Nat → Nat → Prop} {w : CF} {y : MethodName} {ws ws' : List Cond} {rm : Room} {Qc : Array Value → State → Outcome → State → Prop} {mc ms : Nat} (av : List Value) {cc : ByteArray} {maxL : Nat} {ret : Option FieldType} {own : String} {lv0 : List (Nat × Value)} (hy : plainName y.cls = true) (hw : ws = Cond.code y cc maxL ret :: ws') (how : y.cls = own) (hlen : (lg_sl av).length ≤ maxL) (hlv : lv_args 0 av = lv0)
    (body : ∀ (p : Program) (e : Env) (s : State) (m : MethodId) (below : List Frame) (meth : Method) (c : Code), FX p s m av.toArray c cc maxL ws own D A tys → meth.sig.returnType = ret → meth.locks = false → meth.name = y.name → GG p l e rm s m av.toArray below meth c D A ad dm maxL 0 0 (MQ below Qc av.toArray s mc ms A) w 0 lv0 []) : Met l y ws rm (va_Pc av (PW D A tys ad dm w)) Qc mc ms A := by
  refine Met.ofW (cc := cc) (maxL := maxL) (ret := ret) hy hw ?_
  intro p e s m args below meth c s₁ B hml hv
  obtain ⟨rfl, hW, hK, hA, hSF⟩ := hv
  have hts := atoms_spec (ws := ws) B.pre
  have hown : s.vm.findClass own = some m.cls := how ▸ findClass_of_methodNamed B.named
  rw [lg_entry_eq]
  subst hlv
  exact body p e s m below meth c ⟨⟨B.exec, B.bytes, hml, hown, hts⟩, hK, hA, hSF⟩ B.returns B.notSynchronized (name_of_methodNamed B.named B.method).1 s.heap [] _ hW va_S.rf (lv_entry av hlen)

