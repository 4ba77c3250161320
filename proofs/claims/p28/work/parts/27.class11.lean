section NW11
variable {p : Program} {l : Launch} {e : Env} {R : Room} {s : State} {m : MethodId} {args : Array Value} {below : List Frame} {meth : Method} {c : Code} {cells slots : Nat} {Q : State → Prop} {cc : ByteArray} {nL : Nat} {Ts : List Cond} {own : String} {D : va_G} {A : Nat → Prop} {tys : List (ClassId × FieldType)} {ad : Nat → Nat → Nat} {dm : Nat → Nat → Prop} {w : CF} {pc : Nat} {lv : List (Nat × Value)} {rest : List Value}
theorem g_obj (F : FX p s m args c cc nL Ts own D A tys) {a index : Nat} (hlink : Cond.methodLink own index Lib.objectInit ∈ Ts) (hinst : Cond.instanceMethod Lib.objectInit ∈ Ts) (hcode : Cond.code Lib.objectInit ⟨#[0xb1]⟩ 1 none ∈ Ts) (hf : 1 ≤ R.frames) (hlo : (rest.map fun v => v.category).sum + 12 ≤ R.locals) (d : decode cc pc = .ok (.invokespecial index, 3)) (kk : GG p l e R s m args below meth c D A ad dm nL cells slots Q w (pc + 3) lv rest) : GG p l e R s m args below meth c D A ad dm nL cells slots Q w pc lv (.ref a :: rest) := fun H locs ls hw hS hl => W.objInit F.1.1 F.1.2.1 F.1.2.2.2.1 (F.1.2.2.2.2 _ hlink) (F.1.2.2.2.2 _ hinst) (F.1.2.2.2.2 _ hcode) rfl (hl.1.trans F.1.2.2.1.symm) rfl d hf (by show 2 * 0 + _ + 12 ≤ _; omega) (kk H locs ls hw hS hl)
theorem n_cwI {y : MethodName} {bytes : ByteArray} {maxL mc ms index : Nat} {ws ws' : List Cond} {rm : Room} (n : Nat) (ht : ∀ w ∈ Ts, w.before args s = true) (hT : GoodIn Ts ws) (hw : ws = Cond.code y bytes maxL none :: ws') (hrc : rm.cells = mc) (hrs : rm.slots = ms) (hlink : Cond.methodLink own index y ∈ Ts) (hini : Cond.initialized y.cls ∈ Ts) (hin : Cond.instanceMethod y ∈ Ts) (hnm : y.name = "<init>") (hd : y.cls ≠ "java/lang/invoke/MethodHandle" ∧ y.cls ≠ "java/lang/invoke/VarHandle" ∧ (parseMethodDescriptor y.desc).map (fun d => d.parameters.length) = some n) (hR : rm.frames + 1 ≤ R.frames ∧ 8 + (maxL + 11) + rm.locals ≤ R.locals) : CallB R s args own index y bytes maxL none ws rm mc ms n ∧ y.name = "<init>" ∧ (Cond.instanceMethod y).before args s = true := ⟨callB_of n ht hT hw hrc hrs (ht _ hini) (ht _ hlink) hd hR, hnm, ht _ hin⟩
end NW11
theorem up2_2 {α : Type} (f : Nat → Nat → α) (k i : Nat) (a b : α) : up2 (up2 f k i a) k i b = up2 f k i b := by
  funext x y
  by_cases h : x = k ∧ y = i
  · rw [h.1, h.2, up2_self, up2_self]
  · rw [up2_ne _ _ h, up2_ne _ _ h, up2_ne _ _ h]
theorem up2_cm {α : Type} (f : Nat → Nat → α) {k i j r : Nat} (a b : α) (h : k ≠ j) : up2 (up2 f k i a) j r b = up2 (up2 f j r b) k i a := by
  funext x y
  by_cases h1 : x = k ∧ y = i
  · rw [h1.1, h1.2, up2_ne _ _ (fun z => h z.1), up2_self, up2_self]
  · by_cases h2 : x = j ∧ y = r
    · rw [h2.1, h2.2, up2_self, up2_ne _ _ (fun z => h z.1.symm), up2_self]
    · rw [up2_ne _ _ h2, up2_ne _ _ h1, up2_ne _ _ h1, up2_ne _ _ h2]
theorem up2_sm {α : Type} {f : Nat → Nat → α} {k i : Nat} {a : α} (h : f k i = a) : up2 f k i a = f := by
  funext x y
  by_cases z : x = k ∧ y = i
  · rw [z.1, z.2, up2_self, h]
  · rw [up2_ne _ _ z]
set_option maxHeartbeats 4000000 in
set_option maxRecDepth 100000 in
theorem cq_add (l : Launch) (D : va_G) (A : Nat → Prop) (cs : Nat → ClassId) (ad : Nat → Nat → Nat) (dm : Nat → Nat → Prop) (w : CF) (j z e9 : Nat) (x : Int32) (f : Nat → Int32) (h19 : dm 19 j) (hw19 : w 19 j = .inr (2, [.ref (ad 20 j), .int (nI z)])) (h20 : dm 20 j) (hw20 : w 20 j = .inl (cs 0, e9, .inl f)) (hz : z < e9) (he : e9 ≤ 1000) : Met l yX2_add wsX2_add ({ frames := 0, cells := 0, slots := 0, locals := 0 }) (va_Pc [.ref (ad 19 j), .int x] (PW D A (tysG cs) ad dm w)) (QW D A (tysG cs) (fun rz ad1 dm1 w1 => rz = none ∧ ad = ad1 ∧ dm = dm1 ∧ w1 = up2 (up2 w 20 j (.inl (cs 0, e9, .inl (upd f z x)))) 19 j (.inr (2, [.ref (ad 20 j), .int (nI (z + 1))])))) 0 0 A := by
  refine g_start (own := RX2) [.ref (ad 19 j), .int x] (cc := cX2_add) (maxL := 2) (ret := none) (lv0 := [(0, .ref (ad 19 j)), (1, .int x)]) (by decide) rfl rfl (Nat.le_of_ble_eq_true rfl) rfl ?_
  intro p e s m below meth c F hr hlocks hname
  have hin : ∀ w ∈ wsX20, w ∈ wsX2_add := by decide +kernel
  refine g_aload_n F 0 dX2_add_0 rfl rfl ?_
  refine g_getf (k := 19) (i := j) (ci := 2) (C := RX2) (T := TX2) (N := 2) (fs := [.ref (ad 20 j), .int (nI z)]) (fk := 1) (v := .int (nI z)) F hin h19 hw19 rfl (by decide) (by decide +kernel) rfl rfl dX2_add_1 ?_
  refine g_aload_n F 0 dX2_add_4 rfl rfl ?_
  refine g_getf (k := 19) (i := j) (ci := 2) (C := RX2) (T := TX2) (N := 2) (fs := [.ref (ad 20 j), .int (nI z)]) (fk := 0) (v := .ref (ad 20 j)) F hin h19 hw19 rfl (by decide) (by decide +kernel) rfl rfl dX2_add_5 ?_
  refine g_alen (t0 := 0) (k := 20) (i := j) (v := nI e9) F h20 hw20 rfl rfl dX2_add_8 ?_
  refine g_icmp_ge F (tgt := 32) dX2_add_9 (by decide) (fun h => absurd ((nI_leI (by omega) (by omega)).mp h) (by omega)) (fun _ => ?_)
  refine g_aload_n F 0 dX2_add_12 rfl rfl ?_
  refine g_getf (k := 19) (i := j) (ci := 2) (C := RX2) (T := TX2) (N := 2) (fs := [.ref (ad 20 j), .int (nI z)]) (fk := 0) (v := .ref (ad 20 j)) F hin h19 hw19 rfl (by decide) (by decide +kernel) rfl rfl dX2_add_13 ?_
  refine g_aload_n F 0 dX2_add_16 rfl rfl ?_
  refine g_getf (k := 19) (i := j) (ci := 2) (C := RX2) (T := TX2) (N := 2) (fs := [.ref (ad 20 j), .int (nI z)]) (fk := 1) (v := .int (nI z)) F hin h19 hw19 rfl (by decide) (by decide +kernel) rfl rfl dX2_add_17 ?_
  refine g_iload_n F 1 dX2_add_20 rfl rfl ?_
  refine ca_iast (k := 20) (i := j) (n := e9) (j := z) (f := f) F h20 hw20 rfl ⟨hz, by omega⟩ dX2_add_21 ?_
  refine g_aload_n F 0 dX2_add_22 rfl rfl ?_
  refine g_dup F dX2_add_23 rfl ?_
  refine g_getf (k := 19) (i := j) (ci := 2) (C := RX2) (T := TX2) (N := 2) (fs := [.ref (ad 20 j), .int (nI z)]) (fk := 1) (v := .int (nI z)) F hin h19 ((up2_k (by decide) _).trans hw19) rfl (by decide) (by decide +kernel) rfl rfl dX2_add_24 ?_
  refine g_iconst F dX2_add_27 (v := 1) (by decide) ?_
  refine g_iadd F dX2_add_28 ?_
  refine g_top (y := nI (z + 1)) (nI_1 z).symm ?_
  refine g_putf (k := 19) (i := j) (ci := 2) (C := RX2) (T := TX2) (N := 2) (fs := [.ref (ad 20 j), .int (nI z)]) (fk := 1) (v := .int (nI (z + 1))) (ty := .int) (tf := tyX2) F hin tyX2_ok nmX2 h19 ((up2_k (by decide) _).trans hw19) rfl (by decide) (by decide +kernel) rfl rfl (by decide +kernel) rfl rfl (show 1 < 2 by decide) dX2_add_29 ?_
  exact g_qv F hr hlocks (fun _ h => h) ⟨rfl, rfl, rfl, rfl⟩ (by decide) (by decide) dX2_add_32
set_option maxHeartbeats 4000000 in
set_option maxRecDepth 100000 in
theorem ci_ac (l : Launch) (D : va_G) (A : Nat → Prop) (cs : Nat → ClassId) (ad : Nat → Nat → Nat) (dm : Nat → Nat → Prop) (w : CF) (a : Nat) : Met l yJxa1e45_init_da8c8 wsJxa1e45_init_da8c8 ({ frames := 1, cells := 0, slots := 0, locals := 20 }) (va_Pc [.ref a] (PW D A (tysG cs) ad dm w)) (QW D A (tysG cs) (fun rz ad1 dm1 w1 => rz = none ∧ ad = ad1 ∧ dm = dm1 ∧ w = w1)) 0 0 A := by
  refine g_start (own := RJxa1e45) [.ref a] (cc := cJxa1e45_init_da8c8) (maxL := 1) (ret := none) (lv0 := [(0, .ref a)]) (by decide) rfl rfl (Nat.le_of_ble_eq_true rfl) rfl ?_
  intro p e s m below meth c F hr hlocks hname
  refine g_aload_n F 0 dJxa1e45_init_da8c8_0 rfl rfl ?_
  refine g_obj F (by decide +kernel) (by decide +kernel) (List.mem_cons_of_mem _ (List.mem_of_getElem? (i := 2) rfl)) (Nat.le_of_ble_eq_true rfl) (Nat.le_of_ble_eq_true rfl) dJxa1e45_init_da8c8_1 ?_
  exact g_qv F hr hlocks (fun _ h => h) ⟨rfl, rfl, rfl, rfl⟩ (by decide) (by decide) dJxa1e45_init_da8c8_4
set_option maxHeartbeats 4000000 in
set_option maxRecDepth 100000 in
theorem ci_abl (l : Launch) (D : va_G) (A : Nat → Prop) (cs : Nat → ClassId) (ad : Nat → Nat → Nat) (dm : Nat → Nat → Prop) (w : CF) (i : Nat) (h15 : dm 15 i) (hw15 : w 15 i = .inr (0, [.int 0, .null, .int 0])) : Met l yJxc12de_init_da8c8 wsJxc12de_init_da8c8 ({ frames := 2, cells := 0, slots := 0, locals := 60 }) (va_Pc [.ref (ad 15 i)] (PW D A (tysG cs) ad dm w)) (QW D A (tysG cs) (fun rz ad1 dm1 w1 => rz = none ∧ ad = ad1 ∧ dm = dm1 ∧ up2 w 15 i (.inr (0, [.int 0, .null, .int 0])) = w1)) 0 0 A := by
  refine g_start (own := RJxc12de) [.ref (ad 15 i)] (cc := cJxc12de_init_da8c8) (maxL := 1) (ret := none) (lv0 := [(0, .ref (ad 15 i))]) (by decide) rfl rfl (Nat.le_of_ble_eq_true rfl) rfl ?_
  intro p e s m below meth c F hr hlocks hname
  have hin : ∀ w ∈ wsJx4a65c0, w ∈ wsJxc12de_init_da8c8 := by decide +kernel
  refine g_aload_n F 0 dJxc12de_init_da8c8_0 rfl rfl ?_
  refine q_callI F (ret := none) (rest := []) (b := ad 15 i) [] (ci_ac l D A cs ad dm w (ad 15 i)) (n_cwI 0 F.1.2.2.2.2 gJxc12de_init_da8c8_Jxa1e45_init_da8c8 rfl rfl rfl (by decide +kernel) (by decide +kernel) (by decide +kernel) rfl (by decide +kernel) ⟨Nat.le_of_ble_eq_true rfl, Nat.le_of_ble_eq_true rfl⟩) rfl rfl (Nat.le_of_ble_eq_true rfl) dJxc12de_init_da8c8_1 ⟨Nat.le_of_ble_eq_true rfl, Nat.le_of_ble_eq_true rfl⟩ (fun _ _ _ _ hv => ?_)
  obtain ⟨rfl, rfl, rfl, rfl⟩ := hv
  show GG p l e _ s m _ below meth c D A ad dm _ _ _ _ w 4 _ []
  refine g_aload_n F 0 dJxc12de_init_da8c8_4 rfl rfl ?_
  refine g_iconst F dJxc12de_init_da8c8_5 (v := 0) (by decide) ?_
  refine g_putf (k := 15) (i := i) (ci := 0) (C := RJx4a65c) (T := TJx4a65c) (N := 3) (fs := [.int 0, .null, .int 0]) (fk := 0) (v := .int 0) (ty := .int) (tf := tyJx4a65c) F hin tyJx4a65c_ok nmJx4a65c h15 hw15 rfl (by decide) (by decide +kernel) rfl rfl (by decide +kernel) rfl rfl (show 0 < 3 by decide) dJxc12de_init_da8c8_6 ?_
  exact g_qv F hr hlocks (fun _ h => h) ⟨rfl, rfl, rfl, rfl⟩ (by decide) (by decide) dJxc12de_init_da8c8_9
set_option maxHeartbeats 4000000 in
set_option maxRecDepth 100000 in
theorem ci_list (l : Launch) (D : va_G) (A : Nat → Prop) (cs : Nat → ClassId) (ad : Nat → Nat → Nat) (dm : Nat → Nat → Prop) (w : CF) (i : Nat) (h15 : dm 15 i) (hw15 : w 15 i = .inr (0, [.int 0, .null, .int 0])) : Met l yJx4a65c_init_da8c8 wsJx4a65c_init_da8c8 ({ frames := 3, cells := 0, slots := 0, locals := 100 }) (va_Pc [.ref (ad 15 i)] (PW D A (tysG cs) ad dm w)) (QW D A (tysG cs) (fun rz ad1 dm1 w1 => rz = none ∧ ad = ad1 ∧ dm = dm1 ∧ up2 w 15 i (.inr (0, [.int 0, .ref (D.2 100 0), .int 0])) = w1)) 0 0 A := by
  refine g_start (own := RJx4a65c) [.ref (ad 15 i)] (cc := cJx4a65c_init_da8c8) (maxL := 1) (ret := none) (lv0 := [(0, .ref (ad 15 i))]) (by decide) rfl rfl (Nat.le_of_ble_eq_true rfl) rfl ?_
  intro p e s m below meth c F hr hlocks hname
  have hin : ∀ w ∈ wsJx4a65c0, w ∈ wsJx4a65c_init_da8c8 := by decide +kernel
  refine g_aload_n F 0 dJx4a65c_init_da8c8_0 rfl rfl ?_
  refine q_callI F (ret := none) (rest := []) (b := ad 15 i) [] (ci_abl l D A cs ad dm w i h15 hw15) (n_cwI 0 F.1.2.2.2.2 gJx4a65c_init_da8c8_Jxc12de_init_da8c8 rfl rfl rfl (by decide +kernel) (by decide +kernel) (by decide +kernel) rfl (by decide +kernel) ⟨Nat.le_of_ble_eq_true rfl, Nat.le_of_ble_eq_true rfl⟩) rfl rfl (Nat.le_of_ble_eq_true rfl) dJx4a65c_init_da8c8_1 ⟨Nat.le_of_ble_eq_true rfl, Nat.le_of_ble_eq_true rfl⟩ (fun _ _ _ _ hv => ?_)
  obtain ⟨rfl, rfl, rfl, rfl⟩ := hv
  show GG p l e _ s m _ below meth c D A ad dm _ _ _ _ (up2 w 15 i (.inr (0, [.int 0, .null, .int 0]))) 4 _ []
  refine g_aload_n F 0 dJx4a65c_init_da8c8_4 rfl rfl ?_
  refine g_getsE F (by decide +kernel) dJx4a65c_init_da8c8_5 ?_
  refine g_putf (k := 15) (i := i) (ci := 0) (C := RJx4a65c) (T := TJx4a65c) (N := 3) (fs := [.int 0, .null, .int 0]) (fk := 1) (v := .ref (D.2 100 0)) (ty := .array (.object "java/lang/Object")) (tf := tyJx4a65c) F hin tyJx4a65c_ok nmJx4a65c h15 (up2_self _ _ _ _) rfl (by decide) (by decide +kernel) rfl rfl (by decide +kernel) rfl rfl (show 1 < 3 by decide) dJx4a65c_init_da8c8_8 ?_
  refine g_w (w1 := (up2 w 15 i (.inr (0, [.int 0, .ref (D.2 100 0), .int 0])))) (up2_2 _ _ _ _ _).symm ?_
  exact g_qv F hr hlocks (fun _ h => h) ⟨rfl, rfl, rfl, rfl⟩ (by decide) (by decide) dJx4a65c_init_da8c8_11
set_option maxHeartbeats 4000000 in
set_option maxRecDepth 100000 in
theorem ci_rec (l : Launch) (D : va_G) (A : Nat → Prop) (cs : Nat → ClassId) (ad : Nat → Nat → Nat) (dm : Nat → Nat → Prop) (w : CF) (r i : Nat) (h14 : dm 14 r) (hw14 : w 14 r = .inr (4, [.int 0, .int 0, .int 0, .int 0, .null])) (hn15 : ¬ dm 15 i) : Met l yX4_init wsX4_init ({ frames := 4, cells := 1, slots := 3, locals := 140 }) (va_Pc [.ref (ad 14 r)] (PW D A (tysG cs) ad dm w)) (QW D A (tysG cs) (fun rz ad1 dm1 w1 => ∃ q15, rz = none ∧ ad1 = (up2 ad 15 i q15) ∧ dm1 = (fun a b => dm a b ∨ (a = 15 ∧ b = i)) ∧ w1 = (up2 (up2 w 14 r (.inr (4, [.int 0, .int 10, .int 0, .int 0, .ref q15]))) 15 i (.inr (0, [.int 0, .ref (D.2 100 0), .int 0]))))) 1 3 A := by
  refine g_start (own := RX4) [.ref (ad 14 r)] (cc := cX4_init) (maxL := 1) (ret := none) (lv0 := [(0, .ref (ad 14 r))]) (by decide) rfl rfl (Nat.le_of_ble_eq_true rfl) rfl ?_
  intro p e s m below meth c F hr hlocks hname
  have hinJx4a65c : ∀ w ∈ wsJx4a65c0, w ∈ wsX4_init := by decide +kernel
  have hinX4 : ∀ w ∈ wsX40, w ∈ wsX4_init := by decide +kernel
  refine g_aload_n F 0 dX4_init_0 rfl rfl ?_
  refine g_obj F (by decide +kernel) (by decide +kernel) (List.mem_cons_of_mem _ (List.mem_append_left _ (List.mem_append_left _ (List.mem_append_left _ (List.mem_of_getElem? (i := 2) rfl))))) (Nat.le_of_ble_eq_true rfl) (Nat.le_of_ble_eq_true rfl) dX4_init_1 ?_
  refine g_aload_n F 0 dX4_init_4 rfl rfl ?_
  refine g_iconst F dX4_init_5 (v := 0) (by decide) ?_
  refine g_putf (k := 14) (i := r) (ci := 4) (C := RX4) (T := TX4) (N := 5) (fs := [.int 0, .int 0, .int 0, .int 0, .null]) (fk := 0) (v := .int 0) (ty := .int) (tf := tyX4) F hinX4 tyX4_ok nmX4 h14 hw14 rfl (by decide) (by decide +kernel) rfl rfl (by decide +kernel) rfl rfl (show 0 < 5 by decide) dX4_init_6 ?_
  show GG p l e _ s m _ below meth c D A ad dm _ _ _ _ (up2 w 14 r (.inr (4, [.int 0, .int 0, .int 0, .int 0, .null]))) 9 _ []
  refine g_aload_n F 0 dX4_init_9 rfl rfl ?_
  refine g_bipush F dX4_init_10 (v := 10) (by decide) ?_
  refine g_putf (k := 14) (i := r) (ci := 4) (C := RX4) (T := TX4) (N := 5) (fs := [.int 0, .int 0, .int 0, .int 0, .null]) (fk := 1) (v := .int 10) (ty := .int) (tf := tyX4) F hinX4 tyX4_ok nmX4 h14 (up2_self _ _ _ _) rfl (by decide) (by decide +kernel) rfl rfl (by decide +kernel) rfl rfl (show 1 < 5 by decide) dX4_init_12 ?_
  refine g_w (w1 := (up2 w 14 r (.inr (4, [.int 0, .int 10, .int 0, .int 0, .null])))) (up2_2 _ _ _ _ _).symm ?_
  refine g_aload_n F 0 dX4_init_15 rfl rfl ?_
  refine g_iconst F dX4_init_16 (v := 0) (by decide) ?_
  refine g_putf (k := 14) (i := r) (ci := 4) (C := RX4) (T := TX4) (N := 5) (fs := [.int 0, .int 10, .int 0, .int 0, .null]) (fk := 2) (v := .int 0) (ty := .int) (tf := tyX4) F hinX4 tyX4_ok nmX4 h14 (up2_self _ _ _ _) rfl (by decide) (by decide +kernel) rfl rfl (by decide +kernel) rfl rfl (show 2 < 5 by decide) dX4_init_17 ?_
  refine g_w (w1 := (up2 w 14 r (.inr (4, [.int 0, .int 10, .int 0, .int 0, .null])))) (up2_2 _ _ _ _ _).symm ?_
  refine g_aload_n F 0 dX4_init_20 rfl rfl ?_
  refine g_iconst F dX4_init_21 (v := 0) (by decide) ?_
  refine g_putf (k := 14) (i := r) (ci := 4) (C := RX4) (T := TX4) (N := 5) (fs := [.int 0, .int 10, .int 0, .int 0, .null]) (fk := 3) (v := .int 0) (ty := .int) (tf := tyX4) F hinX4 tyX4_ok nmX4 h14 (up2_self _ _ _ _) rfl (by decide) (by decide +kernel) rfl rfl (by decide +kernel) rfl rfl (show 3 < 5 by decide) dX4_init_22 ?_
  refine g_w (w1 := (up2 w 14 r (.inr (4, [.int 0, .int 10, .int 0, .int 0, .null])))) (up2_2 _ _ _ _ _).symm ?_
  refine g_aload_n F 0 dX4_init_25 rfl rfl ?_
  refine g_new (ci := 0) (C := RJx4a65c) (T := TJx4a65c) (N := 3) (tf := tyJx4a65c) (fs := [.int 0, .null, .int 0]) F 15 i hn15 hinJx4a65c tyJx4a65c_ok (by decide +kernel) (by decide +kernel) (by decide +kernel) rfl (fun j hj => by rcases (show j = 0 ∨ j = 1 ∨ j = 2 by omega) with rfl | rfl | rfl <;> rfl) (Nat.le_of_ble_eq_true rfl) (Nat.le_of_ble_eq_true rfl) dX4_init_26 (fun q15 => ?_)
  refine g_dup F dX4_init_29 rfl ?_
  refine g_st (st1 := [.ref ((up2 ad 15 i q15) 15 i), .ref q15, .ref (ad 14 r)]) (by rw [up2_self]) ?_
  refine q_callI F (ret := none) (rest := [.ref q15, .ref (ad 14 r)]) (b := (up2 ad 15 i q15) 15 i) [] (ci_list l D A cs (up2 ad 15 i q15) (fun a b => dm a b ∨ (a = 15 ∧ b = i)) (up2 (up2 w 14 r (.inr (4, [.int 0, .int 10, .int 0, .int 0, .null]))) 15 i (.inr (0, [.int 0, .null, .int 0]))) i (.inr ⟨rfl, rfl⟩) (up2_self _ _ _ _)) (n_cwI 0 F.1.2.2.2.2 gX4_init_Jx4a65c_init_da8c8 rfl rfl rfl (by decide +kernel) (by decide +kernel) (by decide +kernel) rfl (by decide +kernel) ⟨Nat.le_of_ble_eq_true rfl, Nat.le_of_ble_eq_true rfl⟩) rfl rfl (Nat.le_of_ble_eq_true rfl) dX4_init_30 ⟨Nat.le_of_ble_eq_true rfl, Nat.le_of_ble_eq_true rfl⟩ (fun _ _ _ _ hv => ?_)
  obtain ⟨rfl, rfl, rfl, rfl⟩ := hv
  refine g_w (w1 := (up2 (up2 w 14 r (.inr (4, [.int 0, .int 10, .int 0, .int 0, .null]))) 15 i (.inr (0, [.int 0, .ref (D.2 100 0), .int 0])))) (up2_2 _ _ _ _ _).symm ?_
  show GG p l e _ s m _ below meth c D A (up2 ad 15 i q15) (fun a b => dm a b ∨ (a = 15 ∧ b = i)) _ _ _ _ (up2 (up2 w 14 r (.inr (4, [.int 0, .int 10, .int 0, .int 0, .null]))) 15 i (.inr (0, [.int 0, .ref (D.2 100 0), .int 0]))) 33 _ [.ref q15, .ref (ad 14 r)]
  refine g_st (st1 := [.ref q15, .ref ((up2 ad 15 i q15) 14 r)]) (by rw [up2_k (by decide)]) ?_
  refine g_putF (k := 14) (i := r) (ci := 4) (C := RX4) (T := TX4) (N := 5) (fs := [.int 0, .int 10, .int 0, .int 0, .null]) (fk := 4) (v := .ref q15) (ty := .object "java/util/ArrayList") (tf := tyX4) F hinX4 tyX4_ok nmX4 (.inl h14) ((up2_k (by decide) _).trans (up2_self _ _ _ _)) rfl (by decide) (by decide +kernel) rfl rfl hname rfl (by decide +kernel) rfl rfl (show 4 < 5 by decide) dX4_init_33 ?_
  refine g_w (w1 := (up2 (up2 w 14 r (.inr (4, [.int 0, .int 10, .int 0, .int 0, .ref q15]))) 15 i (.inr (0, [.int 0, .ref (D.2 100 0), .int 0])))) ((up2_cm _ _ _ (show 15 ≠ 14 by decide)).trans (congrArg (fun z : CF => up2 z 15 i (.inr (0, [.int 0, .ref (D.2 100 0), .int 0]))) (up2_2 _ _ _ _ _))).symm ?_
  exact g_qv F hr hlocks (fun _ h => h) ⟨q15, rfl, rfl, rfl, rfl⟩ (by decide) (by decide) dX4_init_36
set_option maxHeartbeats 4000000 in
set_option maxRecDepth 100000 in
theorem ci_acc (l : Launch) (D : va_G) (A : Nat → Prop) (cs : Nat → ClassId) (ad : Nat → Nat → Nat) (dm : Nat → Nat → Prop) (w : CF) (a t i : Nat) (h13 : dm 13 a) (hw13 : w 13 a = .inr (1, [.null, .int 0, .int 0, .int 0, .int 0, .int 0, .null])) (hn21 : ¬ dm 21 t) (hn15 : ¬ dm 15 i) : Met l yX0_init wsX0_init ({ frames := 4, cells := 2, slots := 4, locals := 140 }) (va_Pc [.ref (ad 13 a)] (PW D A (tysG cs) ad dm w)) (QW D A (tysG cs) (fun rz ad1 dm1 w1 => ∃ q21 q15, rz = none ∧ ad1 = (up2 (up2 ad 21 t q21) 15 i q15) ∧ dm1 = (fun a b => (fun a b => dm a b ∨ (a = 21 ∧ b = t)) a b ∨ (a = 15 ∧ b = i)) ∧ w1 = (up2 (up2 (up2 w 21 t (.inl (cs 0, 1, .inl (upd (fun _ => 0) 0 1)))) 13 a (.inr (1, [.ref q21, .int 0, .int (-1), .int 0, .int 20, .int 10, .ref q15]))) 15 i (.inr (0, [.int 0, .ref (D.2 100 0), .int 0]))))) 2 4 A := by
  refine g_start (own := RX0) [.ref (ad 13 a)] (cc := cX0_init) (maxL := 1) (ret := none) (lv0 := [(0, .ref (ad 13 a))]) (by decide) rfl rfl (Nat.le_of_ble_eq_true rfl) rfl ?_
  intro p e s m below meth c F hr hlocks hname
  have hinJx4a65c : ∀ w ∈ wsJx4a65c0, w ∈ wsX0_init := by decide +kernel
  have hinX0 : ∀ w ∈ wsX00, w ∈ wsX0_init := by decide +kernel
  refine g_aload_n F 0 dX0_init_0 rfl rfl ?_
  refine g_obj F (by decide +kernel) (by decide +kernel) (List.mem_cons_of_mem _ (List.mem_append_left _ (List.mem_append_left _ (List.mem_append_left _ (List.mem_of_getElem? (i := 2) rfl))))) (Nat.le_of_ble_eq_true rfl) (Nat.le_of_ble_eq_true rfl) dX0_init_1 ?_
  refine g_aload_n F 0 dX0_init_4 rfl rfl ?_
  refine g_iconst F dX0_init_5 (v := 1) (by decide) ?_
  refine g_newi (N' := 1) F 21 t 0 hn21 rfl (by decide +kernel) rfl (by decide) (Nat.le_of_ble_eq_true rfl) (Nat.le_of_ble_eq_true rfl) dX0_init_6 (fun q21 => ?_)
  refine g_dup F dX0_init_8 rfl ?_
  refine g_iconst F dX0_init_9 (v := 0) (by decide) ?_
  refine g_iconst F dX0_init_10 (v := 1) (by decide) ?_
  refine g_st (st1 := [.int 1, .int 0, .ref ((up2 ad 21 t q21) 21 t), .ref q21, .ref (ad 13 a)]) (by rw [up2_self]) ?_
  refine g_st (st1 := [.int 1, .int (nI 0), .ref ((up2 ad 21 t q21) 21 t), .ref q21, .ref (ad 13 a)]) rfl ?_
  refine ca_iast (k := 21) (i := t) (n := 1) (j := 0) (f := fun _ => 0) F (.inr ⟨rfl, rfl⟩) (up2_self _ _ _ _) rfl ⟨by decide, by decide⟩ dX0_init_11 ?_
  refine g_w (w1 := (up2 w 21 t (.inl (cs 0, 1, .inl (upd (fun _ => 0) 0 1))))) (up2_2 _ _ _ _ _).symm ?_
  refine g_st (st1 := [.ref q21, .ref ((up2 ad 21 t q21) 13 a)]) (by rw [up2_k (by decide)]) ?_
  refine g_putf (k := 13) (i := a) (ci := 1) (C := RX0) (T := TX0) (N := 7) (fs := [.null, .int 0, .int 0, .int 0, .int 0, .int 0, .null]) (fk := 0) (v := .ref q21) (ty := .array .int) (tf := tyX0) F hinX0 tyX0_ok nmX0 (.inl h13) ((up2_k (by decide) _).trans hw13) rfl (by decide) (by decide +kernel) rfl rfl (by decide +kernel) rfl rfl (show 0 < 7 by decide) dX0_init_12 ?_
  show GG p l e _ s m _ below meth c D A (up2 ad 21 t q21) (fun a b => dm a b ∨ (a = 21 ∧ b = t)) _ _ _ _ (up2 (up2 w 21 t (.inl (cs 0, 1, .inl (upd (fun _ => 0) 0 1)))) 13 a (.inr (1, [.ref q21, .int 0, .int 0, .int 0, .int 0, .int 0, .null]))) 15 _ []
  refine g_aload_n F 0 dX0_init_15 rfl rfl ?_
  refine g_iconst F dX0_init_16 (v := 0) (by decide) ?_
  refine g_st (st1 := [.int 0, .ref ((up2 ad 21 t q21) 13 a)]) (by rw [up2_k (by decide)]) ?_
  refine g_putf (k := 13) (i := a) (ci := 1) (C := RX0) (T := TX0) (N := 7) (fs := [.ref q21, .int 0, .int 0, .int 0, .int 0, .int 0, .null]) (fk := 1) (v := .int 0) (ty := .int) (tf := tyX0) F hinX0 tyX0_ok nmX0 (.inl h13) (up2_self _ _ _ _) rfl (by decide) (by decide +kernel) rfl rfl (by decide +kernel) rfl rfl (show 1 < 7 by decide) dX0_init_17 ?_
  refine g_w (w1 := (up2 (up2 w 21 t (.inl (cs 0, 1, .inl (upd (fun _ => 0) 0 1)))) 13 a (.inr (1, [.ref q21, .int 0, .int 0, .int 0, .int 0, .int 0, .null])))) (up2_2 _ _ _ _ _).symm ?_
  refine g_aload_n F 0 dX0_init_20 rfl rfl ?_
  refine g_iconst F dX0_init_21 (v := (-1)) (by decide) ?_
  refine g_st (st1 := [.int (-1), .ref ((up2 ad 21 t q21) 13 a)]) (by rw [up2_k (by decide)]) ?_
  refine g_putf (k := 13) (i := a) (ci := 1) (C := RX0) (T := TX0) (N := 7) (fs := [.ref q21, .int 0, .int 0, .int 0, .int 0, .int 0, .null]) (fk := 2) (v := .int (-1)) (ty := .int) (tf := tyX0) F hinX0 tyX0_ok nmX0 (.inl h13) (up2_self _ _ _ _) rfl (by decide) (by decide +kernel) rfl rfl (by decide +kernel) rfl rfl (show 2 < 7 by decide) dX0_init_22 ?_
  refine g_w (w1 := (up2 (up2 w 21 t (.inl (cs 0, 1, .inl (upd (fun _ => 0) 0 1)))) 13 a (.inr (1, [.ref q21, .int 0, .int (-1), .int 0, .int 0, .int 0, .null])))) (up2_2 _ _ _ _ _).symm ?_
  refine g_aload_n F 0 dX0_init_25 rfl rfl ?_
  refine g_iconst F dX0_init_26 (v := 0) (by decide) ?_
  refine g_st (st1 := [.int 0, .ref ((up2 ad 21 t q21) 13 a)]) (by rw [up2_k (by decide)]) ?_
  refine g_putf (k := 13) (i := a) (ci := 1) (C := RX0) (T := TX0) (N := 7) (fs := [.ref q21, .int 0, .int (-1), .int 0, .int 0, .int 0, .null]) (fk := 3) (v := .int 0) (ty := .boolean) (tf := tyX0) F hinX0 tyX0_ok nmX0 (.inl h13) (up2_self _ _ _ _) rfl (by decide) (by decide +kernel) rfl rfl (by decide +kernel) rfl rfl (show 3 < 7 by decide) dX0_init_27 ?_
  refine g_w (w1 := (up2 (up2 w 21 t (.inl (cs 0, 1, .inl (upd (fun _ => 0) 0 1)))) 13 a (.inr (1, [.ref q21, .int 0, .int (-1), .int 0, .int 0, .int 0, .null])))) (up2_2 _ _ _ _ _).symm ?_
  refine g_aload_n F 0 dX0_init_30 rfl rfl ?_
  refine g_bipush F dX0_init_31 (v := 20) (by decide) ?_
  refine g_st (st1 := [.int 20, .ref ((up2 ad 21 t q21) 13 a)]) (by rw [up2_k (by decide)]) ?_
  refine g_putf (k := 13) (i := a) (ci := 1) (C := RX0) (T := TX0) (N := 7) (fs := [.ref q21, .int 0, .int (-1), .int 0, .int 0, .int 0, .null]) (fk := 4) (v := .int 20) (ty := .int) (tf := tyX0) F hinX0 tyX0_ok nmX0 (.inl h13) (up2_self _ _ _ _) rfl (by decide) (by decide +kernel) rfl rfl (by decide +kernel) rfl rfl (show 4 < 7 by decide) dX0_init_33 ?_
  refine g_w (w1 := (up2 (up2 w 21 t (.inl (cs 0, 1, .inl (upd (fun _ => 0) 0 1)))) 13 a (.inr (1, [.ref q21, .int 0, .int (-1), .int 0, .int 20, .int 0, .null])))) (up2_2 _ _ _ _ _).symm ?_
  refine g_aload_n F 0 dX0_init_36 rfl rfl ?_
  refine g_bipush F dX0_init_37 (v := 10) (by decide) ?_
  refine g_st (st1 := [.int 10, .ref ((up2 ad 21 t q21) 13 a)]) (by rw [up2_k (by decide)]) ?_
  refine g_putf (k := 13) (i := a) (ci := 1) (C := RX0) (T := TX0) (N := 7) (fs := [.ref q21, .int 0, .int (-1), .int 0, .int 20, .int 0, .null]) (fk := 5) (v := .int 10) (ty := .int) (tf := tyX0) F hinX0 tyX0_ok nmX0 (.inl h13) (up2_self _ _ _ _) rfl (by decide) (by decide +kernel) rfl rfl (by decide +kernel) rfl rfl (show 5 < 7 by decide) dX0_init_39 ?_
  refine g_w (w1 := (up2 (up2 w 21 t (.inl (cs 0, 1, .inl (upd (fun _ => 0) 0 1)))) 13 a (.inr (1, [.ref q21, .int 0, .int (-1), .int 0, .int 20, .int 10, .null])))) (up2_2 _ _ _ _ _).symm ?_
  refine g_aload_n F 0 dX0_init_42 rfl rfl ?_
  refine g_new (ci := 0) (C := RJx4a65c) (T := TJx4a65c) (N := 3) (tf := tyJx4a65c) (fs := [.int 0, .null, .int 0]) F 15 i (fun z => z.elim hn15 (fun y => absurd y.1 (by decide))) hinJx4a65c tyJx4a65c_ok (by decide +kernel) (by decide +kernel) (by decide +kernel) rfl (fun j hj => by rcases (show j = 0 ∨ j = 1 ∨ j = 2 by omega) with rfl | rfl | rfl <;> rfl) (Nat.le_of_ble_eq_true rfl) (Nat.le_of_ble_eq_true rfl) dX0_init_43 (fun q15 => ?_)
  refine g_dup F dX0_init_46 rfl ?_
  refine g_st (st1 := [.ref ((up2 (up2 ad 21 t q21) 15 i q15) 15 i), .ref q15, .ref (ad 13 a)]) (by rw [up2_self]) ?_
  refine q_callI F (ret := none) (rest := [.ref q15, .ref (ad 13 a)]) (b := (up2 (up2 ad 21 t q21) 15 i q15) 15 i) [] (ci_list l D A cs (up2 (up2 ad 21 t q21) 15 i q15) (fun a b => (fun a b => dm a b ∨ (a = 21 ∧ b = t)) a b ∨ (a = 15 ∧ b = i)) (up2 (up2 (up2 w 21 t (.inl (cs 0, 1, .inl (upd (fun _ => 0) 0 1)))) 13 a (.inr (1, [.ref q21, .int 0, .int (-1), .int 0, .int 20, .int 10, .null]))) 15 i (.inr (0, [.int 0, .null, .int 0]))) i (.inr ⟨rfl, rfl⟩) (up2_self _ _ _ _)) (n_cwI 0 F.1.2.2.2.2 gX0_init_Jx4a65c_init_da8c8 rfl rfl rfl (by decide +kernel) (by decide +kernel) (by decide +kernel) rfl (by decide +kernel) ⟨Nat.le_of_ble_eq_true rfl, Nat.le_of_ble_eq_true rfl⟩) rfl rfl (Nat.le_of_ble_eq_true rfl) dX0_init_47 ⟨Nat.le_of_ble_eq_true rfl, Nat.le_of_ble_eq_true rfl⟩ (fun _ _ _ _ hv => ?_)
  obtain ⟨rfl, rfl, rfl, rfl⟩ := hv
  refine g_w (w1 := (up2 (up2 (up2 w 21 t (.inl (cs 0, 1, .inl (upd (fun _ => 0) 0 1)))) 13 a (.inr (1, [.ref q21, .int 0, .int (-1), .int 0, .int 20, .int 10, .null]))) 15 i (.inr (0, [.int 0, .ref (D.2 100 0), .int 0])))) (up2_2 _ _ _ _ _).symm ?_
  show GG p l e _ s m _ below meth c D A (up2 (up2 ad 21 t q21) 15 i q15) (fun a b => (fun a b => dm a b ∨ (a = 21 ∧ b = t)) a b ∨ (a = 15 ∧ b = i)) _ _ _ _ (up2 (up2 (up2 w 21 t (.inl (cs 0, 1, .inl (upd (fun _ => 0) 0 1)))) 13 a (.inr (1, [.ref q21, .int 0, .int (-1), .int 0, .int 20, .int 10, .null]))) 15 i (.inr (0, [.int 0, .ref (D.2 100 0), .int 0]))) 50 _ [.ref q15, .ref (ad 13 a)]
  refine g_st (st1 := [.ref q15, .ref ((up2 (up2 ad 21 t q21) 15 i q15) 13 a)]) (by rw [up2_k (by decide), up2_k (by decide)]) ?_
  refine g_putF (k := 13) (i := a) (ci := 1) (C := RX0) (T := TX0) (N := 7) (fs := [.ref q21, .int 0, .int (-1), .int 0, .int 20, .int 10, .null]) (fk := 6) (v := .ref q15) (ty := .object "java/util/ArrayList") (tf := tyX0) F hinX0 tyX0_ok nmX0 (.inl (.inl h13)) ((up2_k (by decide) _).trans (up2_self _ _ _ _)) rfl (by decide) (by decide +kernel) rfl rfl hname rfl (by decide +kernel) rfl rfl (show 6 < 7 by decide) dX0_init_50 ?_
  refine g_w (w1 := (up2 (up2 (up2 w 21 t (.inl (cs 0, 1, .inl (upd (fun _ => 0) 0 1)))) 13 a (.inr (1, [.ref q21, .int 0, .int (-1), .int 0, .int 20, .int 10, .ref q15]))) 15 i (.inr (0, [.int 0, .ref (D.2 100 0), .int 0])))) ((up2_cm _ _ _ (show 15 ≠ 13 by decide)).trans (congrArg (fun z : CF => up2 z 15 i (.inr (0, [.int 0, .ref (D.2 100 0), .int 0]))) (up2_2 _ _ _ _ _))).symm ?_
  exact g_qv F hr hlocks (fun _ h => h) ⟨q21, q15, rfl, rfl, rfl, rfl⟩ (by decide) (by decide) dX0_init_53
set_option maxHeartbeats 4000000 in
set_option maxRecDepth 100000 in
theorem ci_log (l : Launch) (D : va_G) (A : Nat → Prop) (cs : Nat → ClassId) (ad : Nat → Nat → Nat) (dm : Nat → Nat → Prop) (w : CF) (j vl : Nat) (h19 : dm 19 j) (hw19 : w 19 j = .inr (2, [.null, .int 0])) (hn20 : ¬ dm 20 j) (hvl : vl ≤ 600) : Met l yX2_init wsX2_init ({ frames := 2, cells := 1, slots := 601, locals := 60 }) (va_Pc [.ref (ad 19 j), .int (nI (vl + 1))] (PW D A (tysG cs) ad dm w)) (QW D A (tysG cs) (fun rz ad1 dm1 w1 => ∃ q20, rz = none ∧ ad1 = (up2 ad 20 j q20) ∧ dm1 = (fun a b => dm a b ∨ (a = 20 ∧ b = j)) ∧ w1 = (up2 (up2 w 19 j (.inr (2, [.ref q20, .int 1]))) 20 j (.inl (cs 0, vl + 1, .inl (fun _ => 0)))))) 1 601 A := by
  refine g_start (own := RX2) [.ref (ad 19 j), .int (nI (vl + 1))] (cc := cX2_init) (maxL := 2) (ret := none) (lv0 := [(0, .ref (ad 19 j)), (1, .int (nI (vl + 1)))]) (by decide) rfl rfl (Nat.le_of_ble_eq_true rfl) rfl ?_
  intro p e s m below meth c F hr hlocks hname
  have hinX2 : ∀ w ∈ wsX20, w ∈ wsX2_init := by decide +kernel
  refine g_aload_n F 0 dX2_init_0 rfl rfl ?_
  refine g_obj F (by decide +kernel) (by decide +kernel) (List.mem_cons_of_mem _ (List.mem_append_left _ (List.mem_of_getElem? (i := 2) rfl))) (Nat.le_of_ble_eq_true rfl) (Nat.le_of_ble_eq_true rfl) dX2_init_1 ?_
  refine g_aload_n F 0 dX2_init_4 rfl rfl ?_
  refine g_iconst F dX2_init_5 (v := 0) (by decide) ?_
  refine g_putf (k := 19) (i := j) (ci := 2) (C := RX2) (T := TX2) (N := 2) (fs := [.null, .int 0]) (fk := 1) (v := .int 0) (ty := .int) (tf := tyX2) F hinX2 tyX2_ok nmX2 h19 hw19 rfl (by decide) (by decide +kernel) rfl rfl (by decide +kernel) rfl rfl (show 1 < 2 by decide) dX2_init_6 ?_
  show GG p l e _ s m _ below meth c D A ad dm _ _ _ _ (up2 w 19 j (.inr (2, [.null, .int 0]))) 9 _ []
  refine g_aload_n F 0 dX2_init_9 rfl rfl ?_
  refine g_iload_n F 1 dX2_init_10 rfl rfl ?_
  refine g_if_le F (tgt := 18) dX2_init_11 (by decide) (fun h => absurd ((nI_leE (b := 0) rfl (show (0 : Int32) = nI 0 by decide) (by omega) (by decide)).mp h) (by omega)) (fun _ => ?_)
  refine g_iload_n F 1 dX2_init_14 rfl rfl ?_
  refine g_goto F (tgt := 19) dX2_init_15 (by decide) ?_
  refine g_newi (N' := (vl + 1)) F 20 j 0 hn20 rfl (by decide +kernel) rfl (by omega) (Nat.le_of_ble_eq_true rfl) (by show 0 + (vl + 1) ≤ 601; omega) dX2_init_19 (fun q20 => ?_)
  refine g_st (st1 := [.ref q20, .ref ((up2 ad 20 j q20) 19 j)]) (by rw [up2_k (by decide)]) ?_
  refine g_putF (k := 19) (i := j) (ci := 2) (C := RX2) (T := TX2) (N := 2) (fs := [.null, .int 0]) (fk := 0) (v := .ref q20) (ty := .array .int) (tf := tyX2) F hinX2 tyX2_ok nmX2 (.inl h19) ((up2_k (by decide) _).trans (up2_self _ _ _ _)) rfl (by decide) (by decide +kernel) rfl rfl hname rfl (by decide +kernel) rfl rfl (show 0 < 2 by decide) dX2_init_21 ?_
  refine g_w (w1 := (up2 (up2 w 19 j (.inr (2, [.ref q20, .int 0]))) 20 j (.inl (cs 0, (vl + 1), .inl (fun _ => 0))))) ((up2_cm _ _ _ (show 20 ≠ 19 by decide)).trans (congrArg (fun z : CF => up2 z 20 j (.inl (cs 0, (vl + 1), .inl (fun _ => 0)))) (up2_2 _ _ _ _ _))).symm ?_
  refine g_aload_n F 0 dX2_init_24 rfl rfl ?_
  refine g_iconst F dX2_init_25 (v := 0) (by decide) ?_
  refine g_st (st1 := [.int 0, .ref ((up2 ad 20 j q20) 19 j)]) (by rw [up2_k (by decide)]) ?_
  have e20 : (up2 ad 20 j q20) 20 j = q20 := up2_self _ _ _ _
  refine q_callV F (C := RX2) (k := 19) (i := j) (ci := 2) (T := TX2) (N := 2) (rest := []) [.int 0] (cq_add l D A cs (up2 ad 20 j q20) (fun a b => dm a b ∨ (a = 20 ∧ b = j)) (up2 (up2 w 19 j (.inr (2, [.ref q20, .int 0]))) 20 j (.inl (cs 0, (vl + 1), .inl (fun _ => 0)))) j 0 (vl + 1) 0 (fun _ => 0) (.inl h19) (by rw [e20]; exact ((up2_k (by decide) _).trans (up2_self _ _ _ _))) (.inr ⟨rfl, rfl⟩) (up2_self _ _ _ _) (by omega) (by omega)) (cwV 1 F.1.2.2.2.2 gX2_init_X2_add rfl rfl rfl (by decide +kernel) ⟨Nat.le_of_ble_eq_true rfl, Nat.le_of_ble_eq_true rfl⟩) rfl (.inl h19) ((up2_k (by decide) _).trans (up2_self _ _ _ _)) rfl rfl rfl (Nat.le_of_ble_eq_true rfl) dX2_init_26 ⟨by exact Nat.le_of_ble_eq_true rfl, by show 0 + (vl + 1) + 0 ≤ 601; omega⟩ (fun _ _ _ _ hv => ?_)
  obtain ⟨rfl, rfl, rfl, rfl⟩ := hv
  refine g_w (w1 := (up2 (up2 w 19 j (.inr (2, [.ref q20, .int 1]))) 20 j (.inl (cs 0, vl + 1, .inl (fun _ => 0))))) (by
    rw [e20, show upd (fun _ => (0 : Int32)) 0 0 = (fun _ => 0) from funext (fun x => by unfold upd; split <;> rfl), up2_2 _ 20 j]
    exact (((congrArg (fun z : CF => up2 z 19 j (.inr (2, [.ref q20, .int 1]))) (up2_cm w _ _ (show 19 ≠ 20 by decide))).trans (up2_2 _ _ _ _ _)).trans (up2_cm w _ _ (show 20 ≠ 19 by decide))).symm) ?_
  exact g_qv F hr hlocks (fun _ h => h) ⟨q20, rfl, rfl, rfl, rfl⟩ (by decide) (by show 0 + (vl + 1) + 0 ≤ 601; omega) dX2_init_29
set_option maxHeartbeats 4000000 in
set_option maxRecDepth 100000 in
theorem ci_msg (l : Launch) (D : va_G) (A : Nat → Prop) (cs : Nat → ClassId) (ad : Nat → Nat → Nat) (dm : Nat → Nat → Prop) (w : CF) (n a b x0 x6 vl : Nat) (k4 k5 k6 k7 k8 pr tm : Int32) (h17 : dm 17 n) (hw17 : w 17 n = .inr (3, [.int 0, .null, .null, .null, .int 0, .int 0, .int 0, .int 0, .int 0, .int 0, .null, .null, .int 0, .int 0, .int 0, .int 0])) (h13 : dm 13 a) (hw13 : w 13 a = .inr (1, [.ref x0, .int k4, .int k5, .int k6, .int k7, .int k8, .ref x6])) (hk6 : k6 = bi (k6 = 1)) (hvl : vl ≤ 500) (hn18 : ¬ dm 18 n) (hn19 : ¬ dm 19 n) (hn20 : ¬ dm 20 n) : Met l yX3_init wsX3_init ({ frames := 3, cells := 3, slots := 606, locals := 110 }) (va_Pc [.ref (ad 17 n), .int (nI n), .ref (ad 13 a), .ref (ad 14 b), .int pr, .int (nI vl), .int tm] (PW D A (tysG cs) ad dm w)) (QW D A (tysG cs) (fun rz ad1 dm1 w1 => ∃ q18 q19 q20, rz = none ∧ ad1 = (up2 (up2 (up2 ad 18 n q18) 19 n q19) 20 n q20) ∧ dm1 = (fun a b => (fun a b => (fun a b => dm a b ∨ (a = 18 ∧ b = n)) a b ∨ (a = 19 ∧ b = n)) a b ∨ (a = 20 ∧ b = n)) ∧ w1 = (up2 (up2 (up2 (up2 w 17 n (.inr (3, [.int (nI n), .ref (ad 13 a), .ref (ad 14 b), .ref x0, .int k4, .int k5, .int k6, .int pr, .int (nI vl), .int tm, .ref q19, .ref q18, .int 0, .int tm, .int 0, .int 0]))) 18 n (.inl (cs 0, 3, .inl (fun _ => 0)))) 19 n (.inr (2, [.ref q20, .int 1]))) 20 n (.inl (cs 0, vl + 1, .inl (fun _ => 0)))))) 3 606 A := by
  refine g_start (own := RX3) [.ref (ad 17 n), .int (nI n), .ref (ad 13 a), .ref (ad 14 b), .int pr, .int (nI vl), .int tm] (cc := cX3_init) (maxL := 7) (ret := none) (lv0 := [(0, .ref (ad 17 n)), (1, .int (nI n)), (2, .ref (ad 13 a)), (3, .ref (ad 14 b)), (4, .int pr), (5, .int (nI vl)), (6, .int tm)]) (by decide) rfl rfl (Nat.le_of_ble_eq_true rfl) rfl ?_
  intro p e s m below meth c F hr hlocks hname
  have hinX0 : ∀ w ∈ wsX00, w ∈ wsX3_init := by decide +kernel
  have hinX2 : ∀ w ∈ wsX20, w ∈ wsX3_init := by decide +kernel
  have hinX3 : ∀ w ∈ wsX30, w ∈ wsX3_init := by decide +kernel
  refine g_aload_n F 0 dX3_init_0 rfl rfl ?_
  refine g_obj F (by decide +kernel) (by decide +kernel) (List.mem_cons_of_mem _ (List.mem_append_left _ (List.mem_append_left _ (List.mem_append_left _ (List.mem_of_getElem? (i := 2) rfl))))) (Nat.le_of_ble_eq_true rfl) (Nat.le_of_ble_eq_true rfl) dX3_init_1 ?_
  refine g_aload_n F 0 dX3_init_4 rfl rfl ?_
  refine g_iconst F dX3_init_5 (v := 0) (by decide) ?_
  refine g_putf (k := 17) (i := n) (ci := 3) (C := RX3) (T := TX3) (N := 16) (fs := [.int 0, .null, .null, .null, .int 0, .int 0, .int 0, .int 0, .int 0, .int 0, .null, .null, .int 0, .int 0, .int 0, .int 0]) (fk := 12) (v := .int 0) (ty := .int) (tf := tyX3) F hinX3 tyX3_ok nmX3 h17 hw17 rfl (by decide) (by decide +kernel) rfl rfl (by decide +kernel) rfl rfl (show 12 < 16 by decide) dX3_init_6 ?_
  show GG p l e _ s m _ below meth c D A ad dm _ _ _ _ (up2 w 17 n (.inr (3, [.int 0, .null, .null, .null, .int 0, .int 0, .int 0, .int 0, .int 0, .int 0, .null, .null, .int 0, .int 0, .int 0, .int 0]))) 9 _ []
  refine g_aload_n F 0 dX3_init_9 rfl rfl ?_
  refine g_iconst F dX3_init_10 (v := 0) (by decide) ?_
  refine g_putf (k := 17) (i := n) (ci := 3) (C := RX3) (T := TX3) (N := 16) (fs := [.int 0, .null, .null, .null, .int 0, .int 0, .int 0, .int 0, .int 0, .int 0, .null, .null, .int 0, .int 0, .int 0, .int 0]) (fk := 14) (v := .int 0) (ty := .int) (tf := tyX3) F hinX3 tyX3_ok nmX3 h17 (up2_self _ _ _ _) rfl (by decide) (by decide +kernel) rfl rfl (by decide +kernel) rfl rfl (show 14 < 16 by decide) dX3_init_11 ?_
  refine g_w (w1 := (up2 w 17 n (.inr (3, [.int 0, .null, .null, .null, .int 0, .int 0, .int 0, .int 0, .int 0, .int 0, .null, .null, .int 0, .int 0, .int 0, .int 0])))) (up2_2 _ _ _ _ _).symm ?_
  refine g_aload_n F 0 dX3_init_14 rfl rfl ?_
  refine g_iconst F dX3_init_15 (v := 0) (by decide) ?_
  refine g_putf (k := 17) (i := n) (ci := 3) (C := RX3) (T := TX3) (N := 16) (fs := [.int 0, .null, .null, .null, .int 0, .int 0, .int 0, .int 0, .int 0, .int 0, .null, .null, .int 0, .int 0, .int 0, .int 0]) (fk := 15) (v := .int 0) (ty := .int) (tf := tyX3) F hinX3 tyX3_ok nmX3 h17 (up2_self _ _ _ _) rfl (by decide) (by decide +kernel) rfl rfl (by decide +kernel) rfl rfl (show 15 < 16 by decide) dX3_init_16 ?_
  refine g_w (w1 := (up2 w 17 n (.inr (3, [.int 0, .null, .null, .null, .int 0, .int 0, .int 0, .int 0, .int 0, .int 0, .null, .null, .int 0, .int 0, .int 0, .int 0])))) (up2_2 _ _ _ _ _).symm ?_
  refine g_aload_n F 0 dX3_init_19 rfl rfl ?_
  refine g_iload_n F 1 dX3_init_20 rfl rfl ?_
  refine g_putF (k := 17) (i := n) (ci := 3) (C := RX3) (T := TX3) (N := 16) (fs := [.int 0, .null, .null, .null, .int 0, .int 0, .int 0, .int 0, .int 0, .int 0, .null, .null, .int 0, .int 0, .int 0, .int 0]) (fk := 0) (v := .int (nI n)) (ty := .int) (tf := tyX3) F hinX3 tyX3_ok nmX3 h17 (up2_self _ _ _ _) rfl (by decide) (by decide +kernel) rfl rfl hname rfl (by decide +kernel) rfl rfl (show 0 < 16 by decide) dX3_init_21 ?_
  refine g_w (w1 := (up2 w 17 n (.inr (3, [.int (nI n), .null, .null, .null, .int 0, .int 0, .int 0, .int 0, .int 0, .int 0, .null, .null, .int 0, .int 0, .int 0, .int 0])))) (up2_2 _ _ _ _ _).symm ?_
  refine g_aload_n F 0 dX3_init_24 rfl rfl ?_
  refine g_aload_n F 2 dX3_init_25 rfl rfl ?_
  refine g_putF (k := 17) (i := n) (ci := 3) (C := RX3) (T := TX3) (N := 16) (fs := [.int (nI n), .null, .null, .null, .int 0, .int 0, .int 0, .int 0, .int 0, .int 0, .null, .null, .int 0, .int 0, .int 0, .int 0]) (fk := 1) (v := .ref (ad 13 a)) (ty := .object "MessageCentre$Account") (tf := tyX3) F hinX3 tyX3_ok nmX3 h17 (up2_self _ _ _ _) rfl (by decide) (by decide +kernel) rfl rfl hname rfl (by decide +kernel) rfl rfl (show 1 < 16 by decide) dX3_init_26 ?_
  refine g_w (w1 := (up2 w 17 n (.inr (3, [.int (nI n), .ref (ad 13 a), .null, .null, .int 0, .int 0, .int 0, .int 0, .int 0, .int 0, .null, .null, .int 0, .int 0, .int 0, .int 0])))) (up2_2 _ _ _ _ _).symm ?_
  refine g_aload_n F 0 dX3_init_29 rfl rfl ?_
  refine g_aload_n F 3 dX3_init_30 rfl rfl ?_
  refine g_putF (k := 17) (i := n) (ci := 3) (C := RX3) (T := TX3) (N := 16) (fs := [.int (nI n), .ref (ad 13 a), .null, .null, .int 0, .int 0, .int 0, .int 0, .int 0, .int 0, .null, .null, .int 0, .int 0, .int 0, .int 0]) (fk := 2) (v := .ref (ad 14 b)) (ty := .object "MessageCentre$Recipient") (tf := tyX3) F hinX3 tyX3_ok nmX3 h17 (up2_self _ _ _ _) rfl (by decide) (by decide +kernel) rfl rfl hname rfl (by decide +kernel) rfl rfl (show 2 < 16 by decide) dX3_init_31 ?_
  refine g_w (w1 := (up2 w 17 n (.inr (3, [.int (nI n), .ref (ad 13 a), .ref (ad 14 b), .null, .int 0, .int 0, .int 0, .int 0, .int 0, .int 0, .null, .null, .int 0, .int 0, .int 0, .int 0])))) (up2_2 _ _ _ _ _).symm ?_
  refine g_aload_n F 0 dX3_init_34 rfl rfl ?_
  refine g_iload F 4 dX3_init_35 rfl ?_
  refine g_putF (k := 17) (i := n) (ci := 3) (C := RX3) (T := TX3) (N := 16) (fs := [.int (nI n), .ref (ad 13 a), .ref (ad 14 b), .null, .int 0, .int 0, .int 0, .int 0, .int 0, .int 0, .null, .null, .int 0, .int 0, .int 0, .int 0]) (fk := 7) (v := .int pr) (ty := .int) (tf := tyX3) F hinX3 tyX3_ok nmX3 h17 (up2_self _ _ _ _) rfl (by decide) (by decide +kernel) rfl rfl hname rfl (by decide +kernel) rfl rfl (show 7 < 16 by decide) dX3_init_37 ?_
  refine g_w (w1 := (up2 w 17 n (.inr (3, [.int (nI n), .ref (ad 13 a), .ref (ad 14 b), .null, .int 0, .int 0, .int 0, .int pr, .int 0, .int 0, .null, .null, .int 0, .int 0, .int 0, .int 0])))) (up2_2 _ _ _ _ _).symm ?_
  refine g_aload_n F 0 dX3_init_40 rfl rfl ?_
  refine g_iload F 5 dX3_init_41 rfl ?_
  refine g_putF (k := 17) (i := n) (ci := 3) (C := RX3) (T := TX3) (N := 16) (fs := [.int (nI n), .ref (ad 13 a), .ref (ad 14 b), .null, .int 0, .int 0, .int 0, .int pr, .int 0, .int 0, .null, .null, .int 0, .int 0, .int 0, .int 0]) (fk := 8) (v := .int (nI vl)) (ty := .int) (tf := tyX3) F hinX3 tyX3_ok nmX3 h17 (up2_self _ _ _ _) rfl (by decide) (by decide +kernel) rfl rfl hname rfl (by decide +kernel) rfl rfl (show 8 < 16 by decide) dX3_init_43 ?_
  refine g_w (w1 := (up2 w 17 n (.inr (3, [.int (nI n), .ref (ad 13 a), .ref (ad 14 b), .null, .int 0, .int 0, .int 0, .int pr, .int (nI vl), .int 0, .null, .null, .int 0, .int 0, .int 0, .int 0])))) (up2_2 _ _ _ _ _).symm ?_
  refine g_aload_n F 0 dX3_init_46 rfl rfl ?_
  refine g_aload_n F 2 dX3_init_47 rfl rfl ?_
  refine g_getf (k := 13) (i := a) (ci := 1) (C := RX0) (T := TX0) (N := 7) (fs := [.ref x0, .int k4, .int k5, .int k6, .int k7, .int k8, .ref x6]) (fk := 0) (v := .ref x0) F hinX0 h13 ((up2_k (by decide) _).trans hw13) rfl (by decide) (by decide +kernel) rfl rfl dX3_init_48 ?_
  refine g_putF (k := 17) (i := n) (ci := 3) (C := RX3) (T := TX3) (N := 16) (fs := [.int (nI n), .ref (ad 13 a), .ref (ad 14 b), .null, .int 0, .int 0, .int 0, .int pr, .int (nI vl), .int 0, .null, .null, .int 0, .int 0, .int 0, .int 0]) (fk := 3) (v := .ref x0) (ty := .array .int) (tf := tyX3) F hinX3 tyX3_ok nmX3 h17 (up2_self _ _ _ _) rfl (by decide) (by decide +kernel) rfl rfl hname rfl (by decide +kernel) rfl rfl (show 3 < 16 by decide) dX3_init_51 ?_
  refine g_w (w1 := (up2 w 17 n (.inr (3, [.int (nI n), .ref (ad 13 a), .ref (ad 14 b), .ref x0, .int 0, .int 0, .int 0, .int pr, .int (nI vl), .int 0, .null, .null, .int 0, .int 0, .int 0, .int 0])))) (up2_2 _ _ _ _ _).symm ?_
  refine g_aload_n F 0 dX3_init_54 rfl rfl ?_
  refine g_aload_n F 2 dX3_init_55 rfl rfl ?_
  refine g_getf (k := 13) (i := a) (ci := 1) (C := RX0) (T := TX0) (N := 7) (fs := [.ref x0, .int k4, .int k5, .int k6, .int k7, .int k8, .ref x6]) (fk := 1) (v := .int k4) F hinX0 h13 ((up2_k (by decide) _).trans hw13) rfl (by decide) (by decide +kernel) rfl rfl dX3_init_56 ?_
  refine g_putF (k := 17) (i := n) (ci := 3) (C := RX3) (T := TX3) (N := 16) (fs := [.int (nI n), .ref (ad 13 a), .ref (ad 14 b), .ref x0, .int 0, .int 0, .int 0, .int pr, .int (nI vl), .int 0, .null, .null, .int 0, .int 0, .int 0, .int 0]) (fk := 4) (v := .int k4) (ty := .int) (tf := tyX3) F hinX3 tyX3_ok nmX3 h17 (up2_self _ _ _ _) rfl (by decide) (by decide +kernel) rfl rfl hname rfl (by decide +kernel) rfl rfl (show 4 < 16 by decide) dX3_init_59 ?_
  refine g_w (w1 := (up2 w 17 n (.inr (3, [.int (nI n), .ref (ad 13 a), .ref (ad 14 b), .ref x0, .int k4, .int 0, .int 0, .int pr, .int (nI vl), .int 0, .null, .null, .int 0, .int 0, .int 0, .int 0])))) (up2_2 _ _ _ _ _).symm ?_
  refine g_aload_n F 0 dX3_init_62 rfl rfl ?_
  refine g_aload_n F 2 dX3_init_63 rfl rfl ?_
  refine g_getf (k := 13) (i := a) (ci := 1) (C := RX0) (T := TX0) (N := 7) (fs := [.ref x0, .int k4, .int k5, .int k6, .int k7, .int k8, .ref x6]) (fk := 2) (v := .int k5) F hinX0 h13 ((up2_k (by decide) _).trans hw13) rfl (by decide) (by decide +kernel) rfl rfl dX3_init_64 ?_
  refine g_putF (k := 17) (i := n) (ci := 3) (C := RX3) (T := TX3) (N := 16) (fs := [.int (nI n), .ref (ad 13 a), .ref (ad 14 b), .ref x0, .int k4, .int 0, .int 0, .int pr, .int (nI vl), .int 0, .null, .null, .int 0, .int 0, .int 0, .int 0]) (fk := 5) (v := .int k5) (ty := .int) (tf := tyX3) F hinX3 tyX3_ok nmX3 h17 (up2_self _ _ _ _) rfl (by decide) (by decide +kernel) rfl rfl hname rfl (by decide +kernel) rfl rfl (show 5 < 16 by decide) dX3_init_67 ?_
  refine g_w (w1 := (up2 w 17 n (.inr (3, [.int (nI n), .ref (ad 13 a), .ref (ad 14 b), .ref x0, .int k4, .int k5, .int 0, .int pr, .int (nI vl), .int 0, .null, .null, .int 0, .int 0, .int 0, .int 0])))) (up2_2 _ _ _ _ _).symm ?_
  refine g_aload_n F 0 dX3_init_70 rfl rfl ?_
  refine g_aload_n F 2 dX3_init_71 rfl rfl ?_
  refine g_getf (k := 13) (i := a) (ci := 1) (C := RX0) (T := TX0) (N := 7) (fs := [.ref x0, .int k4, .int k5, .int k6, .int k7, .int k8, .ref x6]) (fk := 3) (v := .int k6) F hinX0 h13 ((up2_k (by decide) _).trans hw13) rfl (by decide) (by decide +kernel) rfl rfl dX3_init_72 ?_
  refine g_putF (k := 17) (i := n) (ci := 3) (C := RX3) (T := TX3) (N := 16) (fs := [.int (nI n), .ref (ad 13 a), .ref (ad 14 b), .ref x0, .int k4, .int k5, .int 0, .int pr, .int (nI vl), .int 0, .null, .null, .int 0, .int 0, .int 0, .int 0]) (fk := 6) (v := .int k6) (ty := .boolean) (tf := tyX3) F hinX3 tyX3_ok nmX3 h17 (up2_self _ _ _ _) rfl (by decide) (by decide +kernel) rfl rfl hname rfl (by decide +kernel) (by rw [hk6]; exact bi_nar _) (by rw [hk6]; exact bi_fit _) (show 6 < 16 by decide) dX3_init_75 ?_
  refine g_w (w1 := (up2 w 17 n (.inr (3, [.int (nI n), .ref (ad 13 a), .ref (ad 14 b), .ref x0, .int k4, .int k5, .int k6, .int pr, .int (nI vl), .int 0, .null, .null, .int 0, .int 0, .int 0, .int 0])))) (up2_2 _ _ _ _ _).symm ?_
  refine g_aload_n F 0 dX3_init_78 rfl rfl ?_
  refine g_iload F 6 dX3_init_79 rfl ?_
  refine g_putF (k := 17) (i := n) (ci := 3) (C := RX3) (T := TX3) (N := 16) (fs := [.int (nI n), .ref (ad 13 a), .ref (ad 14 b), .ref x0, .int k4, .int k5, .int k6, .int pr, .int (nI vl), .int 0, .null, .null, .int 0, .int 0, .int 0, .int 0]) (fk := 9) (v := .int tm) (ty := .int) (tf := tyX3) F hinX3 tyX3_ok nmX3 h17 (up2_self _ _ _ _) rfl (by decide) (by decide +kernel) rfl rfl hname rfl (by decide +kernel) rfl rfl (show 9 < 16 by decide) dX3_init_81 ?_
  refine g_w (w1 := (up2 w 17 n (.inr (3, [.int (nI n), .ref (ad 13 a), .ref (ad 14 b), .ref x0, .int k4, .int k5, .int k6, .int pr, .int (nI vl), .int tm, .null, .null, .int 0, .int 0, .int 0, .int 0])))) (up2_2 _ _ _ _ _).symm ?_
  refine g_aload_n F 0 dX3_init_84 rfl rfl ?_
  refine g_iload F 6 dX3_init_85 rfl ?_
  refine g_putf (k := 17) (i := n) (ci := 3) (C := RX3) (T := TX3) (N := 16) (fs := [.int (nI n), .ref (ad 13 a), .ref (ad 14 b), .ref x0, .int k4, .int k5, .int k6, .int pr, .int (nI vl), .int tm, .null, .null, .int 0, .int 0, .int 0, .int 0]) (fk := 13) (v := .int tm) (ty := .int) (tf := tyX3) F hinX3 tyX3_ok nmX3 h17 (up2_self _ _ _ _) rfl (by decide) (by decide +kernel) rfl rfl (by decide +kernel) rfl rfl (show 13 < 16 by decide) dX3_init_87 ?_
  refine g_w (w1 := (up2 w 17 n (.inr (3, [.int (nI n), .ref (ad 13 a), .ref (ad 14 b), .ref x0, .int k4, .int k5, .int k6, .int pr, .int (nI vl), .int tm, .null, .null, .int 0, .int tm, .int 0, .int 0])))) (up2_2 _ _ _ _ _).symm ?_
  refine g_aload_n F 0 dX3_init_90 rfl rfl ?_
  refine g_iconst F dX3_init_91 (v := 3) (by decide) ?_
  refine g_newi (N' := 3) F 18 n 0 hn18 rfl (by decide +kernel) rfl (by decide) (Nat.le_of_ble_eq_true rfl) (Nat.le_of_ble_eq_true rfl) dX3_init_92 (fun q18 => ?_)
  refine g_st (st1 := [.ref q18, .ref ((up2 ad 18 n q18) 17 n)]) (by rw [up2_k (by decide)]) ?_
  refine g_putF (k := 17) (i := n) (ci := 3) (C := RX3) (T := TX3) (N := 16) (fs := [.int (nI n), .ref (ad 13 a), .ref (ad 14 b), .ref x0, .int k4, .int k5, .int k6, .int pr, .int (nI vl), .int tm, .null, .null, .int 0, .int tm, .int 0, .int 0]) (fk := 11) (v := .ref q18) (ty := .array .int) (tf := tyX3) F hinX3 tyX3_ok nmX3 (.inl h17) ((up2_k (by decide) _).trans (up2_self _ _ _ _)) rfl (by decide) (by decide +kernel) rfl rfl hname rfl (by decide +kernel) rfl rfl (show 11 < 16 by decide) dX3_init_94 ?_
  refine g_w (w1 := (up2 (up2 w 17 n (.inr (3, [.int (nI n), .ref (ad 13 a), .ref (ad 14 b), .ref x0, .int k4, .int k5, .int k6, .int pr, .int (nI vl), .int tm, .null, .ref q18, .int 0, .int tm, .int 0, .int 0]))) 18 n (.inl (cs 0, 3, .inl (fun _ => 0))))) ((up2_cm _ _ _ (show 18 ≠ 17 by decide)).trans (congrArg (fun z : CF => up2 z 18 n (.inl (cs 0, 3, .inl (fun _ => 0)))) (up2_2 _ _ _ _ _))).symm ?_
  refine g_aload_n F 0 dX3_init_97 rfl rfl ?_
  refine g_new (ci := 2) (C := RX2) (T := TX2) (N := 2) (tf := tyX2) (fs := [.null, .int 0]) F 19 n (fun z => z.elim hn19 (fun y => absurd y.1 (by decide))) hinX2 tyX2_ok (by decide +kernel) (by decide +kernel) (by decide +kernel) rfl (fun j hj => by rcases (show j = 0 ∨ j = 1 by omega) with rfl | rfl <;> rfl) (Nat.le_of_ble_eq_true rfl) (Nat.le_of_ble_eq_true rfl) dX3_init_98 (fun q19 => ?_)
  refine g_dup F dX3_init_101 rfl ?_
  refine g_iload F 5 dX3_init_102 rfl ?_
  refine g_iconst F dX3_init_104 (v := 1) (by decide) ?_
  refine g_iadd F dX3_init_105 ?_
  refine g_top (y := nI (vl + 1)) (nI_1 vl).symm ?_
  refine g_st (st1 := [.int (nI (vl + 1)), .ref ((up2 (up2 ad 18 n q18) 19 n q19) 19 n), .ref q19, .ref (ad 17 n)]) (by rw [up2_self]) ?_
  refine q_callI F (ret := none) (rest := [.ref q19, .ref (ad 17 n)]) (b := (up2 (up2 ad 18 n q18) 19 n q19) 19 n) [.int (nI (vl + 1))] (ci_log l D A cs (up2 (up2 ad 18 n q18) 19 n q19) (fun a b => (fun a b => dm a b ∨ (a = 18 ∧ b = n)) a b ∨ (a = 19 ∧ b = n)) (up2 (up2 (up2 w 17 n (.inr (3, [.int (nI n), .ref (ad 13 a), .ref (ad 14 b), .ref x0, .int k4, .int k5, .int k6, .int pr, .int (nI vl), .int tm, .null, .ref q18, .int 0, .int tm, .int 0, .int 0]))) 18 n (.inl (cs 0, 3, .inl (fun _ => 0)))) 19 n (.inr (2, [.null, .int 0]))) n vl (.inr ⟨rfl, rfl⟩) (up2_self _ _ _ _) (fun z => z.elim (fun z => z.elim hn20 (fun y => absurd y.1 (by decide))) (fun y => absurd y.1 (by decide))) (by omega)) (n_cwI 1 F.1.2.2.2.2 gX3_init_X2_init rfl rfl rfl (by decide +kernel) (by decide +kernel) (by decide +kernel) rfl (by decide +kernel) ⟨Nat.le_of_ble_eq_true rfl, Nat.le_of_ble_eq_true rfl⟩) rfl rfl (Nat.le_of_ble_eq_true rfl) dX3_init_106 ⟨Nat.le_of_ble_eq_true rfl, Nat.le_of_ble_eq_true rfl⟩ (fun _ _ _ _ hv => ?_)
  obtain ⟨q20, rfl, rfl, rfl, rfl⟩ := hv
  show GG p l e _ s m _ below meth c D A (up2 (up2 (up2 ad 18 n q18) 19 n q19) 20 n q20) (fun a b => (fun a b => (fun a b => dm a b ∨ (a = 18 ∧ b = n)) a b ∨ (a = 19 ∧ b = n)) a b ∨ (a = 20 ∧ b = n)) _ _ _ _ (up2 (up2 (up2 (up2 (up2 w 17 n (.inr (3, [.int (nI n), .ref (ad 13 a), .ref (ad 14 b), .ref x0, .int k4, .int k5, .int k6, .int pr, .int (nI vl), .int tm, .null, .ref q18, .int 0, .int tm, .int 0, .int 0]))) 18 n (.inl (cs 0, 3, .inl (fun _ => 0)))) 19 n (.inr (2, [.null, .int 0]))) 19 n (.inr (2, [.ref q20, .int 1]))) 20 n (.inl (cs 0, vl + 1, .inl (fun _ => 0)))) 109 _ [.ref q19, .ref (ad 17 n)]
  refine g_w (w1 := (up2 (up2 (up2 (up2 w 17 n (.inr (3, [.int (nI n), .ref (ad 13 a), .ref (ad 14 b), .ref x0, .int k4, .int k5, .int k6, .int pr, .int (nI vl), .int tm, .null, .ref q18, .int 0, .int tm, .int 0, .int 0]))) 18 n (.inl (cs 0, 3, .inl (fun _ => 0)))) 19 n (.inr (2, [.ref q20, .int 1]))) 20 n (.inl (cs 0, vl + 1, .inl (fun _ => 0))))) (congrArg (fun z : CF => up2 z 20 n (.inl (cs 0, vl + 1, .inl (fun _ => 0)))) (up2_2 _ _ _ _ _).symm) ?_
  refine g_st (st1 := [.ref q19, .ref ((up2 (up2 (up2 ad 18 n q18) 19 n q19) 20 n q20) 17 n)]) (by rw [up2_k (by decide), up2_k (by decide), up2_k (by decide)]) ?_
  refine g_putF (k := 17) (i := n) (ci := 3) (C := RX3) (T := TX3) (N := 16) (fs := [.int (nI n), .ref (ad 13 a), .ref (ad 14 b), .ref x0, .int k4, .int k5, .int k6, .int pr, .int (nI vl), .int tm, .null, .ref q18, .int 0, .int tm, .int 0, .int 0]) (fk := 10) (v := .ref q19) (ty := .object "MessageCentre$Log") (tf := tyX3) F hinX3 tyX3_ok nmX3 (.inl (.inl (.inl h17))) ((up2_k (by decide) _).trans ((up2_k (by decide) _).trans ((up2_k (by decide) _).trans (up2_self _ _ _ _)))) rfl (by decide) (by decide +kernel) rfl rfl hname rfl (by decide +kernel) rfl rfl (show 10 < 16 by decide) dX3_init_109 ?_
  refine g_w (w1 := (up2 (up2 (up2 (up2 w 17 n (.inr (3, [.int (nI n), .ref (ad 13 a), .ref (ad 14 b), .ref x0, .int k4, .int k5, .int k6, .int pr, .int (nI vl), .int tm, .ref q19, .ref q18, .int 0, .int tm, .int 0, .int 0]))) 18 n (.inl (cs 0, 3, .inl (fun _ => 0)))) 19 n (.inr (2, [.ref q20, .int 1]))) 20 n (.inl (cs 0, vl + 1, .inl (fun _ => 0))))) ((up2_cm _ _ _ (show 20 ≠ 17 by decide)).trans (congrArg (fun z : CF => up2 z 20 n (.inl (cs 0, vl + 1, .inl (fun _ => 0)))) ((up2_cm _ _ _ (show 19 ≠ 17 by decide)).trans (congrArg (fun z : CF => up2 z 19 n (.inr (2, [.ref q20, .int 1]))) ((up2_cm _ _ _ (show 18 ≠ 17 by decide)).trans (congrArg (fun z : CF => up2 z 18 n (.inl (cs 0, 3, .inl (fun _ => 0)))) (up2_2 _ _ _ _ _))))))).symm ?_
  exact g_qv F hr hlocks (fun _ h => h) ⟨q18, q19, q20, rfl, rfl, rfl, rfl⟩ (by decide) (by decide) dX3_init_112

