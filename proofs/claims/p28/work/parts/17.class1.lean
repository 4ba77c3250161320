theorem inR_n {v : Int32} {n : Nat} (hn : n ≤ 1000) : inR v 0 (nI n - 1) ↔ (¬ v < 0 ∧ v < nI n) := by
  have e : (nI n - 1).toInt = (n : Int) - 1 := by
    rcases Nat.eq_zero_or_pos n with h | h
    · subst h; decide
    · rw [nI_m1 h, nI_toInt (by omega)]; omega
  have e2 := nI_toInt (show n < 2 ^ 31 by omega)
  unfold inR
  simp only [Int32.lt_iff_toInt_lt, e, e2]
  constructor
  · intro ⟨h1, h2⟩; exact ⟨h1, by omega⟩
  · intro ⟨h1, h2⟩; exact ⟨h1, by omega⟩
theorem accP_n {v : Int32} : accP v ↔ (¬ v < 0 ∧ v < nI 4) := inR_n (n := 4) (by decide)
theorem recP_n {v : Int32} : recP v ↔ (¬ v < 0 ∧ v < nI 6) := inR_n (n := 6) (by decide)
theorem ix_mg {v : Int32} {n : Nat} (hn : n ≤ 1000) (h : inR v 0 (nI n - 1)) : v = nI (ix v) ∧ ix v < n := by
  have h2 := (inR_n hn).mp h
  rcases Nat.eq_zero_or_pos n with h0 | h0
  · subst h0; exact absurd h2.2 h2.1
  · obtain ⟨h3, h4⟩ := ix_in (n := n - 1) (by rw [nI_m1 h0, nI_toInt (by omega)]) h
    exact ⟨h3, by omega⟩
abbrev xIO : String := "java/lang/IndexOutOfBoundsException"
abbrev xIA : String := "java/lang/IllegalArgumentException"
abbrev xIS : String := "java/lang/IllegalStateException"
/-- lists' lengths, and what they hold -/
def LO (n : Nat) (Lx : Nat → List Nat) (cap : Nat → Nat) : Prop := ∀ i, i < 11 → (Lx i).length ≤ cap i ∧ cap i ≤ 60 ∧ ∀ j ∈ Lx i, j < n
theorem LO.get {n : Nat} {Lx : Nat → List Nat} {cap : Nat → Nat} (h : LO n Lx cap) {i a : Nat} (hi : i < 11) (ha : a < (Lx i).length) : (Lx i).getD a 0 < n := (h i hi).2.2 _ (getD_mem9 ha)
section CAS2
variable {p : Program} {l : Launch} {e : Env} {R : Room} {s : State} {m : MethodId} {args : Array Value} {below : List Frame} {meth : Method} {c : Code} {cells slots : Nat} {Q : State → Prop} {cc : ByteArray} {nL : Nat} {Ts : List Cond} {own : String} {D : va_G} {A : Nat → Prop} {cs : Nat → ClassId} {ad : Nat → Nat → Nat} {dm : Nat → Nat → Prop} {w : CF} {pc : Nat} {lv : List (Nat × Value)} {rest : List Value}
theorem ca_castM {σ : SG} {Lx : Nat → List Nat} {cap : Nat → Nat} {mk : Nat → Int32} {ev : SG} {zl tx mt tn : Nat → Nat} {tc : SG} {w0 : CF} {n tq i index : Nat} (F : FX p s m args c cc nL Ts own D A (tysG cs)) (hC : CD dm n cap tq) (hi : i < n) (hlink : Cond.classLink own index RX3 ∈ Ts) (d : decode cc pc = .ok (.checkcast index, 3))
    (kk : GG p l e R s m args below meth c D A ad dm nL cells slots Q (cw D ad cs σ Lx cap mk ev zl tx mt tn tc w0) (pc + 3) lv (.ref (ad 17 i) :: rest)) : GG p l e R s m args below meth c D A ad dm nL cells slots Q (cw D ad cs σ Lx cap mk ev zl tx mt tn tc w0) pc lv (.ref (ad 17 i) :: rest) := by
  intro H locs ls hw hS hl
  have he : (cw D ad cs σ Lx cap mk ev zl tx mt tn tc w0) 17 i = .inr (3, cM ad σ mt i) := rfl
  have hd := (hC.2.2.2.2.2.2.2.1 i hi).1
  obtain ⟨L, f, hP, hD, hm, hj⟩ := id hw
  obtain ⟨q0, hq0⟩ := va_pl_get (X := []) (f := f) (hm 17 i hd).1
  rw [(hm 17 i hd).2, he] at hq0
  exact va_castS F.1.1 F.1.2.1 F.1.2.2.2.1 (F.1.2.2.2.2 _ hlink) (F.2.1.1 3 (RX3, TX3, 16) rfl).2 (va_recv F.2.1 hP rfl hq0) d (kk H locs ls hw hS hl)
theorem ca_acmp_eq {k i j : Nat} (hi : dm k i) (hj : dm k j) (F : FX p s m args c cc nL Ts own D A (tysG cs)) {off : Int} {tgt : Nat} (d : decode cc pc = .ok (.if_acmp .eq off, 3)) (ht : (pc : Int) + off = (tgt : Int)) (kt : i = j → GG p l e R s m args below meth c D A ad dm nL cells slots Q w tgt lv rest) (kf : ¬ i = j → GG p l e R s m args below meth c D A ad dm nL cells slots Q w (pc + 3) lv rest) : GG p l e R s m args below meth c D A ad dm nL cells slots Q w pc lv (.ref (ad k j) :: .ref (ad k i) :: rest) := fun H locs ls hw hS hl => g_acmp_eq F d ht (fun h => kt ((hw.inj hi hj).mp h).2) (fun h => kf (fun q => h (by rw [q]))) H locs ls hw hS hl
theorem ca_acmp_ne {k i j : Nat} (hi : dm k i) (hj : dm k j) (F : FX p s m args c cc nL Ts own D A (tysG cs)) {off : Int} {tgt : Nat} (d : decode cc pc = .ok (.if_acmp .ne off, 3)) (ht : (pc : Int) + off = (tgt : Int)) (kt : ¬ i = j → GG p l e R s m args below meth c D A ad dm nL cells slots Q w tgt lv rest) (kf : i = j → GG p l e R s m args below meth c D A ad dm nL cells slots Q w (pc + 3) lv rest) : GG p l e R s m args below meth c D A ad dm nL cells slots Q w pc lv (.ref (ad k j) :: .ref (ad k i) :: rest) := fun H locs ls hw hS hl => g_acmp_ne F d ht (fun h => kt (fun q => h (by rw [q]))) (fun h => kf ((hw.inj hi hj).mp h).2) H locs ls hw hS hl
end CAS2
theorem cl_size0 (l : Launch) (D : va_G) (A : Nat → Prop) (cs : Nat → ClassId) (ad : Nat → Nat → Nat) (dm : Nat → Nat → Prop) (σ : SG) (Lx : Nat → List Nat) (cap : Nat → Nat) (mk : Nat → Int32) (ev : SG) (zl tx mt tn : Nat → Nat) (tc : SG) (w0 : CF) (n tq : Nat) (hC : CD dm n cap tq) (hn40 : n ≤ 40) (hL : Lx 0 = List.range n) (hlo : LO n Lx cap) : Met l yJx4a65c_size_8abf5 wsJx4a65c_size_8abf5 ({ frames := 0, cells := 0, slots := 0, locals := 0 }) (va_Pc [.ref (ad 15 0)] (PW D A (tysG cs) ad dm (cw D ad cs σ Lx cap mk ev zl tx mt tn tc w0))) (QW D A (tysG cs) (fun r ad1 dm1 w1 => r = some (.int (nI n)) ∧ ad = ad1 ∧ dm = dm1 ∧ (cw D ad cs σ Lx cap mk ev zl tx mt tn tc w0) = w1)) 0 0 A := by
  have h := cl_size l D A cs ad dm σ Lx cap mk ev zl tx mt tn tc w0 n tq hC 0 (by decide)
  rw [hL, List.length_range] at h
  exact h
theorem cl_get0 (l : Launch) (D : va_G) (A : Nat → Prop) (cs : Nat → ClassId) (ad : Nat → Nat → Nat) (dm : Nat → Nat → Prop) (σ : SG) (Lx : Nat → List Nat) (cap : Nat → Nat) (mk : Nat → Int32) (ev : SG) (zl tx mt tn : Nat → Nat) (tc : SG) (w0 : CF) (n tq : Nat) (hC : CD dm n cap tq) (a : Nat) (hn40 : n ≤ 40) (hL : Lx 0 = List.range n) (hlo : LO n Lx cap) (ha : a < n) : Met l yJx4a65c_get_915e3 wsJx4a65c_get_915e3 ({ frames := 2, cells := 0, slots := 0, locals := 43 }) (va_Pc [.ref (ad 15 0), .int (nI a)] (PW D A (tysG cs) ad dm (cw D ad cs σ Lx cap mk ev zl tx mt tn tc w0))) (QW D A (tysG cs) (fun r ad1 dm1 w1 => r = some (.ref (ad 17 a)) ∧ ad = ad1 ∧ dm = dm1 ∧ (cw D ad cs σ Lx cap mk ev zl tx mt tn tc w0) = w1)) 0 0 A := by
  have e : (Lx 0).getD a 0 = a := by
    rw [hL, List.getD_eq_getElem?_getD, List.getElem?_range ha]
    rfl
  have h := cl_get l D A cs ad dm σ Lx cap mk ev zl tx mt tn tc w0 n tq hC 0 a (by decide) (by rw [hL, List.length_range]; exact ha) (hlo 0 (by decide)).1 (hlo 0 (by decide)).2.1
  rw [e] at h
  exact h
theorem cl_getL (l : Launch) (D : va_G) (A : Nat → Prop) (cs : Nat → ClassId) (ad : Nat → Nat → Nat) (dm : Nat → Nat → Prop) (σ : SG) (Lx : Nat → List Nat) (cap : Nat → Nat) (mk : Nat → Int32) (ev : SG) (zl tx mt tn : Nat → Nat) (tc : SG) (w0 : CF) (n tq : Nat) (hC : CD dm n cap tq) (i a : Nat) (hlo : LO n Lx cap) (hi : i < 11) (ha : a < (Lx i).length) : Met l yJx4a65c_get_915e3 wsJx4a65c_get_915e3 ({ frames := 2, cells := 0, slots := 0, locals := 43 }) (va_Pc [.ref (ad 15 i), .int (nI a)] (PW D A (tysG cs) ad dm (cw D ad cs σ Lx cap mk ev zl tx mt tn tc w0))) (QW D A (tysG cs) (fun r ad1 dm1 w1 => r = some (.ref (ad 17 ((Lx i).getD a 0))) ∧ ad = ad1 ∧ dm = dm1 ∧ (cw D ad cs σ Lx cap mk ev zl tx mt tn tc w0) = w1)) 0 0 A := cl_get l D A cs ad dm σ Lx cap mk ev zl tx mt tn tc w0 n tq hC i a hi ha (hlo i hi).1 (hlo i hi).2.1
set_option maxHeartbeats 4000000 in
set_option maxRecDepth 100000 in
theorem cc_accountAt (l : Launch) (D : va_G) (A : Nat → Prop) (cs : Nat → ClassId) (ad : Nat → Nat → Nat) (dm : Nat → Nat → Prop) (σ : SG) (Lx : Nat → List Nat) (cap : Nat → Nat) (mk : Nat → Int32) (ev : SG) (zl tx mt tn : Nat → Nat) (tc : SG) (w0 : CF) (n tq : Nat) (hC : CD dm n cap tq) (v : Int32) (hfl : l.stackTraces = false) : vx_Met l yX5_accountAt wsX5_accountAt ({ frames := 6, cells := 1, slots := 6, locals := 90 }) (va_Pc [.ref (ad 10 0), .int v] (PW D A (tysG cs) ad dm (cw D ad cs σ Lx cap mk ev zl tx mt tn tc w0))) (QW D A (tysG cs) (fun r ad1 dm1 w1 => (accP v) ∧ r = some (.ref (ad 13 (ix v))) ∧ ad = ad1 ∧ dm = dm1 ∧ (cw D ad cs σ Lx cap mk ev zl tx mt tn tc w0) = w1)) (XW D A (tysG cs) ad dm (cw D ad cs σ Lx cap mk ev zl tx mt tn tc w0) (fun E => E = xIO ∧ ¬ accP v)) 1 6 A := by
  refine q_start (own := RX5) [.ref (ad 10 0), .int v] (cc := cX5_accountAt) (maxL := 2) (ret := (some (.object "MessageCentre$Account"))) (lv0 := [(0, .ref (ad 10 0)), (1, .int v)]) (by decide) rfl rfl (Nat.le_of_ble_eq_true rfl) rfl ?_
  intro p e s m below meth c F hr hlocks hno
  have hinX5 : ∀ w ∈ wsX50, w ∈ wsX5_accountAt := by decide +kernel
  refine g_iload_n F 1 dX5_accountAt_0 rfl rfl ?_
  refine g_if_lt F (tgt := 13) dX5_accountAt_1 (by decide) (fun c1 => ?_) (fun c1 => ?_)
  ·
    exact x_throw_io F hfl (by decide +kernel) (by decide +kernel) (by decide +kernel) (is := 202) (sa := D.2 100 10) F.2.2.2.2.2.1 hno hlocks ⟨rfl, fun q => (accP_n.mp q).1 c1⟩ dX5_accountAt_13 dX5_accountAt_16 dX5_accountAt_17 dX5_accountAt_19 dX5_accountAt_22 (Nat.le_of_ble_eq_true rfl) (Nat.le_of_ble_eq_true rfl) (Nat.le_of_ble_eq_true rfl) (Nat.le_of_ble_eq_true rfl) (Nat.le_of_ble_eq_true rfl) (Nat.le_of_ble_eq_true rfl)
  ·
    refine g_iload_n F 1 dX5_accountAt_4 rfl rfl ?_
    refine g_aload_n F 0 dX5_accountAt_5 rfl rfl ?_
    refine g_getf (k := 10) (i := 0) (ci := 5) (C := RX5) (T := TX5) (N := 4) (fs := (cO ad σ)) (fk := 0) F hinX5 hC.1 rfl rfl (by decide) (by decide +kernel) rfl rfl dX5_accountAt_6 ?_
    refine g_alen (t0 := 3) (k := 11) (i := 0) (v := (nI 4)) F hC.2.1 rfl rfl rfl dX5_accountAt_9 ?_
    refine g_icmp_lt F (tgt := 23) dX5_accountAt_10 (by decide) (fun c2 => ?_) (fun c2 => ?_)
    ·
      have hok : accP v := accP_n.mpr ⟨c1, c2⟩
      have hb := (ix_acc hok).2
      refine g_aload_n F 0 dX5_accountAt_23 rfl rfl ?_
      refine g_getf (k := 10) (i := 0) (ci := 5) (C := RX5) (T := TX5) (N := 4) (fs := (cO ad σ)) (fk := 0) F hinX5 hC.1 rfl rfl (by decide) (by decide +kernel) rfl rfl dX5_accountAt_24 ?_
      refine g_iload_n F 1 dX5_accountAt_27 rfl rfl ?_
      refine ca_aald (k := 11) (i := 0) (n := 4) (f := (fun q => if q < 4 then some (ad 13 q) else none)) (C := "MessageCentre$Account") (t0 := 3) F hC.2.1 rfl rfl (ix_acc hok).1 ⟨show (ix v) < 4 by omega, by decide⟩ (x := (ad 13 (ix v))) (by simp only [if_pos (show (ix v) < 4 by omega)]) dX5_accountAt_28 ?_
      exact x_qa F hr (.inl ⟨_, rfl⟩) hlocks (fun _ h => h) ⟨hok, rfl, rfl, rfl, rfl⟩ (by decide) (by decide) dX5_accountAt_29
    ·
      exact x_throw_io F hfl (by decide +kernel) (by decide +kernel) (by decide +kernel) (is := 202) (sa := D.2 100 10) F.2.2.2.2.2.1 hno hlocks ⟨rfl, fun q => c2 (accP_n.mp q).2⟩ dX5_accountAt_13 dX5_accountAt_16 dX5_accountAt_17 dX5_accountAt_19 dX5_accountAt_22 (Nat.le_of_ble_eq_true rfl) (Nat.le_of_ble_eq_true rfl) (Nat.le_of_ble_eq_true rfl) (Nat.le_of_ble_eq_true rfl) (Nat.le_of_ble_eq_true rfl) (Nat.le_of_ble_eq_true rfl)
set_option maxHeartbeats 4000000 in
set_option maxRecDepth 100000 in
theorem cc_recipientAt (l : Launch) (D : va_G) (A : Nat → Prop) (cs : Nat → ClassId) (ad : Nat → Nat → Nat) (dm : Nat → Nat → Prop) (σ : SG) (Lx : Nat → List Nat) (cap : Nat → Nat) (mk : Nat → Int32) (ev : SG) (zl tx mt tn : Nat → Nat) (tc : SG) (w0 : CF) (n tq : Nat) (hC : CD dm n cap tq) (v : Int32) (hfl : l.stackTraces = false) : vx_Met l yX5_recipientAt wsX5_recipientAt ({ frames := 6, cells := 1, slots := 6, locals := 90 }) (va_Pc [.ref (ad 10 0), .int v] (PW D A (tysG cs) ad dm (cw D ad cs σ Lx cap mk ev zl tx mt tn tc w0))) (QW D A (tysG cs) (fun r ad1 dm1 w1 => (recP v) ∧ r = some (.ref (ad 14 (ix v))) ∧ ad = ad1 ∧ dm = dm1 ∧ (cw D ad cs σ Lx cap mk ev zl tx mt tn tc w0) = w1)) (XW D A (tysG cs) ad dm (cw D ad cs σ Lx cap mk ev zl tx mt tn tc w0) (fun E => E = xIO ∧ ¬ recP v)) 1 6 A := by
  refine q_start (own := RX5) [.ref (ad 10 0), .int v] (cc := cX5_recipientAt) (maxL := 2) (ret := (some (.object "MessageCentre$Recipient"))) (lv0 := [(0, .ref (ad 10 0)), (1, .int v)]) (by decide) rfl rfl (Nat.le_of_ble_eq_true rfl) rfl ?_
  intro p e s m below meth c F hr hlocks hno
  have hinX5 : ∀ w ∈ wsX50, w ∈ wsX5_recipientAt := by decide +kernel
  refine g_iload_n F 1 dX5_recipientAt_0 rfl rfl ?_
  refine g_if_lt F (tgt := 13) dX5_recipientAt_1 (by decide) (fun c1 => ?_) (fun c1 => ?_)
  ·
    exact x_throw_io F hfl (by decide +kernel) (by decide +kernel) (by decide +kernel) (is := 204) (sa := D.2 100 12) F.2.2.2.2.2.2.2.1 hno hlocks ⟨rfl, fun q => (recP_n.mp q).1 c1⟩ dX5_recipientAt_13 dX5_recipientAt_16 dX5_recipientAt_17 dX5_recipientAt_19 dX5_recipientAt_22 (Nat.le_of_ble_eq_true rfl) (Nat.le_of_ble_eq_true rfl) (Nat.le_of_ble_eq_true rfl) (Nat.le_of_ble_eq_true rfl) (Nat.le_of_ble_eq_true rfl) (Nat.le_of_ble_eq_true rfl)
  ·
    refine g_iload_n F 1 dX5_recipientAt_4 rfl rfl ?_
    refine g_aload_n F 0 dX5_recipientAt_5 rfl rfl ?_
    refine g_getf (k := 10) (i := 0) (ci := 5) (C := RX5) (T := TX5) (N := 4) (fs := (cO ad σ)) (fk := 1) F hinX5 hC.1 rfl rfl (by decide) (by decide +kernel) rfl rfl dX5_recipientAt_6 ?_
    refine g_alen (t0 := 4) (k := 12) (i := 0) (v := (nI 6)) F hC.2.2.1 rfl rfl rfl dX5_recipientAt_9 ?_
    refine g_icmp_lt F (tgt := 23) dX5_recipientAt_10 (by decide) (fun c2 => ?_) (fun c2 => ?_)
    ·
      have hok : recP v := recP_n.mpr ⟨c1, c2⟩
      have hb := (ix_rec hok).2
      refine g_aload_n F 0 dX5_recipientAt_23 rfl rfl ?_
      refine g_getf (k := 10) (i := 0) (ci := 5) (C := RX5) (T := TX5) (N := 4) (fs := (cO ad σ)) (fk := 1) F hinX5 hC.1 rfl rfl (by decide) (by decide +kernel) rfl rfl dX5_recipientAt_24 ?_
      refine g_iload_n F 1 dX5_recipientAt_27 rfl rfl ?_
      refine ca_aald (k := 12) (i := 0) (n := 6) (f := (fun q => if q < 6 then some (ad 14 q) else none)) (C := "MessageCentre$Recipient") (t0 := 4) F hC.2.2.1 rfl rfl (ix_rec hok).1 ⟨show (ix v) < 6 by omega, by decide⟩ (x := (ad 14 (ix v))) (by simp only [if_pos (show (ix v) < 6 by omega)]) dX5_recipientAt_28 ?_
      exact x_qa F hr (.inl ⟨_, rfl⟩) hlocks (fun _ h => h) ⟨hok, rfl, rfl, rfl, rfl⟩ (by decide) (by decide) dX5_recipientAt_29
    ·
      exact x_throw_io F hfl (by decide +kernel) (by decide +kernel) (by decide +kernel) (is := 204) (sa := D.2 100 12) F.2.2.2.2.2.2.2.1 hno hlocks ⟨rfl, fun q => c2 (recP_n.mp q).2⟩ dX5_recipientAt_13 dX5_recipientAt_16 dX5_recipientAt_17 dX5_recipientAt_19 dX5_recipientAt_22 (Nat.le_of_ble_eq_true rfl) (Nat.le_of_ble_eq_true rfl) (Nat.le_of_ble_eq_true rfl) (Nat.le_of_ble_eq_true rfl) (Nat.le_of_ble_eq_true rfl) (Nat.le_of_ble_eq_true rfl)
set_option maxHeartbeats 4000000 in
set_option maxRecDepth 100000 in
theorem cc_require (l : Launch) (D : va_G) (A : Nat → Prop) (cs : Nat → ClassId) (ad : Nat → Nat → Nat) (dm : Nat → Nat → Prop) (σ : SG) (Lx : Nat → List Nat) (cap : Nat → Nat) (mk : Nat → Int32) (ev : SG) (zl tx mt tn : Nat → Nat) (tc : SG) (w0 : CF) (n tq : Nat) (hC : CD dm n cap tq) (v a b : Int32) (hfl : l.stackTraces = false) : vx_Met l yX5_requireInRange wsX5_requireInRange ({ frames := 6, cells := 1, slots := 6, locals := 90 }) (va_Pc [.int v, .int a, .int b] (PW D A (tysG cs) ad dm (cw D ad cs σ Lx cap mk ev zl tx mt tn tc w0))) (QW D A (tysG cs) (fun r ad1 dm1 w1 => (inR v a b) ∧ r = none ∧ ad = ad1 ∧ dm = dm1 ∧ (cw D ad cs σ Lx cap mk ev zl tx mt tn tc w0) = w1)) (XW D A (tysG cs) ad dm (cw D ad cs σ Lx cap mk ev zl tx mt tn tc w0) (fun E => E = xIA ∧ ¬ inR v a b)) 1 6 A := by
  refine q_start (own := RX5) [.int v, .int a, .int b] (cc := cX5_requireInRange) (maxL := 3) (ret := none) (lv0 := [(0, .int v), (1, .int a), (2, .int b)]) (by decide) rfl rfl (Nat.le_of_ble_eq_true rfl) rfl ?_
  intro p e s m below meth c F hr hlocks hno
  refine g_iload_n F 0 dX5_requireInRange_0 rfl rfl ?_
  refine g_iload_n F 1 dX5_requireInRange_1 rfl rfl ?_
  refine g_icmp_lt F (tgt := 10) dX5_requireInRange_2 (by decide) (fun c1 => ?_) (fun c1 => ?_)
  ·
    exact x_throw_ia F hfl (by decide +kernel) (by decide +kernel) (by decide +kernel) (is := 212) (sa := D.2 100 11) F.2.2.2.2.2.2.1 hno hlocks ⟨rfl, fun q => q.1 c1⟩ dX5_requireInRange_10 dX5_requireInRange_13 dX5_requireInRange_14 dX5_requireInRange_16 dX5_requireInRange_19 (Nat.le_of_ble_eq_true rfl) (Nat.le_of_ble_eq_true rfl) (Nat.le_of_ble_eq_true rfl) (Nat.le_of_ble_eq_true rfl) (Nat.le_of_ble_eq_true rfl) (Nat.le_of_ble_eq_true rfl)
  ·
    refine g_iload_n F 0 dX5_requireInRange_5 rfl rfl ?_
    refine g_iload_n F 2 dX5_requireInRange_6 rfl rfl ?_
    refine g_icmp_le F (tgt := 20) dX5_requireInRange_7 (by decide) (fun c2 => ?_) (fun c2 => ?_)
    ·
      exact x_qv F hr hlocks (fun _ h => h) ⟨⟨c1, Int32.not_lt.mpr c2⟩, rfl, rfl, rfl, rfl⟩ (by decide) (by decide) dX5_requireInRange_20
    ·
      exact x_throw_ia F hfl (by decide +kernel) (by decide +kernel) (by decide +kernel) (is := 212) (sa := D.2 100 11) F.2.2.2.2.2.2.1 hno hlocks ⟨rfl, fun q => c2 (Int32.not_lt.mp q.2)⟩ dX5_requireInRange_10 dX5_requireInRange_13 dX5_requireInRange_14 dX5_requireInRange_16 dX5_requireInRange_19 (Nat.le_of_ble_eq_true rfl) (Nat.le_of_ble_eq_true rfl) (Nat.le_of_ble_eq_true rfl) (Nat.le_of_ble_eq_true rfl) (Nat.le_of_ble_eq_true rfl) (Nat.le_of_ble_eq_true rfl)
set_option maxHeartbeats 4000000 in
set_option maxRecDepth 100000 in
theorem cc_messageAt (l : Launch) (D : va_G) (A : Nat → Prop) (cs : Nat → ClassId) (ad : Nat → Nat → Nat) (dm : Nat → Nat → Prop) (σ : SG) (Lx : Nat → List Nat) (cap : Nat → Nat) (mk : Nat → Int32) (ev : SG) (zl tx mt tn : Nat → Nat) (tc : SG) (w0 : CF) (n tq : Nat) (hC : CD dm n cap tq) (v : Int32) (hn40 : n ≤ 40) (hL : Lx 0 = List.range n) (hlo : LO n Lx cap) (hfl : l.stackTraces = false) : vx_Met l yX5_messageAt wsX5_messageAt ({ frames := 6, cells := 1, slots := 6, locals := 90 }) (va_Pc [.ref (ad 10 0), .int v] (PW D A (tysG cs) ad dm (cw D ad cs σ Lx cap mk ev zl tx mt tn tc w0))) (QW D A (tysG cs) (fun r ad1 dm1 w1 => (inR v 0 (nI n - 1)) ∧ r = some (.ref (ad 17 (ix v))) ∧ ad = ad1 ∧ dm = dm1 ∧ (cw D ad cs σ Lx cap mk ev zl tx mt tn tc w0) = w1)) (XW D A (tysG cs) ad dm (cw D ad cs σ Lx cap mk ev zl tx mt tn tc w0) (fun E => E = xIO ∧ ¬ inR v 0 (nI n - 1))) 1 6 A := by
  refine q_start (own := RX5) [.ref (ad 10 0), .int v] (cc := cX5_messageAt) (maxL := 2) (ret := (some (.object "MessageCentre$Message"))) (lv0 := [(0, .ref (ad 10 0)), (1, .int v)]) (by decide) rfl rfl (Nat.le_of_ble_eq_true rfl) rfl ?_
  intro p e s m below meth c F hr hlocks hno
  have hinX5 : ∀ w ∈ wsX50, w ∈ wsX5_messageAt := by decide +kernel
  refine g_iload_n F 1 dX5_messageAt_0 rfl rfl ?_
  refine g_if_lt F (tgt := 15) dX5_messageAt_1 (by decide) (fun c1 => ?_) (fun c1 => ?_)
  ·
    exact x_throw_io F hfl (by decide +kernel) (by decide +kernel) (by decide +kernel) (is := 206) (sa := D.2 100 14) F.2.2.2.2.2.2.2.2.2.1 hno hlocks ⟨rfl, fun q => ((inR_n (by omega)).mp q).1 c1⟩ dX5_messageAt_15 dX5_messageAt_18 dX5_messageAt_19 dX5_messageAt_21 dX5_messageAt_24 (Nat.le_of_ble_eq_true rfl) (Nat.le_of_ble_eq_true rfl) (Nat.le_of_ble_eq_true rfl) (Nat.le_of_ble_eq_true rfl) (Nat.le_of_ble_eq_true rfl) (Nat.le_of_ble_eq_true rfl)
  ·
    refine g_iload_n F 1 dX5_messageAt_4 rfl rfl ?_
    refine g_aload_n F 0 dX5_messageAt_5 rfl rfl ?_
    refine g_getf (k := 10) (i := 0) (ci := 5) (C := RX5) (T := TX5) (N := 4) (fs := (cO ad σ)) (fk := 2) F hinX5 hC.1 rfl rfl (by decide) (by decide +kernel) rfl rfl dX5_messageAt_6 ?_
    refine q_callV F (C := RJx4a65c) (k := 15) (i := 0) (ci := 0) (T := TJx4a65c) (N := 3) (rest := [.int v]) [] (cl_size0 l D A cs ad dm σ Lx cap mk ev zl tx mt tn tc w0 n tq hC hn40 hL hlo) (cwV 0 F.1.2.2.2.2 gX5_messageAt_Jx4a65c_size_8abf5 rfl rfl rfl (by decide +kernel) ⟨Nat.le_of_ble_eq_true rfl, Nat.le_of_ble_eq_true rfl⟩) rfl (hC.2.2.2.2.2.1 0 (by omega)) rfl rfl rfl rfl (Nat.le_of_ble_eq_true rfl) dX5_messageAt_9 ⟨Nat.le_of_ble_eq_true rfl, Nat.le_of_ble_eq_true rfl⟩ (fun _ _ _ _ v2 => ?_)
    obtain ⟨rfl, rfl, rfl, rfl⟩ := v2
    show GG p l e _ s m _ below meth c D A ad dm _ _ _ _ (cw D ad cs σ Lx cap mk ev zl tx mt tn tc w0) 12 _ [.int (nI n), .int v]
    refine g_icmp_lt F (tgt := 25) dX5_messageAt_12 (by decide) (fun c3 => ?_) (fun c3 => ?_)
    ·
      have hok : inR v 0 (nI n - 1) := (inR_n (by omega)).mpr ⟨c1, c3⟩
      obtain ⟨hv, hb⟩ := ix_mg (by omega) hok
      refine g_aload_n F 0 dX5_messageAt_25 rfl rfl ?_
      refine g_getf (k := 10) (i := 0) (ci := 5) (C := RX5) (T := TX5) (N := 4) (fs := (cO ad σ)) (fk := 2) F hinX5 hC.1 rfl rfl (by decide) (by decide +kernel) rfl rfl dX5_messageAt_26 ?_
      refine g_iload_n F 1 dX5_messageAt_29 rfl rfl ?_
      refine q_callV F (C := RJx4a65c) (k := 15) (i := 0) (ci := 0) (T := TJx4a65c) (N := 3) (rest := []) [.int v] (by have h9 := cl_get0 l D A cs ad dm σ Lx cap mk ev zl tx mt tn tc w0 n tq hC (ix v) hn40 hL hlo (by omega); rw [← hv] at h9; exact h9) (cwV 1 F.1.2.2.2.2 gX5_messageAt_Jx4a65c_get_915e3 rfl rfl rfl (by decide +kernel) ⟨Nat.le_of_ble_eq_true rfl, Nat.le_of_ble_eq_true rfl⟩) rfl (hC.2.2.2.2.2.1 0 (by omega)) rfl rfl rfl rfl (Nat.le_of_ble_eq_true rfl) dX5_messageAt_30 ⟨Nat.le_of_ble_eq_true rfl, Nat.le_of_ble_eq_true rfl⟩ (fun _ _ _ _ v4 => ?_)
      obtain ⟨rfl, rfl, rfl, rfl⟩ := v4
      show GG p l e _ s m _ below meth c D A ad dm _ _ _ _ (cw D ad cs σ Lx cap mk ev zl tx mt tn tc w0) 33 _ [.ref (ad 17 (ix v))]
      refine ca_castM (i := (ix v)) F hC (by omega) (by decide +kernel) dX5_messageAt_33 ?_
      exact x_qa F hr (.inl ⟨_, rfl⟩) hlocks (fun _ h => h) ⟨hok, rfl, rfl, rfl, rfl⟩ (by decide) (by decide) dX5_messageAt_36
    ·
      exact x_throw_io F hfl (by decide +kernel) (by decide +kernel) (by decide +kernel) (is := 206) (sa := D.2 100 14) F.2.2.2.2.2.2.2.2.2.1 hno hlocks ⟨rfl, fun q => c3 ((inR_n (by omega)).mp q).2⟩ dX5_messageAt_15 dX5_messageAt_18 dX5_messageAt_19 dX5_messageAt_21 dX5_messageAt_24 (Nat.le_of_ble_eq_true rfl) (Nat.le_of_ble_eq_true rfl) (Nat.le_of_ble_eq_true rfl) (Nat.le_of_ble_eq_true rfl) (Nat.le_of_ble_eq_true rfl) (Nat.le_of_ble_eq_true rfl)
set_option maxHeartbeats 4000000 in
set_option maxRecDepth 100000 in
theorem cc_waitingAt (l : Launch) (D : va_G) (A : Nat → Prop) (cs : Nat → ClassId) (ad : Nat → Nat → Nat) (dm : Nat → Nat → Prop) (σ : SG) (Lx : Nat → List Nat) (cap : Nat → Nat) (mk : Nat → Int32) (ev : SG) (zl tx mt tn : Nat → Nat) (tc : SG) (w0 : CF) (n tq : Nat) (hC : CD dm n cap tq) (v : Int32) (hn40 : n ≤ 40) (hL : Lx 0 = List.range n) (hlo : LO n Lx cap) (hfl : l.stackTraces = false) : vx_Met l yX5_waitingMessageAt wsX5_waitingMessageAt ({ frames := 7, cells := 2, slots := 12, locals := 111 }) (va_Pc [.ref (ad 10 0), .int v] (PW D A (tysG cs) ad dm (cw D ad cs σ Lx cap mk ev zl tx mt tn tc w0))) (QW D A (tysG cs) (fun r ad1 dm1 w1 => (inR v 0 (nI n - 1) ∧ σ 23 (ix v) = 0) ∧ r = some (.ref (ad 17 (ix v))) ∧ ad = ad1 ∧ dm = dm1 ∧ (cw D ad cs σ Lx cap mk ev zl tx mt tn tc w0) = w1)) (XW D A (tysG cs) ad dm (cw D ad cs σ Lx cap mk ev zl tx mt tn tc w0) (fun E => (E = xIO ∧ ¬ inR v 0 (nI n - 1)) ∨ (E = xIS ∧ inR v 0 (nI n - 1) ∧ ¬ σ 23 (ix v) = 0))) 2 12 A := by
  refine q_start (own := RX5) [.ref (ad 10 0), .int v] (cc := cX5_waitingMessageAt) (maxL := 3) (ret := (some (.object "MessageCentre$Message"))) (lv0 := [(0, .ref (ad 10 0)), (1, .int v)]) (by decide) rfl rfl (Nat.le_of_ble_eq_true rfl) rfl ?_
  intro p e s m below meth c F hr hlocks hno
  have hinX3 : ∀ w ∈ wsX30, w ∈ wsX5_waitingMessageAt := by decide +kernel
  refine g_aload_n F 0 dX5_waitingMessageAt_0 rfl rfl ?_
  refine g_iload_n F 1 dX5_waitingMessageAt_1 rfl rfl ?_
  refine x_callV F (C := RX5) (k := 10) (i := 0) (ci := 5) (T := TX5) (N := 4) (rest := []) [.int v] (cc_messageAt l D A cs ad dm σ Lx cap mk ev zl tx mt tn tc w0 n tq hC v hn40 hL hlo hfl) (cwV 1 F.1.2.2.2.2 gX5_waitingMessageAt_X5_messageAt rfl rfl rfl (by decide +kernel) ⟨Nat.le_of_ble_eq_true rfl, Nat.le_of_ble_eq_true rfl⟩) rfl hC.1 rfl rfl rfl rfl (Nat.le_of_ble_eq_true rfl) dX5_waitingMessageAt_2 ⟨Nat.le_of_ble_eq_true rfl, Nat.le_of_ble_eq_true rfl⟩ (x_prop F hno hlocks (fun _ h => .inl h) (Nat.le_of_ble_eq_true rfl) (Nat.le_of_ble_eq_true rfl)) (fun _ _ _ _ v1 => ?_)
  obtain ⟨hc2, rfl, rfl, rfl, rfl⟩ := v1
  have hb2 := (ix_mg (by omega) hc2).2
  show GG p l e _ s m _ below meth c D A ad dm _ _ _ _ (cw D ad cs σ Lx cap mk ev zl tx mt tn tc w0) 5 _ [.ref (ad 17 (ix v))]
  refine g_astore_n F (lv1 := [(2, .ref (ad 17 (ix v))), (0, .ref (ad 10 0)), (1, .int v)]) dX5_waitingMessageAt_5 rfl (by decide) rfl ?_
  refine g_aload_n F 0 dX5_waitingMessageAt_6 rfl rfl ?_
  refine g_getf (k := 17) (i := (ix v)) (ci := 3) (C := RX3) (T := TX3) (N := 16) (fs := (cM ad σ mt (ix v))) (fk := 12) F hinX3 (hC.2.2.2.2.2.2.2.1 (ix v) (by omega)).1 rfl rfl (by decide) (by decide +kernel) rfl rfl dX5_waitingMessageAt_7 ?_
  refine g_if_eq F (tgt := 23) dX5_waitingMessageAt_10 (by decide) (fun c2 => ?_) (fun c2 => ?_)
  ·
    refine g_aload_n F 0 dX5_waitingMessageAt_23 rfl rfl ?_
    exact x_qa F hr (.inl ⟨_, rfl⟩) hlocks (fun _ h => h) ⟨⟨hc2, c2⟩, rfl, rfl, rfl, rfl⟩ (by decide) (by decide) dX5_waitingMessageAt_24
  ·
    exact x_throw_is F hfl (by decide +kernel) (by decide +kernel) (by decide +kernel) (is := 208) (sa := D.2 100 15) F.2.2.2.2.2.2.2.2.2.2.1 hno hlocks (.inr ⟨rfl, hc2, c2⟩) dX5_waitingMessageAt_13 dX5_waitingMessageAt_16 dX5_waitingMessageAt_17 dX5_waitingMessageAt_19 dX5_waitingMessageAt_22 (Nat.le_of_ble_eq_true rfl) (Nat.le_of_ble_eq_true rfl) (Nat.le_of_ble_eq_true rfl) (Nat.le_of_ble_eq_true rfl) (Nat.le_of_ble_eq_true rfl) (Nat.le_of_ble_eq_true rfl)
set_option maxHeartbeats 4000000 in
set_option maxRecDepth 100000 in
theorem cc_messages (l : Launch) (D : va_G) (A : Nat → Prop) (cs : Nat → ClassId) (ad : Nat → Nat → Nat) (dm : Nat → Nat → Prop) (σ : SG) (Lx : Nat → List Nat) (cap : Nat → Nat) (mk : Nat → Int32) (ev : SG) (zl tx mt tn : Nat → Nat) (tc : SG) (w0 : CF) (n tq : Nat) (hC : CD dm n cap tq)  (hn40 : n ≤ 40) (hL : Lx 0 = List.range n) (hlo : LO n Lx cap) : Met l yX5_messages wsX5_messages ({ frames := 1, cells := 0, slots := 0, locals := 20 }) (va_Pc [.ref (ad 10 0)] (PW D A (tysG cs) ad dm (cw D ad cs σ Lx cap mk ev zl tx mt tn tc w0))) (QW D A (tysG cs) (fun r ad1 dm1 w1 => r = some (.int (nI n)) ∧ ad = ad1 ∧ dm = dm1 ∧ (cw D ad cs σ Lx cap mk ev zl tx mt tn tc w0) = w1)) 0 0 A := by
  refine g_start (own := RX5) [.ref (ad 10 0)] (cc := cX5_messages) (maxL := 1) (ret := (some .int)) (lv0 := [(0, .ref (ad 10 0))]) (by decide) rfl rfl (Nat.le_of_ble_eq_true rfl) rfl ?_
  intro p e s m below meth c F hr hlocks hno
  have hinX5 : ∀ w ∈ wsX50, w ∈ wsX5_messages := by decide +kernel
  refine g_aload_n F 0 dX5_messages_0 rfl rfl ?_
  refine g_getf (k := 10) (i := 0) (ci := 5) (C := RX5) (T := TX5) (N := 4) (fs := (cO ad σ)) (fk := 2) F hinX5 hC.1 rfl rfl (by decide) (by decide +kernel) rfl rfl dX5_messages_1 ?_
  refine q_callV F (C := RJx4a65c) (k := 15) (i := 0) (ci := 0) (T := TJx4a65c) (N := 3) (rest := []) [] (cl_size0 l D A cs ad dm σ Lx cap mk ev zl tx mt tn tc w0 n tq hC hn40 hL hlo) (cwV 0 F.1.2.2.2.2 gX5_messages_Jx4a65c_size_8abf5 rfl rfl rfl (by decide +kernel) ⟨Nat.le_of_ble_eq_true rfl, Nat.le_of_ble_eq_true rfl⟩) rfl (hC.2.2.2.2.2.1 0 (by omega)) rfl rfl rfl rfl (Nat.le_of_ble_eq_true rfl) dX5_messages_4 ⟨Nat.le_of_ble_eq_true rfl, Nat.le_of_ble_eq_true rfl⟩ (fun _ _ _ _ v1 => ?_)
  obtain ⟨rfl, rfl, rfl, rfl⟩ := v1
  show GG p l e _ s m _ below meth c D A ad dm _ _ _ _ (cw D ad cs σ Lx cap mk ev zl tx mt tn tc w0) 7 _ [.int (nI n)]
  exact g_qi F hr hlocks (fun _ h => h) ⟨rfl, rfl, rfl, rfl⟩ (by decide) (by decide) dX5_messages_7
set_option maxHeartbeats 4000000 in
set_option maxRecDepth 100000 in
theorem cc_now (l : Launch) (D : va_G) (A : Nat → Prop) (cs : Nat → ClassId) (ad : Nat → Nat → Nat) (dm : Nat → Nat → Prop) (σ : SG) (Lx : Nat → List Nat) (cap : Nat → Nat) (mk : Nat → Int32) (ev : SG) (zl tx mt tn : Nat → Nat) (tc : SG) (w0 : CF) (n tq : Nat) (hC : CD dm n cap tq)   : Met l yX5_now wsX5_now ({ frames := 0, cells := 0, slots := 0, locals := 0 }) (va_Pc [.ref (ad 10 0)] (PW D A (tysG cs) ad dm (cw D ad cs σ Lx cap mk ev zl tx mt tn tc w0))) (QW D A (tysG cs) (fun r ad1 dm1 w1 => r = some (.int (σ 0 0)) ∧ ad = ad1 ∧ dm = dm1 ∧ (cw D ad cs σ Lx cap mk ev zl tx mt tn tc w0) = w1)) 0 0 A := by
  refine g_start (own := RX5) [.ref (ad 10 0)] (cc := cX5_now) (maxL := 1) (ret := (some .int)) (lv0 := [(0, .ref (ad 10 0))]) (by decide) rfl rfl (Nat.le_of_ble_eq_true rfl) rfl ?_
  intro p e s m below meth c F hr hlocks hno
  have hinX5 : ∀ w ∈ wsX50, w ∈ wsX5_now := by decide +kernel
  refine g_aload_n F 0 dX5_now_0 rfl rfl ?_
  refine g_getf (k := 10) (i := 0) (ci := 5) (C := RX5) (T := TX5) (N := 4) (fs := (cO ad σ)) (fk := 3) F hinX5 hC.1 rfl rfl (by decide) (by decide +kernel) rfl rfl dX5_now_1 ?_
  exact g_qi F hr hlocks (fun _ h => h) ⟨rfl, rfl, rfl, rfl⟩ (by decide) (by decide) dX5_now_4
set_option maxHeartbeats 4000000 in
set_option maxRecDepth 100000 in
theorem cc_state (l : Launch) (D : va_G) (A : Nat → Prop) (cs : Nat → ClassId) (ad : Nat → Nat → Nat) (dm : Nat → Nat → Prop) (σ : SG) (Lx : Nat → List Nat) (cap : Nat → Nat) (mk : Nat → Int32) (ev : SG) (zl tx mt tn : Nat → Nat) (tc : SG) (w0 : CF) (n tq : Nat) (hC : CD dm n cap tq) (v : Int32) (hn40 : n ≤ 40) (hL : Lx 0 = List.range n) (hlo : LO n Lx cap) (hfl : l.stackTraces = false) : vx_Met l yX5_state wsX5_state ({ frames := 7, cells := 1, slots := 6, locals := 111 }) (va_Pc [.ref (ad 10 0), .int v] (PW D A (tysG cs) ad dm (cw D ad cs σ Lx cap mk ev zl tx mt tn tc w0))) (QW D A (tysG cs) (fun r ad1 dm1 w1 => (inR v 0 (nI n - 1)) ∧ r = some (.int (σ 23 (ix v))) ∧ ad = ad1 ∧ dm = dm1 ∧ (cw D ad cs σ Lx cap mk ev zl tx mt tn tc w0) = w1)) (XW D A (tysG cs) ad dm (cw D ad cs σ Lx cap mk ev zl tx mt tn tc w0) (fun E => E = xIO ∧ ¬ inR v 0 (nI n - 1))) 1 6 A := by
  refine q_start (own := RX5) [.ref (ad 10 0), .int v] (cc := cX5_state) (maxL := 2) (ret := (some .int)) (lv0 := [(0, .ref (ad 10 0)), (1, .int v)]) (by decide) rfl rfl (Nat.le_of_ble_eq_true rfl) rfl ?_
  intro p e s m below meth c F hr hlocks hno
  have hinX3 : ∀ w ∈ wsX30, w ∈ wsX5_state := by decide +kernel
  refine g_aload_n F 0 dX5_state_0 rfl rfl ?_
  refine g_iload_n F 1 dX5_state_1 rfl rfl ?_
  refine x_callV F (C := RX5) (k := 10) (i := 0) (ci := 5) (T := TX5) (N := 4) (rest := []) [.int v] (cc_messageAt l D A cs ad dm σ Lx cap mk ev zl tx mt tn tc w0 n tq hC v hn40 hL hlo hfl) (cwV 1 F.1.2.2.2.2 gX5_state_X5_messageAt rfl rfl rfl (by decide +kernel) ⟨Nat.le_of_ble_eq_true rfl, Nat.le_of_ble_eq_true rfl⟩) rfl hC.1 rfl rfl rfl rfl (Nat.le_of_ble_eq_true rfl) dX5_state_2 ⟨Nat.le_of_ble_eq_true rfl, Nat.le_of_ble_eq_true rfl⟩ (x_prop F hno hlocks (fun E h => h) (Nat.le_of_ble_eq_true rfl) (Nat.le_of_ble_eq_true rfl)) (fun _ _ _ _ v1 => ?_)
  obtain ⟨hc2, rfl, rfl, rfl, rfl⟩ := v1
  have hb2 := (ix_mg (by omega) hc2).2
  show GG p l e _ s m _ below meth c D A ad dm _ _ _ _ (cw D ad cs σ Lx cap mk ev zl tx mt tn tc w0) 5 _ [.ref (ad 17 (ix v))]
  refine g_getf (k := 17) (i := (ix v)) (ci := 3) (C := RX3) (T := TX3) (N := 16) (fs := (cM ad σ mt (ix v))) (fk := 12) F hinX3 (hC.2.2.2.2.2.2.2.1 (ix v) (by omega)).1 rfl rfl (by decide) (by decide +kernel) rfl rfl dX5_state_5 ?_
  exact x_qi F hr hlocks (fun _ h => h) ⟨hc2, rfl, rfl, rfl, rfl⟩ (by decide) (by decide) dX5_state_8
set_option maxHeartbeats 4000000 in
set_option maxRecDepth 100000 in
theorem cc_delivered (l : Launch) (D : va_G) (A : Nat → Prop) (cs : Nat → ClassId) (ad : Nat → Nat → Nat) (dm : Nat → Nat → Prop) (σ : SG) (Lx : Nat → List Nat) (cap : Nat → Nat) (mk : Nat → Int32) (ev : SG) (zl tx mt tn : Nat → Nat) (tc : SG) (w0 : CF) (n tq : Nat) (hC : CD dm n cap tq) (v : Int32) (hn40 : n ≤ 40) (hL : Lx 0 = List.range n) (hlo : LO n Lx cap) (hfl : l.stackTraces = false) : vx_Met l yX5_delivered wsX5_delivered ({ frames := 7, cells := 1, slots := 6, locals := 111 }) (va_Pc [.ref (ad 10 0), .int v] (PW D A (tysG cs) ad dm (cw D ad cs σ Lx cap mk ev zl tx mt tn tc w0))) (QW D A (tysG cs) (fun r ad1 dm1 w1 => (inR v 0 (nI n - 1)) ∧ r = some (.int (σ 24 (ix v))) ∧ ad = ad1 ∧ dm = dm1 ∧ (cw D ad cs σ Lx cap mk ev zl tx mt tn tc w0) = w1)) (XW D A (tysG cs) ad dm (cw D ad cs σ Lx cap mk ev zl tx mt tn tc w0) (fun E => E = xIO ∧ ¬ inR v 0 (nI n - 1))) 1 6 A := by
  refine q_start (own := RX5) [.ref (ad 10 0), .int v] (cc := cX5_delivered) (maxL := 2) (ret := (some .int)) (lv0 := [(0, .ref (ad 10 0)), (1, .int v)]) (by decide) rfl rfl (Nat.le_of_ble_eq_true rfl) rfl ?_
  intro p e s m below meth c F hr hlocks hno
  have hinX3 : ∀ w ∈ wsX30, w ∈ wsX5_delivered := by decide +kernel
  refine g_aload_n F 0 dX5_delivered_0 rfl rfl ?_
  refine g_iload_n F 1 dX5_delivered_1 rfl rfl ?_
  refine x_callV F (C := RX5) (k := 10) (i := 0) (ci := 5) (T := TX5) (N := 4) (rest := []) [.int v] (cc_messageAt l D A cs ad dm σ Lx cap mk ev zl tx mt tn tc w0 n tq hC v hn40 hL hlo hfl) (cwV 1 F.1.2.2.2.2 gX5_delivered_X5_messageAt rfl rfl rfl (by decide +kernel) ⟨Nat.le_of_ble_eq_true rfl, Nat.le_of_ble_eq_true rfl⟩) rfl hC.1 rfl rfl rfl rfl (Nat.le_of_ble_eq_true rfl) dX5_delivered_2 ⟨Nat.le_of_ble_eq_true rfl, Nat.le_of_ble_eq_true rfl⟩ (x_prop F hno hlocks (fun E h => h) (Nat.le_of_ble_eq_true rfl) (Nat.le_of_ble_eq_true rfl)) (fun _ _ _ _ v1 => ?_)
  obtain ⟨hc2, rfl, rfl, rfl, rfl⟩ := v1
  have hb2 := (ix_mg (by omega) hc2).2
  show GG p l e _ s m _ below meth c D A ad dm _ _ _ _ (cw D ad cs σ Lx cap mk ev zl tx mt tn tc w0) 5 _ [.ref (ad 17 (ix v))]
  refine g_getf (k := 17) (i := (ix v)) (ci := 3) (C := RX3) (T := TX3) (N := 16) (fs := (cM ad σ mt (ix v))) (fk := 15) F hinX3 (hC.2.2.2.2.2.2.2.1 (ix v) (by omega)).1 rfl rfl (by decide) (by decide +kernel) rfl rfl dX5_delivered_5 ?_
  exact x_qi F hr hlocks (fun _ h => h) ⟨hc2, rfl, rfl, rfl, rfl⟩ (by decide) (by decide) dX5_delivered_8
set_option maxHeartbeats 4000000 in
set_option maxRecDepth 100000 in
theorem cc_attempts (l : Launch) (D : va_G) (A : Nat → Prop) (cs : Nat → ClassId) (ad : Nat → Nat → Nat) (dm : Nat → Nat → Prop) (σ : SG) (Lx : Nat → List Nat) (cap : Nat → Nat) (mk : Nat → Int32) (ev : SG) (zl tx mt tn : Nat → Nat) (tc : SG) (w0 : CF) (n tq : Nat) (hC : CD dm n cap tq) (v : Int32) (hn40 : n ≤ 40) (hL : Lx 0 = List.range n) (hlo : LO n Lx cap) (hfl : l.stackTraces = false) : vx_Met l yX5_attempts wsX5_attempts ({ frames := 7, cells := 1, slots := 6, locals := 111 }) (va_Pc [.ref (ad 10 0), .int v] (PW D A (tysG cs) ad dm (cw D ad cs σ Lx cap mk ev zl tx mt tn tc w0))) (QW D A (tysG cs) (fun r ad1 dm1 w1 => (inR v 0 (nI n - 1)) ∧ r = some (.int (σ 25 (ix v))) ∧ ad = ad1 ∧ dm = dm1 ∧ (cw D ad cs σ Lx cap mk ev zl tx mt tn tc w0) = w1)) (XW D A (tysG cs) ad dm (cw D ad cs σ Lx cap mk ev zl tx mt tn tc w0) (fun E => E = xIO ∧ ¬ inR v 0 (nI n - 1))) 1 6 A := by
  refine q_start (own := RX5) [.ref (ad 10 0), .int v] (cc := cX5_attempts) (maxL := 2) (ret := (some .int)) (lv0 := [(0, .ref (ad 10 0)), (1, .int v)]) (by decide) rfl rfl (Nat.le_of_ble_eq_true rfl) rfl ?_
  intro p e s m below meth c F hr hlocks hno
  have hinX3 : ∀ w ∈ wsX30, w ∈ wsX5_attempts := by decide +kernel
  refine g_aload_n F 0 dX5_attempts_0 rfl rfl ?_
  refine g_iload_n F 1 dX5_attempts_1 rfl rfl ?_
  refine x_callV F (C := RX5) (k := 10) (i := 0) (ci := 5) (T := TX5) (N := 4) (rest := []) [.int v] (cc_messageAt l D A cs ad dm σ Lx cap mk ev zl tx mt tn tc w0 n tq hC v hn40 hL hlo hfl) (cwV 1 F.1.2.2.2.2 gX5_attempts_X5_messageAt rfl rfl rfl (by decide +kernel) ⟨Nat.le_of_ble_eq_true rfl, Nat.le_of_ble_eq_true rfl⟩) rfl hC.1 rfl rfl rfl rfl (Nat.le_of_ble_eq_true rfl) dX5_attempts_2 ⟨Nat.le_of_ble_eq_true rfl, Nat.le_of_ble_eq_true rfl⟩ (x_prop F hno hlocks (fun E h => h) (Nat.le_of_ble_eq_true rfl) (Nat.le_of_ble_eq_true rfl)) (fun _ _ _ _ v1 => ?_)
  obtain ⟨hc2, rfl, rfl, rfl, rfl⟩ := v1
  have hb2 := (ix_mg (by omega) hc2).2
  show GG p l e _ s m _ below meth c D A ad dm _ _ _ _ (cw D ad cs σ Lx cap mk ev zl tx mt tn tc w0) 5 _ [.ref (ad 17 (ix v))]
  refine g_getf (k := 17) (i := (ix v)) (ci := 3) (C := RX3) (T := TX3) (N := 16) (fs := (cM ad σ mt (ix v))) (fk := 14) F hinX3 (hC.2.2.2.2.2.2.2.1 (ix v) (by omega)).1 rfl rfl (by decide) (by decide +kernel) rfl rfl dX5_attempts_5 ?_
  exact x_qi F hr hlocks (fun _ h => h) ⟨hc2, rfl, rfl, rfl, rfl⟩ (by decide) (by decide) dX5_attempts_8
set_option maxHeartbeats 4000000 in
set_option maxRecDepth 100000 in
theorem cc_due (l : Launch) (D : va_G) (A : Nat → Prop) (cs : Nat → ClassId) (ad : Nat → Nat → Nat) (dm : Nat → Nat → Prop) (σ : SG) (Lx : Nat → List Nat) (cap : Nat → Nat) (mk : Nat → Int32) (ev : SG) (zl tx mt tn : Nat → Nat) (tc : SG) (w0 : CF) (n tq : Nat) (hC : CD dm n cap tq) (v : Int32) (hn40 : n ≤ 40) (hL : Lx 0 = List.range n) (hlo : LO n Lx cap) (hfl : l.stackTraces = false) : vx_Met l yX5_due wsX5_due ({ frames := 8, cells := 2, slots := 12, locals := 133 }) (va_Pc [.ref (ad 10 0), .int v] (PW D A (tysG cs) ad dm (cw D ad cs σ Lx cap mk ev zl tx mt tn tc w0))) (QW D A (tysG cs) (fun r ad1 dm1 w1 => (inR v 0 (nI n - 1) ∧ σ 23 (ix v) = 0) ∧ r = some (.int (σ 26 (ix v))) ∧ ad = ad1 ∧ dm = dm1 ∧ (cw D ad cs σ Lx cap mk ev zl tx mt tn tc w0) = w1)) (XW D A (tysG cs) ad dm (cw D ad cs σ Lx cap mk ev zl tx mt tn tc w0) (fun E => (E = xIO ∧ ¬ inR v 0 (nI n - 1)) ∨ (E = xIS ∧ inR v 0 (nI n - 1) ∧ ¬ σ 23 (ix v) = 0))) 2 12 A := by
  refine q_start (own := RX5) [.ref (ad 10 0), .int v] (cc := cX5_due) (maxL := 2) (ret := (some .int)) (lv0 := [(0, .ref (ad 10 0)), (1, .int v)]) (by decide) rfl rfl (Nat.le_of_ble_eq_true rfl) rfl ?_
  intro p e s m below meth c F hr hlocks hno
  have hinX3 : ∀ w ∈ wsX30, w ∈ wsX5_due := by decide +kernel
  refine g_aload_n F 0 dX5_due_0 rfl rfl ?_
  refine g_iload_n F 1 dX5_due_1 rfl rfl ?_
  refine x_callV F (C := RX5) (k := 10) (i := 0) (ci := 5) (T := TX5) (N := 4) (rest := []) [.int v] (cc_waitingAt l D A cs ad dm σ Lx cap mk ev zl tx mt tn tc w0 n tq hC v hn40 hL hlo hfl) (cwV 1 F.1.2.2.2.2 gX5_due_X5_waitingMessageAt rfl rfl rfl (by decide +kernel) ⟨Nat.le_of_ble_eq_true rfl, Nat.le_of_ble_eq_true rfl⟩) rfl hC.1 rfl rfl rfl rfl (Nat.le_of_ble_eq_true rfl) dX5_due_2 ⟨Nat.le_of_ble_eq_true rfl, Nat.le_of_ble_eq_true rfl⟩ (x_prop F hno hlocks (fun E h => h) (Nat.le_of_ble_eq_true rfl) (Nat.le_of_ble_eq_true rfl)) (fun _ _ _ _ v1 => ?_)
  obtain ⟨⟨hc2, hd2⟩, rfl, rfl, rfl, rfl⟩ := v1
  have hb2 := (ix_mg (by omega) hc2).2
  show GG p l e _ s m _ below meth c D A ad dm _ _ _ _ (cw D ad cs σ Lx cap mk ev zl tx mt tn tc w0) 5 _ [.ref (ad 17 (ix v))]
  refine g_getf (k := 17) (i := (ix v)) (ci := 3) (C := RX3) (T := TX3) (N := 16) (fs := (cM ad σ mt (ix v))) (fk := 13) F hinX3 (hC.2.2.2.2.2.2.2.1 (ix v) (by omega)).1 rfl rfl (by decide) (by decide +kernel) rfl rfl dX5_due_5 ?_
  exact x_qi F hr hlocks (fun _ h => h) ⟨⟨hc2, hd2⟩, rfl, rfl, rfl, rfl⟩ (by decide) (by decide) dX5_due_8
set_option maxHeartbeats 4000000 in
set_option maxRecDepth 100000 in
theorem cc_inRoom (l : Launch) (D : va_G) (A : Nat → Prop) (cs : Nat → ClassId) (ad : Nat → Nat → Nat) (dm : Nat → Nat → Prop) (σ : SG) (Lx : Nat → List Nat) (cap : Nat → Nat) (mk : Nat → Int32) (ev : SG) (zl tx mt tn : Nat → Nat) (tc : SG) (w0 : CF) (n tq : Nat) (hC : CD dm n cap tq) (v : Int32) (hfl : l.stackTraces = false) : vx_Met l yX5_inRoom wsX5_inRoom ({ frames := 7, cells := 1, slots := 6, locals := 111 }) (va_Pc [.ref (ad 10 0), .int v] (PW D A (tysG cs) ad dm (cw D ad cs σ Lx cap mk ev zl tx mt tn tc w0))) (QW D A (tysG cs) (fun r ad1 dm1 w1 => (recP v) ∧ r = some (.int (σ 30 (ix v))) ∧ ad = ad1 ∧ dm = dm1 ∧ (cw D ad cs σ Lx cap mk ev zl tx mt tn tc w0) = w1)) (XW D A (tysG cs) ad dm (cw D ad cs σ Lx cap mk ev zl tx mt tn tc w0) (fun E => E = xIO ∧ ¬ recP v)) 1 6 A := by
  refine q_start (own := RX5) [.ref (ad 10 0), .int v] (cc := cX5_inRoom) (maxL := 2) (ret := (some .int)) (lv0 := [(0, .ref (ad 10 0)), (1, .int v)]) (by decide) rfl rfl (Nat.le_of_ble_eq_true rfl) rfl ?_
  intro p e s m below meth c F hr hlocks hno
  have hinX4 : ∀ w ∈ wsX40, w ∈ wsX5_inRoom := by decide +kernel
  refine g_aload_n F 0 dX5_inRoom_0 rfl rfl ?_
  refine g_iload_n F 1 dX5_inRoom_1 rfl rfl ?_
  refine x_callV F (C := RX5) (k := 10) (i := 0) (ci := 5) (T := TX5) (N := 4) (rest := []) [.int v] (cc_recipientAt l D A cs ad dm σ Lx cap mk ev zl tx mt tn tc w0 n tq hC v hfl) (cwV 1 F.1.2.2.2.2 gX5_inRoom_X5_recipientAt rfl rfl rfl (by decide +kernel) ⟨Nat.le_of_ble_eq_true rfl, Nat.le_of_ble_eq_true rfl⟩) rfl hC.1 rfl rfl rfl rfl (Nat.le_of_ble_eq_true rfl) dX5_inRoom_2 ⟨Nat.le_of_ble_eq_true rfl, Nat.le_of_ble_eq_true rfl⟩ (x_prop F hno hlocks (fun E h => h) (Nat.le_of_ble_eq_true rfl) (Nat.le_of_ble_eq_true rfl)) (fun _ _ _ _ v1 => ?_)
  obtain ⟨hc2, rfl, rfl, rfl, rfl⟩ := v1
  have hb2 := (ix_rec hc2).2
  show GG p l e _ s m _ below meth c D A ad dm _ _ _ _ (cw D ad cs σ Lx cap mk ev zl tx mt tn tc w0) 5 _ [.ref (ad 14 (ix v))]
  refine g_getf (k := 14) (i := (ix v)) (ci := 4) (C := RX4) (T := TX4) (N := 5) (fs := (cR ad σ (ix v))) (fk := 2) F hinX4 (hC.2.2.2.2.1 (ix v) (by omega)) rfl rfl (by decide) (by decide +kernel) rfl rfl dX5_inRoom_5 ?_
  exact x_qi F hr hlocks (fun _ h => h) ⟨hc2, rfl, rfl, rfl, rfl⟩ (by decide) (by decide) dX5_inRoom_8
set_option maxHeartbeats 4000000 in
set_option maxRecDepth 100000 in
theorem cc_marks (l : Launch) (D : va_G) (A : Nat → Prop) (cs : Nat → ClassId) (ad : Nat → Nat → Nat) (dm : Nat → Nat → Prop) (σ : SG) (Lx : Nat → List Nat) (cap : Nat → Nat) (mk : Nat → Int32) (ev : SG) (zl tx mt tn : Nat → Nat) (tc : SG) (w0 : CF) (n tq : Nat) (hC : CD dm n cap tq) (v : Int32) (hfl : l.stackTraces = false) : vx_Met l yX5_marks wsX5_marks ({ frames := 7, cells := 1, slots := 6, locals := 111 }) (va_Pc [.ref (ad 10 0), .int v] (PW D A (tysG cs) ad dm (cw D ad cs σ Lx cap mk ev zl tx mt tn tc w0))) (QW D A (tysG cs) (fun r ad1 dm1 w1 => (recP v) ∧ r = some (.int (σ 31 (ix v))) ∧ ad = ad1 ∧ dm = dm1 ∧ (cw D ad cs σ Lx cap mk ev zl tx mt tn tc w0) = w1)) (XW D A (tysG cs) ad dm (cw D ad cs σ Lx cap mk ev zl tx mt tn tc w0) (fun E => E = xIO ∧ ¬ recP v)) 1 6 A := by
  refine q_start (own := RX5) [.ref (ad 10 0), .int v] (cc := cX5_marks) (maxL := 2) (ret := (some .int)) (lv0 := [(0, .ref (ad 10 0)), (1, .int v)]) (by decide) rfl rfl (Nat.le_of_ble_eq_true rfl) rfl ?_
  intro p e s m below meth c F hr hlocks hno
  have hinX4 : ∀ w ∈ wsX40, w ∈ wsX5_marks := by decide +kernel
  refine g_aload_n F 0 dX5_marks_0 rfl rfl ?_
  refine g_iload_n F 1 dX5_marks_1 rfl rfl ?_
  refine x_callV F (C := RX5) (k := 10) (i := 0) (ci := 5) (T := TX5) (N := 4) (rest := []) [.int v] (cc_recipientAt l D A cs ad dm σ Lx cap mk ev zl tx mt tn tc w0 n tq hC v hfl) (cwV 1 F.1.2.2.2.2 gX5_marks_X5_recipientAt rfl rfl rfl (by decide +kernel) ⟨Nat.le_of_ble_eq_true rfl, Nat.le_of_ble_eq_true rfl⟩) rfl hC.1 rfl rfl rfl rfl (Nat.le_of_ble_eq_true rfl) dX5_marks_2 ⟨Nat.le_of_ble_eq_true rfl, Nat.le_of_ble_eq_true rfl⟩ (x_prop F hno hlocks (fun E h => h) (Nat.le_of_ble_eq_true rfl) (Nat.le_of_ble_eq_true rfl)) (fun _ _ _ _ v1 => ?_)
  obtain ⟨hc2, rfl, rfl, rfl, rfl⟩ := v1
  have hb2 := (ix_rec hc2).2
  show GG p l e _ s m _ below meth c D A ad dm _ _ _ _ (cw D ad cs σ Lx cap mk ev zl tx mt tn tc w0) 5 _ [.ref (ad 14 (ix v))]
  refine g_getf (k := 14) (i := (ix v)) (ci := 4) (C := RX4) (T := TX4) (N := 5) (fs := (cR ad σ (ix v))) (fk := 3) F hinX4 (hC.2.2.2.2.1 (ix v) (by omega)) rfl rfl (by decide) (by decide +kernel) rfl rfl dX5_marks_5 ?_
  exact x_qi F hr hlocks (fun _ h => h) ⟨hc2, rfl, rfl, rfl, rfl⟩ (by decide) (by decide) dX5_marks_8
set_option maxHeartbeats 4000000 in
set_option maxRecDepth 100000 in
theorem cc_waiting (l : Launch) (D : va_G) (A : Nat → Prop) (cs : Nat → ClassId) (ad : Nat → Nat → Nat) (dm : Nat → Nat → Prop) (σ : SG) (Lx : Nat → List Nat) (cap : Nat → Nat) (mk : Nat → Int32) (ev : SG) (zl tx mt tn : Nat → Nat) (tc : SG) (w0 : CF) (n tq : Nat) (hC : CD dm n cap tq) (v : Int32) (hfl : l.stackTraces = false) : vx_Met l yX5_waiting wsX5_waiting ({ frames := 7, cells := 1, slots := 6, locals := 111 }) (va_Pc [.ref (ad 10 0), .int v] (PW D A (tysG cs) ad dm (cw D ad cs σ Lx cap mk ev zl tx mt tn tc w0))) (QW D A (tysG cs) (fun r ad1 dm1 w1 => (recP v) ∧ r = some (.int (nI ((Lx (5 + (ix v))).length))) ∧ ad = ad1 ∧ dm = dm1 ∧ (cw D ad cs σ Lx cap mk ev zl tx mt tn tc w0) = w1)) (XW D A (tysG cs) ad dm (cw D ad cs σ Lx cap mk ev zl tx mt tn tc w0) (fun E => E = xIO ∧ ¬ recP v)) 1 6 A := by
  refine q_start (own := RX5) [.ref (ad 10 0), .int v] (cc := cX5_waiting) (maxL := 2) (ret := (some .int)) (lv0 := [(0, .ref (ad 10 0)), (1, .int v)]) (by decide) rfl rfl (Nat.le_of_ble_eq_true rfl) rfl ?_
  intro p e s m below meth c F hr hlocks hno
  have hinX4 : ∀ w ∈ wsX40, w ∈ wsX5_waiting := by decide +kernel
  refine g_aload_n F 0 dX5_waiting_0 rfl rfl ?_
  refine g_iload_n F 1 dX5_waiting_1 rfl rfl ?_
  refine x_callV F (C := RX5) (k := 10) (i := 0) (ci := 5) (T := TX5) (N := 4) (rest := []) [.int v] (cc_recipientAt l D A cs ad dm σ Lx cap mk ev zl tx mt tn tc w0 n tq hC v hfl) (cwV 1 F.1.2.2.2.2 gX5_waiting_X5_recipientAt rfl rfl rfl (by decide +kernel) ⟨Nat.le_of_ble_eq_true rfl, Nat.le_of_ble_eq_true rfl⟩) rfl hC.1 rfl rfl rfl rfl (Nat.le_of_ble_eq_true rfl) dX5_waiting_2 ⟨Nat.le_of_ble_eq_true rfl, Nat.le_of_ble_eq_true rfl⟩ (x_prop F hno hlocks (fun E h => h) (Nat.le_of_ble_eq_true rfl) (Nat.le_of_ble_eq_true rfl)) (fun _ _ _ _ v1 => ?_)
  obtain ⟨hc2, rfl, rfl, rfl, rfl⟩ := v1
  have hb2 := (ix_rec hc2).2
  show GG p l e _ s m _ below meth c D A ad dm _ _ _ _ (cw D ad cs σ Lx cap mk ev zl tx mt tn tc w0) 5 _ [.ref (ad 14 (ix v))]
  refine g_getf (k := 14) (i := (ix v)) (ci := 4) (C := RX4) (T := TX4) (N := 5) (fs := (cR ad σ (ix v))) (fk := 4) F hinX4 (hC.2.2.2.2.1 (ix v) (by omega)) rfl rfl (by decide) (by decide +kernel) rfl rfl dX5_waiting_5 ?_
  refine q_callV F (C := RJx4a65c) (k := 15) (i := (5 + (ix v))) (ci := 0) (T := TJx4a65c) (N := 3) (rest := []) [] (cl_size l D A cs ad dm σ Lx cap mk ev zl tx mt tn tc w0 n tq hC (5 + (ix v)) (by omega)) (cwV 0 F.1.2.2.2.2 gX5_waiting_Jx4a65c_size_8abf5 rfl rfl rfl (by decide +kernel) ⟨Nat.le_of_ble_eq_true rfl, Nat.le_of_ble_eq_true rfl⟩) rfl (hC.2.2.2.2.2.1 (5 + (ix v)) (by omega)) rfl rfl rfl rfl (Nat.le_of_ble_eq_true rfl) dX5_waiting_8 ⟨Nat.le_of_ble_eq_true rfl, Nat.le_of_ble_eq_true rfl⟩ (fun _ _ _ _ v2 => ?_)
  obtain ⟨rfl, rfl, rfl, rfl⟩ := v2
  show GG p l e _ s m _ below meth c D A ad dm _ _ _ _ (cw D ad cs σ Lx cap mk ev zl tx mt tn tc w0) 11 _ [.int (nI ((Lx (5 + (ix v))).length))]
  exact x_qi F hr hlocks (fun _ h => h) ⟨hc2, rfl, rfl, rfl, rfl⟩ (by decide) (by decide) dX5_waiting_11
set_option maxHeartbeats 4000000 in
set_option maxRecDepth 100000 in
theorem cc_receipts (l : Launch) (D : va_G) (A : Nat → Prop) (cs : Nat → ClassId) (ad : Nat → Nat → Nat) (dm : Nat → Nat → Prop) (σ : SG) (Lx : Nat → List Nat) (cap : Nat → Nat) (mk : Nat → Int32) (ev : SG) (zl tx mt tn : Nat → Nat) (tc : SG) (w0 : CF) (n tq : Nat) (hC : CD dm n cap tq) (v : Int32) (hfl : l.stackTraces = false) : vx_Met l yX5_receipts wsX5_receipts ({ frames := 7, cells := 1, slots := 6, locals := 111 }) (va_Pc [.ref (ad 10 0), .int v] (PW D A (tysG cs) ad dm (cw D ad cs σ Lx cap mk ev zl tx mt tn tc w0))) (QW D A (tysG cs) (fun r ad1 dm1 w1 => (accP v) ∧ r = some (.int (nI ((Lx (1 + (ix v))).length))) ∧ ad = ad1 ∧ dm = dm1 ∧ (cw D ad cs σ Lx cap mk ev zl tx mt tn tc w0) = w1)) (XW D A (tysG cs) ad dm (cw D ad cs σ Lx cap mk ev zl tx mt tn tc w0) (fun E => E = xIO ∧ ¬ accP v)) 1 6 A := by
  refine q_start (own := RX5) [.ref (ad 10 0), .int v] (cc := cX5_receipts) (maxL := 2) (ret := (some .int)) (lv0 := [(0, .ref (ad 10 0)), (1, .int v)]) (by decide) rfl rfl (Nat.le_of_ble_eq_true rfl) rfl ?_
  intro p e s m below meth c F hr hlocks hno
  have hinX0 : ∀ w ∈ wsX00, w ∈ wsX5_receipts := by decide +kernel
  refine g_aload_n F 0 dX5_receipts_0 rfl rfl ?_
  refine g_iload_n F 1 dX5_receipts_1 rfl rfl ?_
  refine x_callV F (C := RX5) (k := 10) (i := 0) (ci := 5) (T := TX5) (N := 4) (rest := []) [.int v] (cc_accountAt l D A cs ad dm σ Lx cap mk ev zl tx mt tn tc w0 n tq hC v hfl) (cwV 1 F.1.2.2.2.2 gX5_receipts_X5_accountAt rfl rfl rfl (by decide +kernel) ⟨Nat.le_of_ble_eq_true rfl, Nat.le_of_ble_eq_true rfl⟩) rfl hC.1 rfl rfl rfl rfl (Nat.le_of_ble_eq_true rfl) dX5_receipts_2 ⟨Nat.le_of_ble_eq_true rfl, Nat.le_of_ble_eq_true rfl⟩ (x_prop F hno hlocks (fun E h => h) (Nat.le_of_ble_eq_true rfl) (Nat.le_of_ble_eq_true rfl)) (fun _ _ _ _ v1 => ?_)
  obtain ⟨hc2, rfl, rfl, rfl, rfl⟩ := v1
  have hb2 := (ix_acc hc2).2
  show GG p l e _ s m _ below meth c D A ad dm _ _ _ _ (cw D ad cs σ Lx cap mk ev zl tx mt tn tc w0) 5 _ [.ref (ad 13 (ix v))]
  refine g_getf (k := 13) (i := (ix v)) (ci := 1) (C := RX0) (T := TX0) (N := 7) (fs := (cA ad σ tx (ix v))) (fk := 6) F hinX0 (hC.2.2.2.1 (ix v) (by omega)) rfl rfl (by decide) (by decide +kernel) rfl rfl dX5_receipts_5 ?_
  refine q_callV F (C := RJx4a65c) (k := 15) (i := (1 + (ix v))) (ci := 0) (T := TJx4a65c) (N := 3) (rest := []) [] (cl_size l D A cs ad dm σ Lx cap mk ev zl tx mt tn tc w0 n tq hC (1 + (ix v)) (by omega)) (cwV 0 F.1.2.2.2.2 gX5_receipts_Jx4a65c_size_8abf5 rfl rfl rfl (by decide +kernel) ⟨Nat.le_of_ble_eq_true rfl, Nat.le_of_ble_eq_true rfl⟩) rfl (hC.2.2.2.2.2.1 (1 + (ix v)) (by omega)) rfl rfl rfl rfl (Nat.le_of_ble_eq_true rfl) dX5_receipts_8 ⟨Nat.le_of_ble_eq_true rfl, Nat.le_of_ble_eq_true rfl⟩ (fun _ _ _ _ v2 => ?_)
  obtain ⟨rfl, rfl, rfl, rfl⟩ := v2
  show GG p l e _ s m _ below meth c D A ad dm _ _ _ _ (cw D ad cs σ Lx cap mk ev zl tx mt tn tc w0) 11 _ [.int (nI ((Lx (1 + (ix v))).length))]
  exact x_qi F hr hlocks (fun _ h => h) ⟨hc2, rfl, rfl, rfl, rfl⟩ (by decide) (by decide) dX5_receipts_11
set_option maxHeartbeats 4000000 in
set_option maxRecDepth 100000 in
theorem cc_parts (l : Launch) (D : va_G) (A : Nat → Prop) (cs : Nat → ClassId) (ad : Nat → Nat → Nat) (dm : Nat → Nat → Prop) (σ : SG) (Lx : Nat → List Nat) (cap : Nat → Nat) (mk : Nat → Int32) (ev : SG) (zl tx mt tn : Nat → Nat) (tc : SG) (w0 : CF) (n tq : Nat) (hC : CD dm n cap tq) (v : Int32) (hn40 : n ≤ 40) (hL : Lx 0 = List.range n) (hlo : LO n Lx cap) (hmt : ∀ j, j < n → mt j < tq ∧ tn (mt j) ≤ 8) (hfl : l.stackTraces = false) : vx_Met l yX5_parts wsX5_parts ({ frames := 7, cells := 1, slots := 6, locals := 111 }) (va_Pc [.ref (ad 10 0), .int v] (PW D A (tysG cs) ad dm (cw D ad cs σ Lx cap mk ev zl tx mt tn tc w0))) (QW D A (tysG cs) (fun r ad1 dm1 w1 => (inR v 0 (nI n - 1)) ∧ r = some (.int (nI (tn (mt (ix v))))) ∧ ad = ad1 ∧ dm = dm1 ∧ (cw D ad cs σ Lx cap mk ev zl tx mt tn tc w0) = w1)) (XW D A (tysG cs) ad dm (cw D ad cs σ Lx cap mk ev zl tx mt tn tc w0) (fun E => E = xIO ∧ ¬ inR v 0 (nI n - 1))) 1 6 A := by
  refine q_start (own := RX5) [.ref (ad 10 0), .int v] (cc := cX5_parts) (maxL := 2) (ret := (some .int)) (lv0 := [(0, .ref (ad 10 0)), (1, .int v)]) (by decide) rfl rfl (Nat.le_of_ble_eq_true rfl) rfl ?_
  intro p e s m below meth c F hr hlocks hno
  have hinX3 : ∀ w ∈ wsX30, w ∈ wsX5_parts := by decide +kernel
  refine g_aload_n F 0 dX5_parts_0 rfl rfl ?_
  refine g_iload_n F 1 dX5_parts_1 rfl rfl ?_
  refine x_callV F (C := RX5) (k := 10) (i := 0) (ci := 5) (T := TX5) (N := 4) (rest := []) [.int v] (cc_messageAt l D A cs ad dm σ Lx cap mk ev zl tx mt tn tc w0 n tq hC v hn40 hL hlo hfl) (cwV 1 F.1.2.2.2.2 gX5_parts_X5_messageAt rfl rfl rfl (by decide +kernel) ⟨Nat.le_of_ble_eq_true rfl, Nat.le_of_ble_eq_true rfl⟩) rfl hC.1 rfl rfl rfl rfl (Nat.le_of_ble_eq_true rfl) dX5_parts_2 ⟨Nat.le_of_ble_eq_true rfl, Nat.le_of_ble_eq_true rfl⟩ (x_prop F hno hlocks (fun E h => h) (Nat.le_of_ble_eq_true rfl) (Nat.le_of_ble_eq_true rfl)) (fun _ _ _ _ v1 => ?_)
  obtain ⟨hc2, rfl, rfl, rfl, rfl⟩ := v1
  have hb2 := (ix_mg (by omega) hc2).2
  show GG p l e _ s m _ below meth c D A ad dm _ _ _ _ (cw D ad cs σ Lx cap mk ev zl tx mt tn tc w0) 5 _ [.ref (ad 17 (ix v))]
  refine g_getf (k := 17) (i := (ix v)) (ci := 3) (C := RX3) (T := TX3) (N := 16) (fs := (cM ad σ mt (ix v))) (fk := 3) F hinX3 (hC.2.2.2.2.2.2.2.1 (ix v) (by omega)).1 rfl rfl (by decide) (by decide +kernel) rfl rfl dX5_parts_5 ?_
  refine g_alen (t0 := 0) (k := 21) (i := (mt (ix v))) (v := (nI (tn (mt (ix v))))) F (hC.2.2.2.2.2.2.2.2 (mt (ix v)) (hmt (ix v) (by omega)).1) rfl rfl rfl dX5_parts_8 ?_
  exact x_qi F hr hlocks (fun _ h => h) ⟨hc2, rfl, rfl, rfl, rfl⟩ (by decide) (by decide) dX5_parts_9
set_option maxHeartbeats 4000000 in
set_option maxRecDepth 100000 in
theorem cc_lettersIn (l : Launch) (D : va_G) (A : Nat → Prop) (cs : Nat → ClassId) (ad : Nat → Nat → Nat) (dm : Nat → Nat → Prop) (σ : SG) (Lx : Nat → List Nat) (cap : Nat → Nat) (mk : Nat → Int32) (ev : SG) (zl tx mt tn : Nat → Nat) (tc : SG) (w0 : CF) (n tq : Nat) (hC : CD dm n cap tq) (v u : Int32) (hn40 : n ≤ 40) (hL : Lx 0 = List.range n) (hlo : LO n Lx cap) (hmt : ∀ j, j < n → mt j < tq ∧ tn (mt j) ≤ 8) (hfl : l.stackTraces = false) : vx_Met l yX5_lettersIn wsX5_lettersIn ({ frames := 7, cells := 2, slots := 12, locals := 111 }) (va_Pc [.ref (ad 10 0), .int v, .int u] (PW D A (tysG cs) ad dm (cw D ad cs σ Lx cap mk ev zl tx mt tn tc w0))) (QW D A (tysG cs) (fun r ad1 dm1 w1 => (inR v 0 (nI n - 1) ∧ inR u 0 (nI (tn (mt (ix v))) - 1)) ∧ r = some (.int (tc (mt (ix v)) (ix u))) ∧ ad = ad1 ∧ dm = dm1 ∧ (cw D ad cs σ Lx cap mk ev zl tx mt tn tc w0) = w1)) (XW D A (tysG cs) ad dm (cw D ad cs σ Lx cap mk ev zl tx mt tn tc w0) (fun E => E = xIO ∧ ¬ (inR v 0 (nI n - 1) ∧ inR u 0 (nI (tn (mt (ix v))) - 1)))) 2 12 A := by
  refine q_start (own := RX5) [.ref (ad 10 0), .int v, .int u] (cc := cX5_lettersIn) (maxL := 4) (ret := (some .int)) (lv0 := [(0, .ref (ad 10 0)), (1, .int v), (2, .int u)]) (by decide) rfl rfl (Nat.le_of_ble_eq_true rfl) rfl ?_
  intro p e s m below meth c F hr hlocks hno
  have hinX3 : ∀ w ∈ wsX30, w ∈ wsX5_lettersIn := by decide +kernel
  refine g_aload_n F 0 dX5_lettersIn_0 rfl rfl ?_
  refine g_iload_n F 1 dX5_lettersIn_1 rfl rfl ?_
  refine x_callV F (C := RX5) (k := 10) (i := 0) (ci := 5) (T := TX5) (N := 4) (rest := []) [.int v] (cc_messageAt l D A cs ad dm σ Lx cap mk ev zl tx mt tn tc w0 n tq hC v hn40 hL hlo hfl) (cwV 1 F.1.2.2.2.2 gX5_lettersIn_X5_messageAt rfl rfl rfl (by decide +kernel) ⟨Nat.le_of_ble_eq_true rfl, Nat.le_of_ble_eq_true rfl⟩) rfl hC.1 rfl rfl rfl rfl (Nat.le_of_ble_eq_true rfl) dX5_lettersIn_2 ⟨Nat.le_of_ble_eq_true rfl, Nat.le_of_ble_eq_true rfl⟩ (x_prop F hno hlocks (fun _ h => ⟨h.1, fun q => h.2 q.1⟩) (Nat.le_of_ble_eq_true rfl) (Nat.le_of_ble_eq_true rfl)) (fun _ _ _ _ v1 => ?_)
  obtain ⟨hc2, rfl, rfl, rfl, rfl⟩ := v1
  have hb2 := (ix_mg (by omega) hc2).2
  show GG p l e _ s m _ below meth c D A ad dm _ _ _ _ (cw D ad cs σ Lx cap mk ev zl tx mt tn tc w0) 5 _ [.ref (ad 17 (ix v))]
  refine g_getf (k := 17) (i := (ix v)) (ci := 3) (C := RX3) (T := TX3) (N := 16) (fs := (cM ad σ mt (ix v))) (fk := 3) F hinX3 (hC.2.2.2.2.2.2.2.1 (ix v) (by omega)).1 rfl rfl (by decide) (by decide +kernel) rfl rfl dX5_lettersIn_5 ?_
  refine g_astore_n F (lv1 := [(3, .ref (ad 21 (mt (ix v)))), (0, .ref (ad 10 0)), (1, .int v), (2, .int u)]) dX5_lettersIn_8 rfl (by decide) rfl ?_
  have ht8 := (hmt (ix v) (by omega)).2
  refine g_iload_n F 3 dX5_lettersIn_9 rfl rfl ?_
  refine g_if_lt F (tgt := 19) dX5_lettersIn_10 (by decide) (fun c2 => ?_) (fun c2 => ?_)
  ·
    exact x_throw_io F hfl (by decide +kernel) (by decide +kernel) (by decide +kernel) (is := 140) (sa := D.2 100 16) F.2.2.2.2.2.2.2.2.2.2.2.1 hno hlocks ⟨rfl, fun q => (fun q => ((inR_n (by omega)).mp q).1 c2) q.2⟩ dX5_lettersIn_19 dX5_lettersIn_22 dX5_lettersIn_23 dX5_lettersIn_25 dX5_lettersIn_28 (Nat.le_of_ble_eq_true rfl) (Nat.le_of_ble_eq_true rfl) (Nat.le_of_ble_eq_true rfl) (Nat.le_of_ble_eq_true rfl) (Nat.le_of_ble_eq_true rfl) (Nat.le_of_ble_eq_true rfl)
  ·
    refine g_iload_n F 3 dX5_lettersIn_13 rfl rfl ?_
    refine g_aload_n F 0 dX5_lettersIn_14 rfl rfl ?_
    refine g_alen (t0 := 0) (k := 21) (i := (mt (ix v))) (v := (nI (tn (mt (ix v))))) F (hC.2.2.2.2.2.2.2.2 (mt (ix v)) (hmt (ix v) (by omega)).1) rfl rfl rfl dX5_lettersIn_15 ?_
    refine g_icmp_lt F (tgt := 29) dX5_lettersIn_16 (by decide) (fun c3 => ?_) (fun c3 => ?_)
    ·
      have hok : inR u 0 (nI (tn (mt (ix v))) - 1) := (inR_n (by omega)).mpr ⟨c2, c3⟩
      obtain ⟨hu, hb⟩ := ix_mg (by omega) hok
      refine g_aload_n F 0 dX5_lettersIn_29 rfl rfl ?_
      refine g_iload_n F 3 dX5_lettersIn_30 rfl rfl ?_
      refine ca_iald (k := 21) (i := (mt (ix v))) (n := (tn (mt (ix v)))) (f := (tc (mt (ix v)))) F (hC.2.2.2.2.2.2.2.2 (mt (ix v)) (hmt (ix v) (by omega)).1) rfl hu ⟨by omega, by omega⟩ (v := (tc (mt (ix v)) (ix u))) rfl dX5_lettersIn_31 ?_
      exact x_qi F hr hlocks (fun _ h => h) ⟨⟨hc2, hok⟩, rfl, rfl, rfl, rfl⟩ (by decide) (by decide) dX5_lettersIn_32
    ·
      exact x_throw_io F hfl (by decide +kernel) (by decide +kernel) (by decide +kernel) (is := 140) (sa := D.2 100 16) F.2.2.2.2.2.2.2.2.2.2.2.1 hno hlocks ⟨rfl, fun q => (fun q => c3 ((inR_n (by omega)).mp q).2) q.2⟩ dX5_lettersIn_19 dX5_lettersIn_22 dX5_lettersIn_23 dX5_lettersIn_25 dX5_lettersIn_28 (Nat.le_of_ble_eq_true rfl) (Nat.le_of_ble_eq_true rfl) (Nat.le_of_ble_eq_true rfl) (Nat.le_of_ble_eq_true rfl) (Nat.le_of_ble_eq_true rfl) (Nat.le_of_ble_eq_true rfl)
set_option maxHeartbeats 4000000 in
set_option maxRecDepth 100000 in
theorem cc_between (l : Launch) (D : va_G) (A : Nat → Prop) (cs : Nat → ClassId) (ad : Nat → Nat → Nat) (dm : Nat → Nat → Prop) (σ : SG) (Lx : Nat → List Nat) (cap : Nat → Nat) (mk : Nat → Int32) (ev : SG) (zl tx mt tn : Nat → Nat) (tc : SG) (w0 : CF) (n tq : Nat) (hC : CD dm n cap tq) (j a b : Nat) (hj : j < n) (ha : a < 4) (hb6 : b < 6) (hja : ix (σ 12 j) < 4) (hjr : ix (σ 13 j) < 6) : Met l yX3_goesBetween wsX3_goesBetween ({ frames := 0, cells := 0, slots := 0, locals := 0 }) (va_Pc [.ref (ad 17 j), .ref (ad 13 a), .ref (ad 14 b)] (PW D A (tysG cs) ad dm (cw D ad cs σ Lx cap mk ev zl tx mt tn tc w0))) (QW D A (tysG cs) (fun r ad1 dm1 w1 => r = some (.int (bi (ix (σ 12 j) = a ∧ ix (σ 13 j) = b))) ∧ ad = ad1 ∧ dm = dm1 ∧ (cw D ad cs σ Lx cap mk ev zl tx mt tn tc w0) = w1)) 0 0 A := by
  refine g_start (own := RX3) [.ref (ad 17 j), .ref (ad 13 a), .ref (ad 14 b)] (cc := cX3_goesBetween) (maxL := 3) (ret := (some .boolean)) (lv0 := [(0, .ref (ad 17 j)), (1, .ref (ad 13 a)), (2, .ref (ad 14 b))]) (by decide) rfl rfl (Nat.le_of_ble_eq_true rfl) rfl ?_
  intro p e s m below meth c F hr hlocks hno
  have hinX3 : ∀ w ∈ wsX30, w ∈ wsX3_goesBetween := by decide +kernel
  refine g_aload_n F 0 dX3_goesBetween_0 rfl rfl ?_
  refine g_getf (k := 17) (i := j) (ci := 3) (C := RX3) (T := TX3) (N := 16) (fs := (cM ad σ mt j)) (fk := 1) F hinX3 (hC.2.2.2.2.2.2.2.1 j (by omega)).1 rfl rfl (by decide) (by decide +kernel) rfl rfl dX3_goesBetween_1 ?_
  refine g_aload_n F 1 dX3_goesBetween_4 rfl rfl ?_
  refine g_cut (w2 := (cw D ad cs σ Lx cap mk ev zl tx mt tn tc w0)) (pc2 := 21) (lv2 := [(0, .ref (ad 17 j)), (1, .ref (ad 13 a)), (2, .ref (ad 14 b))]) (st2 := [.int (bi ((((ix (σ 12 j)) = a) ∧ ((ix (σ 13 j)) = b))))]) ?_ (fun hJ1 => ?_)
  ·
    exact g_qz F hr (bi_nar _) hlocks (fun _ h => h) ⟨(congrArg some (rfl)), rfl, rfl, rfl⟩ (by decide) (by decide) dX3_goesBetween_21
  ·
    refine ca_acmp_ne (hC.2.2.2.1 (ix (σ 12 j)) (by omega)) (hC.2.2.2.1 a (by omega)) F (tgt := 20) dX3_goesBetween_5 (by decide) (fun c2 => ?_) (fun c2 => ?_)
    ·
      refine g_iconst F dX3_goesBetween_20 (v := 0) (by decide) ?_
      exact g_top (bi_f (fun q => c2 q.1)) hJ1
    ·
      refine g_aload_n F 0 dX3_goesBetween_8 rfl rfl ?_
      refine g_getf (k := 17) (i := j) (ci := 3) (C := RX3) (T := TX3) (N := 16) (fs := (cM ad σ mt j)) (fk := 2) F hinX3 (hC.2.2.2.2.2.2.2.1 j (by omega)).1 rfl rfl (by decide) (by decide +kernel) rfl rfl dX3_goesBetween_9 ?_
      refine g_aload_n F 2 dX3_goesBetween_12 rfl rfl ?_
      refine ca_acmp_ne (hC.2.2.2.2.1 (ix (σ 13 j)) (by omega)) (hC.2.2.2.2.1 b (by omega)) F (tgt := 20) dX3_goesBetween_13 (by decide) (fun c3 => ?_) (fun c3 => ?_)
      ·
        refine g_iconst F dX3_goesBetween_20 (v := 0) (by decide) ?_
        exact g_top (bi_f (fun q => c3 q.2)) hJ1
      ·
        refine g_iconst F dX3_goesBetween_16 (v := 1) (by decide) ?_
        refine g_goto F (tgt := 21) dX3_goesBetween_17 (by decide) ?_
        exact g_top (bi_t ⟨c2, c3⟩) hJ1
set_option maxHeartbeats 4000000 in
set_option maxRecDepth 100000 in
theorem cc_before (l : Launch) (D : va_G) (A : Nat → Prop) (cs : Nat → ClassId) (ad : Nat → Nat → Nat) (dm : Nat → Nat → Prop) (σ : SG) (Lx : Nat → List Nat) (cap : Nat → Nat) (mk : Nat → Int32) (ev : SG) (zl tx mt tn : Nat → Nat) (tc : SG) (w0 : CF) (n tq : Nat) (hC : CD dm n cap tq) (j b : Nat) (hj : j < n) (hb : b < n) : Met l yX3_goesBefore wsX3_goesBefore ({ frames := 0, cells := 0, slots := 0, locals := 0 }) (va_Pc [.ref (ad 17 j), .ref (ad 17 b)] (PW D A (tysG cs) ad dm (cw D ad cs σ Lx cap mk ev zl tx mt tn tc w0))) (QW D A (tysG cs) (fun r ad1 dm1 w1 => r = some (.int (bi ((¬ (σ 14 j) = (σ 14 b) ∧ ¬ (σ 14 j) ≤ (σ 14 b)) ∨ ((σ 14 j) = (σ 14 b) ∧ ¬ (σ 26 b) ≤ (σ 26 j))))) ∧ ad = ad1 ∧ dm = dm1 ∧ (cw D ad cs σ Lx cap mk ev zl tx mt tn tc w0) = w1)) 0 0 A := by
  refine g_start (own := RX3) [.ref (ad 17 j), .ref (ad 17 b)] (cc := cX3_goesBefore) (maxL := 2) (ret := (some .boolean)) (lv0 := [(0, .ref (ad 17 j)), (1, .ref (ad 17 b))]) (by decide) rfl rfl (Nat.le_of_ble_eq_true rfl) rfl ?_
  intro p e s m below meth c F hr hlocks hno
  have hinX3 : ∀ w ∈ wsX30, w ∈ wsX3_goesBefore := by decide +kernel
  refine g_aload_n F 0 dX3_goesBefore_0 rfl rfl ?_
  refine g_getf (k := 17) (i := j) (ci := 3) (C := RX3) (T := TX3) (N := 16) (fs := (cM ad σ mt j)) (fk := 7) F hinX3 (hC.2.2.2.2.2.2.2.1 j (by omega)).1 rfl rfl (by decide) (by decide +kernel) rfl rfl dX3_goesBefore_1 ?_
  refine g_aload_n F 1 dX3_goesBefore_4 rfl rfl ?_
  refine g_getf (k := 17) (i := b) (ci := 3) (C := RX3) (T := TX3) (N := 16) (fs := (cM ad σ mt b)) (fk := 7) F hinX3 (hC.2.2.2.2.2.2.2.1 b (by omega)).1 rfl rfl (by decide) (by decide +kernel) rfl rfl dX3_goesBefore_5 ?_
  refine g_icmp_eq F (tgt := 28) dX3_goesBefore_8 (by decide) (fun c1 => ?_) (fun c1 => ?_)
  ·
    refine g_aload_n F 0 dX3_goesBefore_28 rfl rfl ?_
    refine g_getf (k := 17) (i := j) (ci := 3) (C := RX3) (T := TX3) (N := 16) (fs := (cM ad σ mt j)) (fk := 13) F hinX3 (hC.2.2.2.2.2.2.2.1 j (by omega)).1 rfl rfl (by decide) (by decide +kernel) rfl rfl dX3_goesBefore_29 ?_
    refine g_aload_n F 1 dX3_goesBefore_32 rfl rfl ?_
    refine g_getf (k := 17) (i := b) (ci := 3) (C := RX3) (T := TX3) (N := 16) (fs := (cM ad σ mt b)) (fk := 13) F hinX3 (hC.2.2.2.2.2.2.2.1 b (by omega)).1 rfl rfl (by decide) (by decide +kernel) rfl rfl dX3_goesBefore_33 ?_
    refine g_cut (w2 := (cw D ad cs σ Lx cap mk ev zl tx mt tn tc w0)) (pc2 := 44) (lv2 := [(0, .ref (ad 17 j)), (1, .ref (ad 17 b))]) (st2 := [.int (bi (¬ (σ 26 b) ≤ (σ 26 j)))]) ?_ (fun hJ2 => ?_)
    ·
      exact g_qz F hr (bi_nar _) hlocks (fun _ h => h) ⟨(congrArg some (congrArg Value.int (bi_iff (show ((¬ (σ 14 j) = (σ 14 b) ∧ ¬ (σ 14 j) ≤ (σ 14 b)) ∨ ((σ 14 j) = (σ 14 b) ∧ ¬ (σ 26 b) ≤ (σ 26 j))) ↔ _ from ⟨fun q => q.elim (fun z => absurd c1 z.1) (fun z => z.2), fun q => .inr ⟨c1, q⟩⟩).symm))), rfl, rfl, rfl⟩ (by decide) (by decide) dX3_goesBefore_44
    ·
      refine g_icmp_ge F (tgt := 43) dX3_goesBefore_36 (by decide) (fun c3 => ?_) (fun c3 => ?_)
      ·
        refine g_iconst F dX3_goesBefore_43 (v := 0) (by decide) ?_
        exact g_top (bi_f (fun q => q c3)) hJ2
      ·
        refine g_iconst F dX3_goesBefore_39 (v := 1) (by decide) ?_
        refine g_goto F (tgt := 44) dX3_goesBefore_40 (by decide) ?_
        exact g_top (bi_t c3) hJ2
  ·
    refine g_aload_n F 0 dX3_goesBefore_11 rfl rfl ?_
    refine g_getf (k := 17) (i := j) (ci := 3) (C := RX3) (T := TX3) (N := 16) (fs := (cM ad σ mt j)) (fk := 7) F hinX3 (hC.2.2.2.2.2.2.2.1 j (by omega)).1 rfl rfl (by decide) (by decide +kernel) rfl rfl dX3_goesBefore_12 ?_
    refine g_aload_n F 1 dX3_goesBefore_15 rfl rfl ?_
    refine g_getf (k := 17) (i := b) (ci := 3) (C := RX3) (T := TX3) (N := 16) (fs := (cM ad σ mt b)) (fk := 7) F hinX3 (hC.2.2.2.2.2.2.2.1 b (by omega)).1 rfl rfl (by decide) (by decide +kernel) rfl rfl dX3_goesBefore_16 ?_
    refine g_cut (w2 := (cw D ad cs σ Lx cap mk ev zl tx mt tn tc w0)) (pc2 := 27) (lv2 := [(0, .ref (ad 17 j)), (1, .ref (ad 17 b))]) (st2 := [.int (bi (¬ (σ 14 j) ≤ (σ 14 b)))]) ?_ (fun hJ4 => ?_)
    ·
      exact g_qz F hr (bi_nar _) hlocks (fun _ h => h) ⟨(congrArg some (congrArg Value.int (bi_iff (show ((¬ (σ 14 j) = (σ 14 b) ∧ ¬ (σ 14 j) ≤ (σ 14 b)) ∨ ((σ 14 j) = (σ 14 b) ∧ ¬ (σ 26 b) ≤ (σ 26 j))) ↔ _ from ⟨fun q => q.elim (fun z => z.2) (fun z => absurd z.1 c1), fun q => .inl ⟨c1, q⟩⟩).symm))), rfl, rfl, rfl⟩ (by decide) (by decide) dX3_goesBefore_27
    ·
      refine g_icmp_le F (tgt := 26) dX3_goesBefore_19 (by decide) (fun c5 => ?_) (fun c5 => ?_)
      ·
        refine g_iconst F dX3_goesBefore_26 (v := 0) (by decide) ?_
        exact g_top (bi_f (fun q => q c5)) hJ4
      ·
        refine g_iconst F dX3_goesBefore_22 (v := 1) (by decide) ?_
        refine g_goto F (tgt := 27) dX3_goesBefore_23 (by decide) ?_
        exact g_top (bi_t c5) hJ4

