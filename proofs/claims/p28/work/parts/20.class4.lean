/-- what changes of the class: numbers, lists, logs and how long they are -/
abbrev CSt : Type := SG × (Nat → List Nat) × SG × (Nat → Nat)
def fiQ (σ : SG) (Lx : Nat → List Nat) (j : Nat) : Nat → List Nat := va_up Lx (5 + ix (σ 13 j)) ((Lx (5 + ix (σ 13 j))).eraseIdx (psn (Lx (5 + ix (σ 13 j))) j))
def fiL (σ : SG) (Lx : Nat → List Nat) (j : Nat) : Nat → List Nat := if (σ 22 j) = 0 then fiQ σ Lx j else va_up (fiQ σ Lx j) (1 + ix (σ 12 j)) (fiQ σ Lx j (1 + ix (σ 12 j)) ++ [j])
def fiE (ev : SG) (zl : Nat → Nat) (j : Nat) (how : Int32) : SG := if how = 1 then ev else up2 ev j (zl j) (10 + how)
def fiZ (zl : Nat → Nat) (j : Nat) (how : Int32) : Nat → Nat := if how = 1 then zl else va_up zl j (zl j + 1)
def finT (j : Nat) (how : Int32) (s : CSt) : CSt := (up2 s.1 23 j how, fiL s.1 s.2.1 j, fiE s.2.2.1 s.2.2.2 j how, fiZ s.2.2.2 j how)
def FIN (n : Nat) (σ : SG) (Lx : Nat → List Nat) (j : Nat) : Prop := ix (σ 12 j) < 4 ∧ ix (σ 13 j) < 6 ∧ j ∈ Lx (5 + ix (σ 13 j)) ∧ elen σ j ≤ 1000 ∧ (Lx (1 + ix (σ 12 j))).length ≤ 39
set_option maxHeartbeats 4000000 in
set_option maxRecDepth 100000 in
theorem cc_finish (l : Launch) (D : va_G) (A : Nat → Prop) (cs : Nat → ClassId) (ad : Nat → Nat → Nat) (dm : Nat → Nat → Prop) (σ : SG) (Lx : Nat → List Nat) (cap : Nat → Nat) (mk : Nat → Int32) (ev : SG) (zl tx mt tn : Nat → Nat) (tc : SG) (w0 : CF) (n tq : Nat) (hC : CD dm n cap tq) (j : Nat) (how : Int32) (hn22 : ¬ dm 22 0) (hlo : LO n Lx cap) (hj : j < n) (hf : FIN n σ Lx j) (hz : ¬ how = 1 → zl j < elen σ j) : Met l yX3_finish wsX3_finish ({ frames := 7, cells := 1, slots := 60, locals := 241 }) (va_Pc [.ref (ad 17 j), .int how] (PW D A (tysG cs) ad dm (cw D ad cs σ Lx cap mk ev zl tx mt tn tc w0))) (QW D A (tysG cs) (fun rz ad1 dm1 w1 => rz = none ∧ EXP D cs n tq ad dm (finT j how (σ, Lx, ev, zl)).1 (finT j how (σ, Lx, ev, zl)).2.1 (finT j how (σ, Lx, ev, zl)).2.2.1 (finT j how (σ, Lx, ev, zl)).2.2.2 tx mt tn tc w0 ad1 dm1 w1)) 1 60 A := by
  refine g_start (own := RX3) [.ref (ad 17 j), .int how] (cc := cX3_finish) (maxL := 2) (ret := none) (lv0 := [(0, .ref (ad 17 j)), (1, .int how)]) (by decide) rfl rfl (Nat.le_of_ble_eq_true rfl) rfl ?_
  intro p e s m below meth c F hr hlocks hno
  obtain ⟨hf1, hf2, hm, hf4, hf5⟩ := id hf
  have hlo1 : LO n (fiQ σ Lx j) cap := LO.rm hlo _ _
  have hinX0 : ∀ w ∈ wsX00, w ∈ wsX3_finish := by decide +kernel
  have hinX3 : ∀ w ∈ wsX30, w ∈ wsX3_finish := by decide +kernel
  refine g_aload_n F 0 dX3_finish_0 rfl rfl ?_
  refine g_iload_n F 1 dX3_finish_1 rfl rfl ?_
  refine g_putf (k := 17) (i := j) (ci := 3) (C := RX3) (T := TX3) (N := 16) (fs := (cM ad σ mt j)) (fk := 12) (v := .int how) (ty := .int) (tf := tyX3) F hinX3 tyX3_ok nmX3 (hC.2.2.2.2.2.2.2.1 j (by omega)).1 rfl rfl (by decide) (by decide +kernel) rfl rfl (by decide +kernel) rfl rfl (show 12 < 16 by decide) dX3_finish_2 ?_
  refine g_w (w1 := (cw D ad cs (up2 σ 23 j how) Lx cap mk ev zl tx mt tn tc w0)) (cp_23 j how).symm ?_
  refine g_iload_n F 1 dX3_finish_5 rfl rfl ?_
  refine g_iconst F dX3_finish_6 (v := 1) (by decide) ?_
  refine g_icmp_eq F (tgt := 21) dX3_finish_7 (by decide) (fun zc1 => ?_) (fun zc1 => ?_)
  ·
    refine g_aload_n F 0 dX3_finish_21 rfl rfl ?_
    refine g_getf (k := 17) (i := j) (ci := 3) (C := RX3) (T := TX3) (N := 16) (fs := (cM ad (up2 σ 23 j how) mt j)) (fk := 2) F hinX3 (hC.2.2.2.2.2.2.2.1 j (by omega)).1 rfl rfl (by decide) (by decide +kernel) rfl (congrArg (fun z : Int32 => some (Value.ref (ad 14 (ix z)))) (show (up2 σ 23 j how) 13 j = (σ 13 j) from ((up2_ne _ _ (fun h => absurd h.1 (by decide))).trans rfl))) dX3_finish_22 ?_
    refine g_aload_n F 0 dX3_finish_25 rfl rfl ?_
    refine q_callV F (C := RX4) (k := 14) (i := (ix (σ 13 j))) (ci := 4) (T := TX4) (N := 5) (rest := []) [.ref (ad 17 j)] (cc_take l D A cs ad dm (up2 σ 23 j how) Lx cap mk ev zl tx mt tn tc w0 n tq hC (ix (σ 13 j)) j (by omega) (by omega) hlo hm) (cwV 1 F.1.2.2.2.2 gX3_finish_X4_takeFromQueue rfl rfl rfl (by decide +kernel) ⟨Nat.le_of_ble_eq_true rfl, Nat.le_of_ble_eq_true rfl⟩) rfl (hC.2.2.2.2.1 (ix (σ 13 j)) (by omega)) rfl rfl rfl rfl (Nat.le_of_ble_eq_true rfl) dX3_finish_26 ⟨Nat.le_of_ble_eq_true rfl, Nat.le_of_ble_eq_true rfl⟩ (fun _ _ _ _ zv2 => ?_)
    obtain ⟨rfl, rfl, rfl, rfl⟩ := zv2
    show GG p l e _ s m _ below meth c D A ad dm _ _ _ _ (cw D ad cs (up2 σ 23 j how) (va_up Lx (5 + (ix (σ 13 j))) ((Lx (5 + (ix (σ 13 j)))).eraseIdx (psn (Lx (5 + (ix (σ 13 j)))) j))) cap (va_up mk (5 + (ix (σ 13 j))) ((mk (5 + (ix (σ 13 j)))) + 1)) ev zl tx mt tn tc w0) 29 _ []
    refine g_aload_n F 0 dX3_finish_29 rfl rfl ?_
    refine g_getf (k := 17) (i := j) (ci := 3) (C := RX3) (T := TX3) (N := 16) (fs := (cM ad (up2 σ 23 j how) mt j)) (fk := 6) F hinX3 (hC.2.2.2.2.2.2.2.1 j (by omega)).1 rfl rfl (by decide) (by decide +kernel) rfl (congrArg (fun z : Int32 => some (Value.int z)) (show (up2 σ 23 j how) 22 j = (σ 22 j) from ((up2_ne _ _ (fun h => absurd h.1 (by decide))).trans rfl))) dX3_finish_30 ?_
    refine g_if_eq F (tgt := 48) dX3_finish_33 (by decide) (fun zc3 => ?_) (fun zc3 => ?_)
    ·
      exact g_qv F hr hlocks (fun _ h => h) ⟨rfl, (by show EXP D cs n tq ad dm (up2 σ 23 j how) (if (σ 22 j) = 0 then (fiQ σ Lx j) else va_up (fiQ σ Lx j) (1 + ix (σ 12 j)) ((fiQ σ Lx j) (1 + ix (σ 12 j)) ++ [j])) (if how = 1 then ev else up2 ev j (zl j) (10 + how)) (if how = 1 then zl else va_up zl j (zl j + 1)) tx mt tn tc w0 _ _ _; rw [if_pos zc1, if_pos zc1, if_pos zc3]; exact EXP.same hC hlo1)⟩ (by decide) (by decide) dX3_finish_48
    ·
      refine g_aload_n F 0 dX3_finish_36 rfl rfl ?_
      refine g_getf (k := 17) (i := j) (ci := 3) (C := RX3) (T := TX3) (N := 16) (fs := (cM ad (up2 σ 23 j how) mt j)) (fk := 1) F hinX3 (hC.2.2.2.2.2.2.2.1 j (by omega)).1 rfl rfl (by decide) (by decide +kernel) rfl (congrArg (fun z : Int32 => some (Value.ref (ad 13 (ix z)))) (show (up2 σ 23 j how) 12 j = (σ 12 j) from ((up2_ne _ _ (fun h => absurd h.1 (by decide))).trans rfl))) dX3_finish_37 ?_
      refine g_getf (k := 13) (i := (ix (σ 12 j))) (ci := 1) (C := RX0) (T := TX0) (N := 7) (fs := (cA ad (up2 σ 23 j how) tx (ix (σ 12 j)))) (fk := 6) F hinX0 (hC.2.2.2.1 (ix (σ 12 j)) (by omega)) rfl rfl (by decide) (by decide +kernel) rfl rfl dX3_finish_40 ?_
      refine g_aload_n F 0 dX3_finish_43 rfl rfl ?_
      refine q_callV F (C := RJx4a65c) (k := 15) (i := (1 + (ix (σ 12 j)))) (ci := 0) (T := TJx4a65c) (N := 3) (rest := []) [.ref (ad 17 j)] (cl_add l D A cs ad dm (up2 σ 23 j how) (va_up Lx (5 + (ix (σ 13 j))) ((Lx (5 + (ix (σ 13 j)))).eraseIdx (psn (Lx (5 + (ix (σ 13 j)))) j))) cap (va_up mk (5 + (ix (σ 13 j))) ((mk (5 + (ix (σ 13 j)))) + 1)) ev zl tx mt tn tc w0 n tq hC (1 + (ix (σ 12 j))) j hn22 (by omega) (by omega) (hlo1 (1 + (ix (σ 12 j))) (by omega)).1 (hlo1 (1 + (ix (σ 12 j))) (by omega)).2.1 (by rw [va_up_ne _ _ (by omega)]; exact hf5) (hlo1 (1 + (ix (σ 12 j))) (by omega)).2.2) (cwV 1 F.1.2.2.2.2 gX3_finish_Jx4a65c_add_9ea2d rfl rfl rfl (by decide +kernel) ⟨Nat.le_of_ble_eq_true rfl, Nat.le_of_ble_eq_true rfl⟩) rfl (hC.2.2.2.2.2.1 (1 + (ix (σ 12 j))) (by omega)) rfl rfl rfl rfl (Nat.le_of_ble_eq_true rfl) dX3_finish_44 ⟨Nat.le_of_ble_eq_true rfl, Nat.le_of_ble_eq_true rfl⟩ (fun _ _ _ _ zv4 => ?_)
      obtain ⟨q44, c244, rfl, rfl, rfl, h144, h244, rfl⟩ := zv4
      show GG p l e _ s m _ below meth c D A (up2 ad 16 (1 + (ix (σ 12 j))) q44) (fun a b => dm a b ∨ (a = 16 ∧ b = (1 + (ix (σ 12 j))))) _ _ _ _ (cw D (up2 ad 16 (1 + (ix (σ 12 j))) q44) cs (up2 σ 23 j how) (va_up (va_up Lx (5 + (ix (σ 13 j))) ((Lx (5 + (ix (σ 13 j)))).eraseIdx (psn (Lx (5 + (ix (σ 13 j)))) j))) (1 + (ix (σ 12 j))) ((va_up Lx (5 + (ix (σ 13 j))) ((Lx (5 + (ix (σ 13 j)))).eraseIdx (psn (Lx (5 + (ix (σ 13 j)))) j))) (1 + (ix (σ 12 j))) ++ [j])) (va_up cap (1 + (ix (σ 12 j))) c244) (va_up (va_up mk (5 + (ix (σ 13 j))) ((mk (5 + (ix (σ 13 j)))) + 1)) (1 + (ix (σ 12 j))) (((va_up mk (5 + (ix (σ 13 j))) ((mk (5 + (ix (σ 13 j)))) + 1)) (1 + (ix (σ 12 j)))) + 1)) ev zl tx mt tn tc w0) 47 _ [.int 1]
      refine g_pop F dX3_finish_47 rfl ?_
      exact g_qv F hr hlocks (fun _ h => h) ⟨rfl, (by show EXP D cs n tq ad dm (up2 σ 23 j how) (if (σ 22 j) = 0 then (fiQ σ Lx j) else va_up (fiQ σ Lx j) (1 + ix (σ 12 j)) ((fiQ σ Lx j) (1 + ix (σ 12 j)) ++ [j])) (if how = 1 then ev else up2 ev j (zl j) (10 + how)) (if how = 1 then zl else va_up zl j (zl j + 1)) tx mt tn tc w0 _ _ _; rw [if_pos zc1, if_pos zc1, if_neg zc3]; exact EXP.add hC hlo1 (by omega) hj h144 h244)⟩ (by decide) (by decide) dX3_finish_48
  ·
    refine g_aload_n F 0 dX3_finish_10 rfl rfl ?_
    refine g_getf (k := 17) (i := j) (ci := 3) (C := RX3) (T := TX3) (N := 16) (fs := (cM ad (up2 σ 23 j how) mt j)) (fk := 10) F hinX3 (hC.2.2.2.2.2.2.2.1 j (by omega)).1 rfl rfl (by decide) (by decide +kernel) rfl rfl dX3_finish_11 ?_
    refine g_bipush F dX3_finish_14 (v := 10) (by decide) ?_
    refine g_iload_n F 1 dX3_finish_16 rfl rfl ?_
    refine g_iadd F dX3_finish_17 ?_
    refine q_callV F (C := RX2) (k := 19) (i := j) (ci := 2) (T := TX2) (N := 2) (rest := []) [.int (10 + how)] (cc_logadd l D A cs ad dm (up2 σ 23 j how) Lx cap mk ev zl tx mt tn tc w0 n tq hC j (10 + how) (by omega) (hz zc1) hf.2.2.2.1) (cwV 1 F.1.2.2.2.2 gX3_finish_X2_add rfl rfl rfl (by decide +kernel) ⟨Nat.le_of_ble_eq_true rfl, Nat.le_of_ble_eq_true rfl⟩) rfl (hC.2.2.2.2.2.2.2.1 j (by omega)).2.2.1 rfl rfl rfl rfl (Nat.le_of_ble_eq_true rfl) dX3_finish_18 ⟨Nat.le_of_ble_eq_true rfl, Nat.le_of_ble_eq_true rfl⟩ (fun _ _ _ _ zv5 => ?_)
    obtain ⟨rfl, rfl, rfl, rfl⟩ := zv5
    show GG p l e _ s m _ below meth c D A ad dm _ _ _ _ (cw D ad cs (up2 σ 23 j how) Lx cap mk (up2 ev j (zl j) (10 + how)) (va_up zl j ((zl j) + 1)) tx mt tn tc w0) 21 _ []
    refine g_aload_n F 0 dX3_finish_21 rfl rfl ?_
    refine g_getf (k := 17) (i := j) (ci := 3) (C := RX3) (T := TX3) (N := 16) (fs := (cM ad (up2 σ 23 j how) mt j)) (fk := 2) F hinX3 (hC.2.2.2.2.2.2.2.1 j (by omega)).1 rfl rfl (by decide) (by decide +kernel) rfl (congrArg (fun z : Int32 => some (Value.ref (ad 14 (ix z)))) (show (up2 σ 23 j how) 13 j = (σ 13 j) from ((up2_ne _ _ (fun h => absurd h.1 (by decide))).trans rfl))) dX3_finish_22 ?_
    refine g_aload_n F 0 dX3_finish_25 rfl rfl ?_
    refine q_callV F (C := RX4) (k := 14) (i := (ix (σ 13 j))) (ci := 4) (T := TX4) (N := 5) (rest := []) [.ref (ad 17 j)] (cc_take l D A cs ad dm (up2 σ 23 j how) Lx cap mk (up2 ev j (zl j) (10 + how)) (va_up zl j ((zl j) + 1)) tx mt tn tc w0 n tq hC (ix (σ 13 j)) j (by omega) (by omega) hlo hm) (cwV 1 F.1.2.2.2.2 gX3_finish_X4_takeFromQueue rfl rfl rfl (by decide +kernel) ⟨Nat.le_of_ble_eq_true rfl, Nat.le_of_ble_eq_true rfl⟩) rfl (hC.2.2.2.2.1 (ix (σ 13 j)) (by omega)) rfl rfl rfl rfl (Nat.le_of_ble_eq_true rfl) dX3_finish_26 ⟨Nat.le_of_ble_eq_true rfl, Nat.le_of_ble_eq_true rfl⟩ (fun _ _ _ _ zv6 => ?_)
    obtain ⟨rfl, rfl, rfl, rfl⟩ := zv6
    show GG p l e _ s m _ below meth c D A ad dm _ _ _ _ (cw D ad cs (up2 σ 23 j how) (va_up Lx (5 + (ix (σ 13 j))) ((Lx (5 + (ix (σ 13 j)))).eraseIdx (psn (Lx (5 + (ix (σ 13 j)))) j))) cap (va_up mk (5 + (ix (σ 13 j))) ((mk (5 + (ix (σ 13 j)))) + 1)) (up2 ev j (zl j) (10 + how)) (va_up zl j ((zl j) + 1)) tx mt tn tc w0) 29 _ []
    refine g_aload_n F 0 dX3_finish_29 rfl rfl ?_
    refine g_getf (k := 17) (i := j) (ci := 3) (C := RX3) (T := TX3) (N := 16) (fs := (cM ad (up2 σ 23 j how) mt j)) (fk := 6) F hinX3 (hC.2.2.2.2.2.2.2.1 j (by omega)).1 rfl rfl (by decide) (by decide +kernel) rfl (congrArg (fun z : Int32 => some (Value.int z)) (show (up2 σ 23 j how) 22 j = (σ 22 j) from ((up2_ne _ _ (fun h => absurd h.1 (by decide))).trans rfl))) dX3_finish_30 ?_
    refine g_if_eq F (tgt := 48) dX3_finish_33 (by decide) (fun zc7 => ?_) (fun zc7 => ?_)
    ·
      exact g_qv F hr hlocks (fun _ h => h) ⟨rfl, (by show EXP D cs n tq ad dm (up2 σ 23 j how) (if (σ 22 j) = 0 then (fiQ σ Lx j) else va_up (fiQ σ Lx j) (1 + ix (σ 12 j)) ((fiQ σ Lx j) (1 + ix (σ 12 j)) ++ [j])) (if how = 1 then ev else up2 ev j (zl j) (10 + how)) (if how = 1 then zl else va_up zl j (zl j + 1)) tx mt tn tc w0 _ _ _; rw [if_neg zc1, if_neg zc1, if_pos zc7]; exact EXP.same hC hlo1)⟩ (by decide) (by decide) dX3_finish_48
    ·
      refine g_aload_n F 0 dX3_finish_36 rfl rfl ?_
      refine g_getf (k := 17) (i := j) (ci := 3) (C := RX3) (T := TX3) (N := 16) (fs := (cM ad (up2 σ 23 j how) mt j)) (fk := 1) F hinX3 (hC.2.2.2.2.2.2.2.1 j (by omega)).1 rfl rfl (by decide) (by decide +kernel) rfl (congrArg (fun z : Int32 => some (Value.ref (ad 13 (ix z)))) (show (up2 σ 23 j how) 12 j = (σ 12 j) from ((up2_ne _ _ (fun h => absurd h.1 (by decide))).trans rfl))) dX3_finish_37 ?_
      refine g_getf (k := 13) (i := (ix (σ 12 j))) (ci := 1) (C := RX0) (T := TX0) (N := 7) (fs := (cA ad (up2 σ 23 j how) tx (ix (σ 12 j)))) (fk := 6) F hinX0 (hC.2.2.2.1 (ix (σ 12 j)) (by omega)) rfl rfl (by decide) (by decide +kernel) rfl rfl dX3_finish_40 ?_
      refine g_aload_n F 0 dX3_finish_43 rfl rfl ?_
      refine q_callV F (C := RJx4a65c) (k := 15) (i := (1 + (ix (σ 12 j)))) (ci := 0) (T := TJx4a65c) (N := 3) (rest := []) [.ref (ad 17 j)] (cl_add l D A cs ad dm (up2 σ 23 j how) (va_up Lx (5 + (ix (σ 13 j))) ((Lx (5 + (ix (σ 13 j)))).eraseIdx (psn (Lx (5 + (ix (σ 13 j)))) j))) cap (va_up mk (5 + (ix (σ 13 j))) ((mk (5 + (ix (σ 13 j)))) + 1)) (up2 ev j (zl j) (10 + how)) (va_up zl j ((zl j) + 1)) tx mt tn tc w0 n tq hC (1 + (ix (σ 12 j))) j hn22 (by omega) (by omega) (hlo1 (1 + (ix (σ 12 j))) (by omega)).1 (hlo1 (1 + (ix (σ 12 j))) (by omega)).2.1 (by rw [va_up_ne _ _ (by omega)]; exact hf5) (hlo1 (1 + (ix (σ 12 j))) (by omega)).2.2) (cwV 1 F.1.2.2.2.2 gX3_finish_Jx4a65c_add_9ea2d rfl rfl rfl (by decide +kernel) ⟨Nat.le_of_ble_eq_true rfl, Nat.le_of_ble_eq_true rfl⟩) rfl (hC.2.2.2.2.2.1 (1 + (ix (σ 12 j))) (by omega)) rfl rfl rfl rfl (Nat.le_of_ble_eq_true rfl) dX3_finish_44 ⟨Nat.le_of_ble_eq_true rfl, Nat.le_of_ble_eq_true rfl⟩ (fun _ _ _ _ zv8 => ?_)
      obtain ⟨q44, c244, rfl, rfl, rfl, h144, h244, rfl⟩ := zv8
      show GG p l e _ s m _ below meth c D A (up2 ad 16 (1 + (ix (σ 12 j))) q44) (fun a b => dm a b ∨ (a = 16 ∧ b = (1 + (ix (σ 12 j))))) _ _ _ _ (cw D (up2 ad 16 (1 + (ix (σ 12 j))) q44) cs (up2 σ 23 j how) (va_up (va_up Lx (5 + (ix (σ 13 j))) ((Lx (5 + (ix (σ 13 j)))).eraseIdx (psn (Lx (5 + (ix (σ 13 j)))) j))) (1 + (ix (σ 12 j))) ((va_up Lx (5 + (ix (σ 13 j))) ((Lx (5 + (ix (σ 13 j)))).eraseIdx (psn (Lx (5 + (ix (σ 13 j)))) j))) (1 + (ix (σ 12 j))) ++ [j])) (va_up cap (1 + (ix (σ 12 j))) c244) (va_up (va_up mk (5 + (ix (σ 13 j))) ((mk (5 + (ix (σ 13 j)))) + 1)) (1 + (ix (σ 12 j))) (((va_up mk (5 + (ix (σ 13 j))) ((mk (5 + (ix (σ 13 j)))) + 1)) (1 + (ix (σ 12 j)))) + 1)) (up2 ev j (zl j) (10 + how)) (va_up zl j ((zl j) + 1)) tx mt tn tc w0) 47 _ [.int 1]
      refine g_pop F dX3_finish_47 rfl ?_
      exact g_qv F hr hlocks (fun _ h => h) ⟨rfl, (by show EXP D cs n tq ad dm (up2 σ 23 j how) (if (σ 22 j) = 0 then (fiQ σ Lx j) else va_up (fiQ σ Lx j) (1 + ix (σ 12 j)) ((fiQ σ Lx j) (1 + ix (σ 12 j)) ++ [j])) (if how = 1 then ev else up2 ev j (zl j) (10 + how)) (if how = 1 then zl else va_up zl j (zl j + 1)) tx mt tn tc w0 _ _ _; rw [if_neg zc1, if_neg zc1, if_neg zc7]; exact EXP.add hC hlo1 (by omega) hj h144 h244)⟩ (by decide) (by decide) dX3_finish_48
def flF (σ : SG) (j : Nat) : Nat → SG
  | 0 => σ
  | k + 1 => up2 (flF σ j k) 27 ((3 * j) + (2 - k)) 0
theorem flF_ne (σ : SG) (j : Nat) {f : Nat} (hf : f ≠ 27) (i : Nat) : ∀ k, flF σ j k f i = σ f i
  | 0 => rfl
  | k + 1 => by unfold flF; rw [up2_ne _ _ (fun h => hf h.1)]; exact flF_ne σ j hf i k
set_option maxHeartbeats 4000000 in
set_option maxRecDepth 100000 in
theorem cc_fill (l : Launch) (D : va_G) (A : Nat → Prop) (cs : Nat → ClassId) (ad : Nat → Nat → Nat) (dm : Nat → Nat → Prop) (σ : SG) (Lx : Nat → List Nat) (cap : Nat → Nat) (mk : Nat → Int32) (ev : SG) (zl tx mt tn : Nat → Nat) (tc : SG) (w0 : CF) (n tq : Nat) (hC : CD dm n cap tq) (j : Nat) (hj : j < n) : Met l yJ7_fill_53178 wsJ7_fill_53178 ({ frames := 1, cells := 0, slots := 0, locals := 40 }) (va_Pc [.ref (ad 18 j), .int 0] (PW D A (tysG cs) ad dm (cw D ad cs σ Lx cap mk ev zl tx mt tn tc w0))) (QW D A (tysG cs) (fun rz ad1 dm1 w1 => rz = none ∧ ad = ad1 ∧ dm = dm1 ∧ (cw D ad cs (flF σ j 3) Lx cap mk ev zl tx mt tn tc w0) = w1)) 0 0 A := by
  refine g_start (own := RJ7) [.ref (ad 18 j), .int 0] (cc := cJ7_fill_53178) (maxL := 4) (ret := none) (lv0 := [(0, .ref (ad 18 j)), (1, .int 0)]) (by decide) rfl rfl (Nat.le_of_ble_eq_true rfl) rfl ?_
  intro p e s m below meth c F hr hlocks hno
  refine g_iconst F dJ7_fill_53178_0 (v := 0) (by decide) ?_
  refine g_istore_n F (lv1 := [(2, .int 0), (0, .ref (ad 18 j)), (1, .int 0)]) dJ7_fill_53178_1 rfl (by decide) rfl ?_
  refine g_aload_n F 1 dJ7_fill_53178_2 rfl rfl ?_
  refine g_alen (t0 := 0) (k := 18) (i := j) (v := (nI 3)) F (hC.2.2.2.2.2.2.2.1 j (by omega)).2.1 rfl rfl rfl dJ7_fill_53178_3 ?_
  refine g_istore_n F (lv1 := [(3, .int (nI 3)), (2, .int 0), (0, .ref (ad 18 j)), (1, .int 0)]) dJ7_fill_53178_4 rfl (by decide) rfl ?_
  refine g_loop 3 0 (by omega) (fun zk1 => (cw D ad cs (flF σ j zk1) Lx cap mk ev zl tx mt tn tc w0)) (fun zk1 => [(3, .int (nI 3)), (2, .int (nI zk1)), (0, .ref (ad 18 j)), (1, .int 0)]) rfl rfl ?_ (fun zk1 zhk3 zhk4 zih2 => ?_)
  ·
    show GG p l e _ s m _ below meth c D A ad dm _ _ _ _ (cw D ad cs (flF σ j 3) Lx cap mk ev zl tx mt tn tc w0) 5 [(3, .int (nI 3)), (2, .int (nI 3)), (0, .ref (ad 18 j)), (1, .int 0)] []
    refine g_iload_n F 1 dJ7_fill_53178_5 rfl rfl ?_
    refine g_iload_n F 0 dJ7_fill_53178_6 rfl rfl ?_
    refine g_icmp_ge F (tgt := 20) dJ7_fill_53178_7 (by decide) (fun zc5 => ?_) (fun zc5 => ?_)
    ·
      exact g_qv F hr hlocks (fun _ h => h) ⟨rfl, rfl, rfl, rfl⟩ (by decide) (by decide) dJ7_fill_53178_20
    ·
      exact absurd ((nI_leE (show (nI 3) = nI 3 from rfl) (show (nI 3) = nI 3 from rfl) (show 3 < 2 ^ 31 by omega) (show 3 < 2 ^ 31 by omega)).mpr (by omega)) zc5
  ·
    replace zih2 : GG p l e _ s m _ below meth c D A ad dm _ _ _ _ (cw D ad cs (flF σ j (zk1 + 1)) Lx cap mk ev zl tx mt tn tc w0) 5 [(3, .int (nI 3)), (2, .int (nI (zk1 + 1))), (0, .ref (ad 18 j)), (1, .int 0)] [] := zih2
    show GG p l e _ s m _ below meth c D A ad dm _ _ _ _ (cw D ad cs (flF σ j zk1) Lx cap mk ev zl tx mt tn tc w0) 5 [(3, .int (nI 3)), (2, .int (nI zk1)), (0, .ref (ad 18 j)), (1, .int 0)] []
    refine g_iload_n F 1 dJ7_fill_53178_5 rfl rfl ?_
    refine g_iload_n F 0 dJ7_fill_53178_6 rfl rfl ?_
    refine g_icmp_ge F (tgt := 20) dJ7_fill_53178_7 (by decide) (fun zc6 => ?_) (fun zc6 => ?_)
    ·
      exact absurd ((nI_leE (show (nI 3) = nI 3 from rfl) (show (nI zk1) = nI zk1 from rfl) (show 3 < 2 ^ 31 by omega) (show zk1 < 2 ^ 31 by omega)).mp zc6) (by omega)
    ·
      refine g_aload_n F 2 dJ7_fill_53178_10 rfl rfl ?_
      refine g_iload_n F 1 dJ7_fill_53178_11 rfl rfl ?_
      refine g_iload_n F 3 dJ7_fill_53178_12 rfl rfl ?_
      refine ca_iast (k := 18) (i := j) (n := 3) (f := cF (flF σ j zk1) j) F (hC.2.2.2.2.2.2.2.1 j (by omega)).2.1 rfl rfl ⟨by omega, by decide⟩ dJ7_fill_53178_13 ?_
      refine g_w (w1 := (cw D ad cs (up2 (flF σ j zk1) 27 ((3 * j) + (2 - zk1)) 0) Lx cap mk ev zl tx mt tn tc w0)) (cw_fail (j := j) (q := zk1) (by omega) 0).symm ?_
      refine g_iinc F (v := (nI (zk1 + 1))) (lv1 := [(2, .int (nI (zk1 + 1))), (3, .int (nI 3)), (0, .ref (ad 18 j)), (1, .int 0)]) 1 dJ7_fill_53178_14 rfl (nI_1 zk1) (by decide) rfl ?_
      refine g_goto F (tgt := 5) dJ7_fill_53178_17 (by decide) ?_
      exact g_lv [1, 0, 2, 3] rfl (g_w (w1 := (cw D ad cs (flF σ j (zk1 + 1)) Lx cap mk ev zl tx mt tn tc w0)) rfl zih2)
def arS (s : CSt) (j : Nat) (t : Int32) : SG := flF (up2 (up2 (up2 s.1 30 (ix (s.1 13 j)) (s.1 30 (ix (s.1 13 j)) + 1)) 24 j (s.1 24 j + 1)) 26 j t) j 3
def arT (j : Nat) (t : Int32) (s : CSt) : CSt := (arS s j t, s.2.1, up2 s.2.2.1 j (s.2.2.2 j) 1, va_up s.2.2.2 j (s.2.2.2 j + 1))
def arrT (p : Int32) (j : Nat) (t : Int32) (s : CSt) : CSt := if (arS s j t) 24 j < p then arT j t s else finT j 1 (arT j t s)
def arC (p : Int32) (j : Nat) (t : Int32) (s : CSt) : Nat := if (arS s j t) 24 j < p then 0 else 1
theorem arrT_y {p : Int32} {j : Nat} {t : Int32} {s : CSt} (h : (arS s j t) 24 j < p) : arrT p j t s = arT j t s ∧ arC p j t s = 0 := ⟨if_pos h, if_pos h⟩
theorem arrT_n {p : Int32} {j : Nat} {t : Int32} {s : CSt} (h : ¬ (arS s j t) 24 j < p) : arrT p j t s = finT j 1 (arT j t s) ∧ arC p j t s = 1 := ⟨if_neg h, if_neg h⟩
set_option maxHeartbeats 4000000 in
set_option maxRecDepth 100000 in
theorem cc_arrive (l : Launch) (D : va_G) (A : Nat → Prop) (cs : Nat → ClassId) (ad : Nat → Nat → Nat) (dm : Nat → Nat → Prop) (σ : SG) (Lx : Nat → List Nat) (cap : Nat → Nat) (mk : Nat → Int32) (ev : SG) (zl tx mt tn : Nat → Nat) (tc : SG) (w0 : CF) (n tq : Nat) (hC : CD dm n cap tq) (j : Nat) (t : Int32) (hn22 : ¬ dm 22 0) (hlo : LO n Lx cap) (hj : j < n) (hf : FIN n σ Lx j) (hz : zl j < elen σ j) (hmt : mt j < tq ∧ tn (mt j) ≤ 8) : Met l yX3_arrive wsX3_arrive ({ frames := 8, cells := (arC (nI (tn (mt j))) j t (σ, Lx, ev, zl)), slots := (60 * (arC (nI (tn (mt j))) j t (σ, Lx, ev, zl))), locals := 262 }) (va_Pc [.ref (ad 17 j), .int t] (PW D A (tysG cs) ad dm (cw D ad cs σ Lx cap mk ev zl tx mt tn tc w0))) (QW D A (tysG cs) (fun rz ad1 dm1 w1 => rz = none ∧ EXP D cs n tq ad dm (arrT (nI (tn (mt j))) j t (σ, Lx, ev, zl)).1 (arrT (nI (tn (mt j))) j t (σ, Lx, ev, zl)).2.1 (arrT (nI (tn (mt j))) j t (σ, Lx, ev, zl)).2.2.1 (arrT (nI (tn (mt j))) j t (σ, Lx, ev, zl)).2.2.2 tx mt tn tc w0 ad1 dm1 w1)) (arC (nI (tn (mt j))) j t (σ, Lx, ev, zl)) (60 * (arC (nI (tn (mt j))) j t (σ, Lx, ev, zl))) A := by
  refine g_start (own := RX3) [.ref (ad 17 j), .int t] (cc := cX3_arrive) (maxL := 2) (ret := none) (lv0 := [(0, .ref (ad 17 j)), (1, .int t)]) (by decide) rfl rfl (Nat.le_of_ble_eq_true rfl) rfl ?_
  intro p e s m below meth c F hr hlocks hno
  obtain ⟨hf1, hf2, hm, hf4, hf5⟩ := id hf
  obtain ⟨hmt1, hmt2⟩ := hmt
  have hinX3 : ∀ w ∈ wsX30, w ∈ wsX3_arrive := by decide +kernel
  have hinX4 : ∀ w ∈ wsX40, w ∈ wsX3_arrive := by decide +kernel
  refine g_aload_n F 0 dX3_arrive_0 rfl rfl ?_
  refine g_getf (k := 17) (i := j) (ci := 3) (C := RX3) (T := TX3) (N := 16) (fs := (cM ad σ mt j)) (fk := 2) F hinX3 (hC.2.2.2.2.2.2.2.1 j (by omega)).1 rfl rfl (by decide) (by decide +kernel) rfl rfl dX3_arrive_1 ?_
  refine g_dup F dX3_arrive_4 rfl ?_
  refine g_getf (k := 14) (i := (ix (σ 13 j))) (ci := 4) (C := RX4) (T := TX4) (N := 5) (fs := (cR ad σ (ix (σ 13 j)))) (fk := 2) F hinX4 (hC.2.2.2.2.1 (ix (σ 13 j)) (by omega)) rfl rfl (by decide) (by decide +kernel) rfl rfl dX3_arrive_5 ?_
  refine g_iconst F dX3_arrive_8 (v := 1) (by decide) ?_
  refine g_iadd F dX3_arrive_9 ?_
  refine g_putf (k := 14) (i := (ix (σ 13 j))) (ci := 4) (C := RX4) (T := TX4) (N := 5) (fs := (cR ad σ (ix (σ 13 j)))) (fk := 2) (v := .int ((σ 30 (ix (σ 13 j))) + 1)) (ty := .int) (tf := tyX4) F hinX4 tyX4_ok nmX4 (hC.2.2.2.2.1 (ix (σ 13 j)) (by omega)) rfl rfl (by decide) (by decide +kernel) rfl rfl (by decide +kernel) rfl rfl (show 2 < 5 by decide) dX3_arrive_10 ?_
  refine g_w (w1 := (cw D ad cs (up2 σ 30 (ix (σ 13 j)) ((σ 30 (ix (σ 13 j))) + 1)) Lx cap mk ev zl tx mt tn tc w0)) (cp_30 (ix (σ 13 j)) ((σ 30 (ix (σ 13 j))) + 1)).symm ?_
  refine g_aload_n F 0 dX3_arrive_13 rfl rfl ?_
  refine g_dup F dX3_arrive_14 rfl ?_
  refine g_getf (k := 17) (i := j) (ci := 3) (C := RX3) (T := TX3) (N := 16) (fs := (cM ad (up2 σ 30 (ix (σ 13 j)) ((σ 30 (ix (σ 13 j))) + 1)) mt j)) (fk := 15) F hinX3 (hC.2.2.2.2.2.2.2.1 j (by omega)).1 rfl rfl (by decide) (by decide +kernel) rfl (congrArg (fun z : Int32 => some (Value.int z)) (show (up2 σ 30 (ix (σ 13 j)) ((σ 30 (ix (σ 13 j))) + 1)) 24 j = (σ 24 j) from ((up2_ne _ _ (fun h => absurd h.1 (by decide))).trans rfl))) dX3_arrive_15 ?_
  refine g_iconst F dX3_arrive_18 (v := 1) (by decide) ?_
  refine g_iadd F dX3_arrive_19 ?_
  refine g_putf (k := 17) (i := j) (ci := 3) (C := RX3) (T := TX3) (N := 16) (fs := (cM ad (up2 σ 30 (ix (σ 13 j)) ((σ 30 (ix (σ 13 j))) + 1)) mt j)) (fk := 15) (v := .int ((σ 24 j) + 1)) (ty := .int) (tf := tyX3) F hinX3 tyX3_ok nmX3 (hC.2.2.2.2.2.2.2.1 j (by omega)).1 rfl rfl (by decide) (by decide +kernel) rfl rfl (by decide +kernel) rfl rfl (show 15 < 16 by decide) dX3_arrive_20 ?_
  refine g_w (w1 := (cw D ad cs (up2 (up2 σ 30 (ix (σ 13 j)) ((σ 30 (ix (σ 13 j))) + 1)) 24 j ((σ 24 j) + 1)) Lx cap mk ev zl tx mt tn tc w0)) (cp_24 j ((σ 24 j) + 1)).symm ?_
  refine g_aload_n F 0 dX3_arrive_23 rfl rfl ?_
  refine g_iload_n F 1 dX3_arrive_24 rfl rfl ?_
  refine g_putf (k := 17) (i := j) (ci := 3) (C := RX3) (T := TX3) (N := 16) (fs := (cM ad (up2 (up2 σ 30 (ix (σ 13 j)) ((σ 30 (ix (σ 13 j))) + 1)) 24 j ((σ 24 j) + 1)) mt j)) (fk := 13) (v := .int t) (ty := .int) (tf := tyX3) F hinX3 tyX3_ok nmX3 (hC.2.2.2.2.2.2.2.1 j (by omega)).1 rfl rfl (by decide) (by decide +kernel) rfl rfl (by decide +kernel) rfl rfl (show 13 < 16 by decide) dX3_arrive_25 ?_
  refine g_w (w1 := (cw D ad cs (up2 (up2 (up2 σ 30 (ix (σ 13 j)) ((σ 30 (ix (σ 13 j))) + 1)) 24 j ((σ 24 j) + 1)) 26 j t) Lx cap mk ev zl tx mt tn tc w0)) (cp_26 j t).symm ?_
  refine g_aload_n F 0 dX3_arrive_28 rfl rfl ?_
  refine g_getf (k := 17) (i := j) (ci := 3) (C := RX3) (T := TX3) (N := 16) (fs := (cM ad (up2 (up2 (up2 σ 30 (ix (σ 13 j)) ((σ 30 (ix (σ 13 j))) + 1)) 24 j ((σ 24 j) + 1)) 26 j t) mt j)) (fk := 11) F hinX3 (hC.2.2.2.2.2.2.2.1 j (by omega)).1 rfl rfl (by decide) (by decide +kernel) rfl rfl dX3_arrive_29 ?_
  refine g_iconst F dX3_arrive_32 (v := 0) (by decide) ?_
  refine q_callS F (rest := []) [.ref (ad 18 j), .int 0] (cc_fill l D A cs ad dm (up2 (up2 (up2 σ 30 (ix (σ 13 j)) ((σ 30 (ix (σ 13 j))) + 1)) 24 j ((σ 24 j) + 1)) 26 j t) Lx cap mk ev zl tx mt tn tc w0 n tq hC j (by omega)) (va_cwS 2 F.1.2.2.2.2 gX3_arrive_J7_fill_53178 rfl rfl rfl (by decide +kernel) ⟨Nat.le_of_ble_eq_true rfl, Nat.le_of_ble_eq_true rfl⟩) rfl rfl (Nat.le_of_ble_eq_true rfl) dX3_arrive_33 ⟨Nat.zero_le _, Nat.zero_le _⟩ (fun _ _ _ _ zv1 => ?_)
  obtain ⟨rfl, rfl, rfl, rfl⟩ := zv1
  show GG p l e _ s m _ below meth c D A ad dm _ _ _ _ (cw D ad cs (flF (up2 (up2 (up2 σ 30 (ix (σ 13 j)) ((σ 30 (ix (σ 13 j))) + 1)) 24 j ((σ 24 j) + 1)) 26 j t) j 3) Lx cap mk ev zl tx mt tn tc w0) 36 _ []
  refine g_aload_n F 0 dX3_arrive_36 rfl rfl ?_
  refine g_getf (k := 17) (i := j) (ci := 3) (C := RX3) (T := TX3) (N := 16) (fs := (cM ad (flF (up2 (up2 (up2 σ 30 (ix (σ 13 j)) ((σ 30 (ix (σ 13 j))) + 1)) 24 j ((σ 24 j) + 1)) 26 j t) j 3) mt j)) (fk := 10) F hinX3 (hC.2.2.2.2.2.2.2.1 j (by omega)).1 rfl rfl (by decide) (by decide +kernel) rfl rfl dX3_arrive_37 ?_
  refine g_iconst F dX3_arrive_40 (v := 1) (by decide) ?_
  refine q_callV F (C := RX2) (k := 19) (i := j) (ci := 2) (T := TX2) (N := 2) (rest := []) [.int 1] (cc_logadd l D A cs ad dm (flF (up2 (up2 (up2 σ 30 (ix (σ 13 j)) ((σ 30 (ix (σ 13 j))) + 1)) 24 j ((σ 24 j) + 1)) 26 j t) j 3) Lx cap mk ev zl tx mt tn tc w0 n tq hC j 1 (by omega) hz hf4) (cwV 1 F.1.2.2.2.2 gX3_arrive_X2_add rfl rfl rfl (by decide +kernel) ⟨Nat.le_of_ble_eq_true rfl, Nat.le_of_ble_eq_true rfl⟩) rfl (hC.2.2.2.2.2.2.2.1 j (by omega)).2.2.1 rfl rfl rfl rfl (Nat.le_of_ble_eq_true rfl) dX3_arrive_41 ⟨Nat.zero_le _, Nat.zero_le _⟩ (fun _ _ _ _ zv2 => ?_)
  obtain ⟨rfl, rfl, rfl, rfl⟩ := zv2
  show GG p l e _ s m _ below meth c D A ad dm _ _ _ _ (cw D ad cs (flF (up2 (up2 (up2 σ 30 (ix (σ 13 j)) ((σ 30 (ix (σ 13 j))) + 1)) 24 j ((σ 24 j) + 1)) 26 j t) j 3) Lx cap mk (up2 ev j (zl j) 1) (va_up zl j ((zl j) + 1)) tx mt tn tc w0) 44 _ []
  refine g_aload_n F 0 dX3_arrive_44 rfl rfl ?_
  refine g_getf (k := 17) (i := j) (ci := 3) (C := RX3) (T := TX3) (N := 16) (fs := (cM ad (flF (up2 (up2 (up2 σ 30 (ix (σ 13 j)) ((σ 30 (ix (σ 13 j))) + 1)) 24 j ((σ 24 j) + 1)) 26 j t) j 3) mt j)) (fk := 15) F hinX3 (hC.2.2.2.2.2.2.2.1 j (by omega)).1 rfl rfl (by decide) (by decide +kernel) rfl rfl dX3_arrive_45 ?_
  refine g_aload_n F 0 dX3_arrive_48 rfl rfl ?_
  refine g_getf (k := 17) (i := j) (ci := 3) (C := RX3) (T := TX3) (N := 16) (fs := (cM ad (flF (up2 (up2 (up2 σ 30 (ix (σ 13 j)) ((σ 30 (ix (σ 13 j))) + 1)) 24 j ((σ 24 j) + 1)) 26 j t) j 3) mt j)) (fk := 3) F hinX3 (hC.2.2.2.2.2.2.2.1 j (by omega)).1 rfl rfl (by decide) (by decide +kernel) rfl rfl dX3_arrive_49 ?_
  refine g_alen (t0 := 0) (k := 21) (i := (mt j)) (v := (nI (tn (mt j)))) F (hC.2.2.2.2.2.2.2.2 (mt j) hmt1) rfl rfl rfl dX3_arrive_52 ?_
  refine g_icmp_lt F (tgt := 61) dX3_arrive_53 (by decide) (fun zc3 => ?_) (fun zc3 => ?_)
  ·
    exact g_qv F hr hlocks (fun _ h => h) ⟨rfl, (by rw [(arrT_y (p := (nI (tn (mt j)))) (j := j) (t := t) (s := (σ, Lx, ev, zl)) zc3).1]; exact EXP.same hC hlo)⟩ (Nat.zero_le _) (Nat.zero_le _) dX3_arrive_61
  ·
    refine g_aload_n F 0 dX3_arrive_56 rfl rfl ?_
    refine g_iconst F dX3_arrive_57 (v := 1) (by decide) ?_
    refine q_callV F (C := RX3) (k := 17) (i := j) (ci := 3) (T := TX3) (N := 16) (rest := []) [.int 1] (cc_finish l D A cs ad dm (flF (up2 (up2 (up2 σ 30 (ix (σ 13 j)) ((σ 30 (ix (σ 13 j))) + 1)) 24 j ((σ 24 j) + 1)) 26 j t) j 3) Lx cap mk (up2 ev j (zl j) 1) (va_up zl j ((zl j) + 1)) tx mt tn tc w0 n tq hC j 1 hn22 hlo (by omega) hf (fun q => absurd rfl q)) (cwV 1 F.1.2.2.2.2 gX3_arrive_X3_finish rfl rfl rfl (by decide +kernel) ⟨Nat.le_of_ble_eq_true rfl, Nat.le_of_ble_eq_true rfl⟩) rfl (hC.2.2.2.2.2.2.2.1 j (by omega)).1 rfl rfl rfl rfl (Nat.le_of_ble_eq_true rfl) dX3_arrive_58 ⟨(Nat.le_trans (show 0 + 1 ≤ 1 by decide) (Nat.le_of_eq (Eq.symm (arrT_n (p := (nI (tn (mt j)))) (j := j) (t := t) (s := (σ, Lx, ev, zl)) zc3).2))), (Nat.le_trans (show 0 + 60 ≤ 60 * 1 by decide) (Nat.le_of_eq (congrArg (fun z => 60 * z) (Eq.symm (arrT_n (p := (nI (tn (mt j)))) (j := j) (t := t) (s := (σ, Lx, ev, zl)) zc3).2))))⟩ (fun _ _ _ _ zv4 => ?_)
    obtain ⟨rfl, g58, d58, cp58, mq58, rfl, rfl, hC58, hlo58, rfl⟩ := zv4
    show GG p l e _ s m _ below meth c D A (r16 ad g58) (r16 dm d58) _ _ _ _ (cw D (r16 ad g58) cs (finT j 1 ((flF (up2 (up2 (up2 σ 30 (ix (σ 13 j)) ((σ 30 (ix (σ 13 j))) + 1)) 24 j ((σ 24 j) + 1)) 26 j t) j 3), Lx, (up2 ev j (zl j) 1), (va_up zl j ((zl j) + 1)))).1 (finT j 1 ((flF (up2 (up2 (up2 σ 30 (ix (σ 13 j)) ((σ 30 (ix (σ 13 j))) + 1)) 24 j ((σ 24 j) + 1)) 26 j t) j 3), Lx, (up2 ev j (zl j) 1), (va_up zl j ((zl j) + 1)))).2.1 cp58 mq58 (finT j 1 ((flF (up2 (up2 (up2 σ 30 (ix (σ 13 j)) ((σ 30 (ix (σ 13 j))) + 1)) 24 j ((σ 24 j) + 1)) 26 j t) j 3), Lx, (up2 ev j (zl j) 1), (va_up zl j ((zl j) + 1)))).2.2.1 (finT j 1 ((flF (up2 (up2 (up2 σ 30 (ix (σ 13 j)) ((σ 30 (ix (σ 13 j))) + 1)) 24 j ((σ 24 j) + 1)) 26 j t) j 3), Lx, (up2 ev j (zl j) 1), (va_up zl j ((zl j) + 1)))).2.2.2 tx mt tn tc w0) 61 _ []
    exact g_qv F hr hlocks (fun _ h => h) ⟨rfl, (by rw [(arrT_n (p := (nI (tn (mt j)))) (j := j) (t := t) (s := (σ, Lx, ev, zl)) zc3).1]; exact ⟨g58, d58, cp58, mq58, rfl, rfl, hC58, hlo58, rfl⟩)⟩ (Nat.le_trans (show 0 + 1 ≤ 1 by decide) (Nat.le_of_eq (Eq.symm (arrT_n (p := (nI (tn (mt j)))) (j := j) (t := t) (s := (σ, Lx, ev, zl)) zc3).2))) (Nat.le_trans (show 0 + 60 ≤ 60 * 1 by decide) (Nat.le_of_eq (congrArg (fun z => 60 * z) (Eq.symm (arrT_n (p := (nI (tn (mt j)))) (j := j) (t := t) (s := (σ, Lx, ev, zl)) zc3).2)))) dX3_arrive_61
set_option maxHeartbeats 4000000 in
set_option maxRecDepth 100000 in
theorem cc_delete (l : Launch) (D : va_G) (A : Nat → Prop) (cs : Nat → ClassId) (ad : Nat → Nat → Nat) (dm : Nat → Nat → Prop) (σ : SG) (Lx : Nat → List Nat) (cap : Nat → Nat) (mk : Nat → Int32) (ev : SG) (zl tx mt tn : Nat → Nat) (tc : SG) (w0 : CF) (n tq : Nat) (hC : CD dm n cap tq) (v : Int32) (hn40 : n ≤ 40) (hL : Lx 0 = List.range n) (hlo : LO n Lx cap) (hn22 : ¬ dm 22 0) (hfi : ∀ j, j < n → σ 23 j = 0 → FIN n σ Lx j ∧ zl j < elen σ j) (hfl : l.stackTraces = false) : vx_Met l yX5_delete wsX5_delete ({ frames := 8, cells := 4, slots := 90, locals := 262 }) (va_Pc [.ref (ad 10 0), .int v] (PW D A (tysG cs) ad dm (cw D ad cs σ Lx cap mk ev zl tx mt tn tc w0))) (QW D A (tysG cs) (fun rz ad1 dm1 w1 => (inR v 0 (nI n - 1) ∧ σ 23 (ix v) = 0) ∧ rz = some (.int (σ 24 (ix v))) ∧ EXP D cs n tq ad dm (finT (ix v) 3 (σ, Lx, ev, zl)).1 (finT (ix v) 3 (σ, Lx, ev, zl)).2.1 (finT (ix v) 3 (σ, Lx, ev, zl)).2.2.1 (finT (ix v) 3 (σ, Lx, ev, zl)).2.2.2 tx mt tn tc w0 ad1 dm1 w1)) (XW D A (tysG cs) ad dm (cw D ad cs σ Lx cap mk ev zl tx mt tn tc w0) (fun E => (E = xIO ∧ ¬ inR v 0 (nI n - 1)) ∨ (E = xIS ∧ inR v 0 (nI n - 1) ∧ ¬ σ 23 (ix v) = 0))) 4 90 A := by
  refine q_start (own := RX5) [.ref (ad 10 0), .int v] (cc := cX5_delete) (maxL := 3) (ret := (some .int)) (lv0 := [(0, .ref (ad 10 0)), (1, .int v)]) (by decide) rfl rfl (Nat.le_of_ble_eq_true rfl) rfl ?_
  intro p e s m below meth c F hr hlocks hno
  have hinX3 : ∀ w ∈ wsX30, w ∈ wsX5_delete := by decide +kernel
  refine g_aload_n F 0 dX5_delete_0 rfl rfl ?_
  refine g_iload_n F 1 dX5_delete_1 rfl rfl ?_
  refine x_callV F (C := RX5) (k := 10) (i := 0) (ci := 5) (T := TX5) (N := 4) (rest := []) [.int v] (cc_waitingAt l D A cs ad dm σ Lx cap mk ev zl tx mt tn tc w0 n tq hC v hn40 hL hlo hfl) (cwV 1 F.1.2.2.2.2 gX5_delete_X5_waitingMessageAt rfl rfl rfl (by decide +kernel) ⟨Nat.le_of_ble_eq_true rfl, Nat.le_of_ble_eq_true rfl⟩) rfl hC.1 rfl rfl rfl rfl (Nat.le_of_ble_eq_true rfl) dX5_delete_2 ⟨Nat.le_of_ble_eq_true rfl, Nat.le_of_ble_eq_true rfl⟩ (x_prop F hno hlocks (fun E h => h) (Nat.le_of_ble_eq_true rfl) (Nat.le_of_ble_eq_true rfl)) (fun _ _ _ _ zv1 => ?_)
  obtain ⟨⟨hc2, hd2⟩, rfl, rfl, rfl, rfl⟩ := zv1
  have hb2 := (ix_mg (by omega) hc2).2
  show GG p l e _ s m _ below meth c D A ad dm _ _ _ _ (cw D ad cs σ Lx cap mk ev zl tx mt tn tc w0) 5 _ [.ref (ad 17 (ix v))]
  refine g_astore_n F (lv1 := [(2, .ref (ad 17 (ix v))), (0, .ref (ad 10 0)), (1, .int v)]) dX5_delete_5 rfl (by decide) rfl ?_
  refine g_aload_n F 0 dX5_delete_6 rfl rfl ?_
  refine g_iconst F dX5_delete_7 (v := 3) (by decide) ?_
  refine q_callV F (C := RX3) (k := 17) (i := (ix v)) (ci := 3) (T := TX3) (N := 16) (rest := []) [.int 3] (cc_finish l D A cs ad dm σ Lx cap mk ev zl tx mt tn tc w0 n tq hC (ix v) 3 hn22 hlo (by omega) (hfi (ix v) hb2 hd2).1 (fun _ => (hfi (ix v) hb2 hd2).2)) (cwV 1 F.1.2.2.2.2 gX5_delete_X3_finish rfl rfl rfl (by decide +kernel) ⟨Nat.le_of_ble_eq_true rfl, Nat.le_of_ble_eq_true rfl⟩) rfl (hC.2.2.2.2.2.2.2.1 (ix v) (by omega)).1 rfl rfl rfl rfl (Nat.le_of_ble_eq_true rfl) dX5_delete_8 ⟨Nat.le_of_ble_eq_true rfl, Nat.le_of_ble_eq_true rfl⟩ (fun _ _ _ _ zv2 => ?_)
  obtain ⟨rfl, g8, d8, cp8, mq8, rfl, rfl, hC8, hlo8, rfl⟩ := zv2
  show GG p l e _ s m _ below meth c D A (r16 ad g8) (r16 dm d8) _ _ _ _ (cw D (r16 ad g8) cs (finT (ix v) 3 (σ, Lx, ev, zl)).1 (finT (ix v) 3 (σ, Lx, ev, zl)).2.1 cp8 mq8 (finT (ix v) 3 (σ, Lx, ev, zl)).2.2.1 (finT (ix v) 3 (σ, Lx, ev, zl)).2.2.2 tx mt tn tc w0) 11 _ []
  refine g_aload_n F 0 dX5_delete_11 rfl rfl ?_
  refine g_getf (k := 17) (i := (ix v)) (ci := 3) (C := RX3) (T := TX3) (N := 16) (fs := (cM (r16 ad g8) (finT (ix v) 3 (σ, Lx, ev, zl)).1 mt (ix v))) (fk := 15) F hinX3 (hC8.2.2.2.2.2.2.2.1 (ix v) (by omega)).1 rfl rfl (by decide) (by decide +kernel) rfl rfl dX5_delete_12 ?_
  exact x_qi F hr hlocks (fun _ h => h) ⟨⟨hc2, hd2⟩, (congrArg some (rfl)), ⟨g8, d8, cp8, mq8, rfl, rfl, hC8, hlo8, rfl⟩⟩ (by decide) (by decide) dX5_delete_15

