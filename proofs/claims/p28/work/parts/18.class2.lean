section CEN
variable {p : Program} {l : Launch} {e : Env} {R : Room} {s : State} {m : MethodId} {args : Array Value} {below : List Frame} {meth : Method} {c : Code} {cells slots : Nat} {Q : State → Prop} {cc : ByteArray} {nL : Nat} {Ts : List Cond} {own : String} {D : va_G} {A : Nat → Prop} {tys : List (ClassId × FieldType)} {ad : Nat → Nat → Nat} {dm : Nat → Nat → Prop} {w : CF} {pc : Nat} {lv : List (Nat × Value)} {rest : List Value}
theorem q_callE (F : FX p s m args c cc nL Ts own D A tys) {y : MethodName} {bytes : ByteArray} {maxL mc ms n index : Nat} {ret : Option FieldType} {ws : List Cond} {rm : Room} {post : Option Value → (Nat → Nat → Nat) → (Nat → Nat → Prop) → CF → Prop} {b i : Nat} (As : List Value) {st : List Value} (hM : Met l y ws rm (va_Pc (.ref b :: As) (PW D A tys ad dm w)) (QW D A tys post) mc ms A) (cw : CallW R s args own "MessageCentre$Cause" index y bytes maxL ret ws rm mc ms n) (hb : b = D.2 100 (1 + i)) (hi : i < 3) (hn : As.length = n) (hst : st = As.reverse ++ .ref b :: rest) (hroom : (rest.map fun v => v.category).sum ≤ 8) (d : decode cc pc = .ok (.invokevirtual index, 3)) (hf : cells + mc ≤ R.cells ∧ slots + ms ≤ R.slots)
    (kk : ∀ (v : Option Value) (ad1 : Nat → Nat → Nat) (dm1 : Nat → Nat → Prop) (w1 : CF), post v ad1 dm1 w1 → GG p l e R s m args below meth c D A ad1 dm1 nL (cells + mc) (slots + ms) Q w1 (pc + 3) lv (v.toList ++ rest)) : GG p l e R s m args below meth c D A ad dm nL cells slots Q w pc lv st := by
  intro H locs ls hw hS hl
  subst hst
  subst hb
  exact q_call (va_runV (As := As) (rest := rest) F.1 hM cw ⟨fun a U g mk q => ⟨q.1, q.2.call a g mk⟩, va_recvE (ad := fun i => D.2 100 (1 + i)) F.2.2.2.1.2.2.1 hi hS, fun U hU hW => ⟨rfl, F.PW hw hS hU hW⟩⟩ rfl hn hl.1 rfl (lv_room hroom) d hf) hS hl kk
end CEN
def dlA (f v : Int32) : Int32 := (f <<< ((if (0 : Int32) < (if (3 : Int32) < v - 1 then (3 : Int32) else v - 1) then (if (3 : Int32) < v - 1 then (3 : Int32) else v - 1) else 0) &&& 31))
set_option maxHeartbeats 4000000 in
set_option maxRecDepth 100000 in
theorem cc_delay0 (l : Launch) (D : va_G) (A : Nat → Prop) (cs : Nat → ClassId) (ad : Nat → Nat → Nat) (dm : Nat → Nat → Prop) (σ : SG) (Lx : Nat → List Nat) (cap : Nat → Nat) (mk : Nat → Int32) (ev : SG) (zl tx mt tn : Nat → Nat) (tc : SG) (w0 : CF) (n tq : Nat) (hC : CD dm n cap tq) (v : Int32)  : Met l yX1_delayAfter wsX1_delayAfter ({ frames := 1, cells := 0, slots := 0, locals := 40 }) (va_Pc [.ref (D.2 100 (1 + 0)), .int v] (PW D A (tysG cs) ad dm (cw D ad cs σ Lx cap mk ev zl tx mt tn tc w0))) (QW D A (tysG cs) (fun rz ad1 dm1 w1 => rz = some (.int (dlA 2 v)) ∧ ad = ad1 ∧ dm = dm1 ∧ (cw D ad cs σ Lx cap mk ev zl tx mt tn tc w0) = w1)) 0 0 A := by
  refine g_start (own := RX1) [.ref (D.2 100 (1 + 0)), .int v] (cc := cX1_delayAfter) (maxL := 2) (ret := (some .int)) (lv0 := [(0, .ref (D.2 100 (1 + 0))), (1, .int v)]) (by decide) rfl rfl (Nat.le_of_ble_eq_true rfl) rfl ?_
  intro p e s m below meth c F hr hlocks hno
  refine g_aload_n F 0 dX1_delayAfter_0 rfl rfl ?_
  refine g_getC F 0 1 (v := 2) (by decide) rfl rfl (by decide +kernel) dX1_delayAfter_1 ?_
  refine g_iconst F dX1_delayAfter_4 (v := 0) (by decide) ?_
  refine g_iload_n F 1 dX1_delayAfter_5 rfl rfl ?_
  refine g_iconst F dX1_delayAfter_6 (v := 1) (by decide) ?_
  refine g_isub F dX1_delayAfter_7 ?_
  refine g_iconst F dX1_delayAfter_8 (v := 3) (by decide) ?_
  refine g_mmin F (by decide +kernel) (by decide +kernel) (by decide +kernel) (by decide +kernel) (Nat.le_of_ble_eq_true rfl) (Nat.le_of_ble_eq_true rfl) (Nat.le_of_ble_eq_true rfl) (Nat.le_of_ble_eq_true rfl) dX1_delayAfter_9 ?_
  refine g_mmax F (by decide +kernel) (by decide +kernel) (by decide +kernel) (by decide +kernel) (Nat.le_of_ble_eq_true rfl) (Nat.le_of_ble_eq_true rfl) (Nat.le_of_ble_eq_true rfl) (Nat.le_of_ble_eq_true rfl) dX1_delayAfter_12 ?_
  refine g_ishl F dX1_delayAfter_15 ?_
  exact g_qi F hr hlocks (fun _ h => h) ⟨(congrArg some (rfl)), rfl, rfl, rfl⟩ (by decide) (by decide) dX1_delayAfter_16
set_option maxHeartbeats 4000000 in
set_option maxRecDepth 100000 in
theorem cc_delay1 (l : Launch) (D : va_G) (A : Nat → Prop) (cs : Nat → ClassId) (ad : Nat → Nat → Nat) (dm : Nat → Nat → Prop) (σ : SG) (Lx : Nat → List Nat) (cap : Nat → Nat) (mk : Nat → Int32) (ev : SG) (zl tx mt tn : Nat → Nat) (tc : SG) (w0 : CF) (n tq : Nat) (hC : CD dm n cap tq) (v : Int32)  : Met l yX1_delayAfter wsX1_delayAfter ({ frames := 1, cells := 0, slots := 0, locals := 40 }) (va_Pc [.ref (D.2 100 (1 + 1)), .int v] (PW D A (tysG cs) ad dm (cw D ad cs σ Lx cap mk ev zl tx mt tn tc w0))) (QW D A (tysG cs) (fun rz ad1 dm1 w1 => rz = some (.int (dlA 5 v)) ∧ ad = ad1 ∧ dm = dm1 ∧ (cw D ad cs σ Lx cap mk ev zl tx mt tn tc w0) = w1)) 0 0 A := by
  refine g_start (own := RX1) [.ref (D.2 100 (1 + 1)), .int v] (cc := cX1_delayAfter) (maxL := 2) (ret := (some .int)) (lv0 := [(0, .ref (D.2 100 (1 + 1))), (1, .int v)]) (by decide) rfl rfl (Nat.le_of_ble_eq_true rfl) rfl ?_
  intro p e s m below meth c F hr hlocks hno
  refine g_aload_n F 0 dX1_delayAfter_0 rfl rfl ?_
  refine g_getC F 1 1 (v := 5) (by decide) rfl rfl (by decide +kernel) dX1_delayAfter_1 ?_
  refine g_iconst F dX1_delayAfter_4 (v := 0) (by decide) ?_
  refine g_iload_n F 1 dX1_delayAfter_5 rfl rfl ?_
  refine g_iconst F dX1_delayAfter_6 (v := 1) (by decide) ?_
  refine g_isub F dX1_delayAfter_7 ?_
  refine g_iconst F dX1_delayAfter_8 (v := 3) (by decide) ?_
  refine g_mmin F (by decide +kernel) (by decide +kernel) (by decide +kernel) (by decide +kernel) (Nat.le_of_ble_eq_true rfl) (Nat.le_of_ble_eq_true rfl) (Nat.le_of_ble_eq_true rfl) (Nat.le_of_ble_eq_true rfl) dX1_delayAfter_9 ?_
  refine g_mmax F (by decide +kernel) (by decide +kernel) (by decide +kernel) (by decide +kernel) (Nat.le_of_ble_eq_true rfl) (Nat.le_of_ble_eq_true rfl) (Nat.le_of_ble_eq_true rfl) (Nat.le_of_ble_eq_true rfl) dX1_delayAfter_12 ?_
  refine g_ishl F dX1_delayAfter_15 ?_
  exact g_qi F hr hlocks (fun _ h => h) ⟨(congrArg some (rfl)), rfl, rfl, rfl⟩ (by decide) (by decide) dX1_delayAfter_16
set_option maxHeartbeats 4000000 in
set_option maxRecDepth 100000 in
theorem cc_delay2 (l : Launch) (D : va_G) (A : Nat → Prop) (cs : Nat → ClassId) (ad : Nat → Nat → Nat) (dm : Nat → Nat → Prop) (σ : SG) (Lx : Nat → List Nat) (cap : Nat → Nat) (mk : Nat → Int32) (ev : SG) (zl tx mt tn : Nat → Nat) (tc : SG) (w0 : CF) (n tq : Nat) (hC : CD dm n cap tq) (v : Int32)  : Met l yX1_delayAfter wsX1_delayAfter ({ frames := 1, cells := 0, slots := 0, locals := 40 }) (va_Pc [.ref (D.2 100 (1 + 2)), .int v] (PW D A (tysG cs) ad dm (cw D ad cs σ Lx cap mk ev zl tx mt tn tc w0))) (QW D A (tysG cs) (fun rz ad1 dm1 w1 => rz = some (.int (dlA 10 v)) ∧ ad = ad1 ∧ dm = dm1 ∧ (cw D ad cs σ Lx cap mk ev zl tx mt tn tc w0) = w1)) 0 0 A := by
  refine g_start (own := RX1) [.ref (D.2 100 (1 + 2)), .int v] (cc := cX1_delayAfter) (maxL := 2) (ret := (some .int)) (lv0 := [(0, .ref (D.2 100 (1 + 2))), (1, .int v)]) (by decide) rfl rfl (Nat.le_of_ble_eq_true rfl) rfl ?_
  intro p e s m below meth c F hr hlocks hno
  refine g_aload_n F 0 dX1_delayAfter_0 rfl rfl ?_
  refine g_getC F 2 1 (v := 10) (by decide) rfl rfl (by decide +kernel) dX1_delayAfter_1 ?_
  refine g_iconst F dX1_delayAfter_4 (v := 0) (by decide) ?_
  refine g_iload_n F 1 dX1_delayAfter_5 rfl rfl ?_
  refine g_iconst F dX1_delayAfter_6 (v := 1) (by decide) ?_
  refine g_isub F dX1_delayAfter_7 ?_
  refine g_iconst F dX1_delayAfter_8 (v := 3) (by decide) ?_
  refine g_mmin F (by decide +kernel) (by decide +kernel) (by decide +kernel) (by decide +kernel) (Nat.le_of_ble_eq_true rfl) (Nat.le_of_ble_eq_true rfl) (Nat.le_of_ble_eq_true rfl) (Nat.le_of_ble_eq_true rfl) dX1_delayAfter_9 ?_
  refine g_mmax F (by decide +kernel) (by decide +kernel) (by decide +kernel) (by decide +kernel) (Nat.le_of_ble_eq_true rfl) (Nat.le_of_ble_eq_true rfl) (Nat.le_of_ble_eq_true rfl) (Nat.le_of_ble_eq_true rfl) dX1_delayAfter_12 ?_
  refine g_ishl F dX1_delayAfter_15 ?_
  exact g_qi F hr hlocks (fun _ h => h) ⟨(congrArg some (rfl)), rfl, rfl, rfl⟩ (by decide) (by decide) dX1_delayAfter_16
def lgA (e : Nat → Int32) : Nat → Int32
  | 0 => 0
  | k + 1 => if e k = 1 then lgA e k + 1 else lgA e k
def lgT (e : Nat → Int32) : Nat → Int32
  | 0 => 0
  | k + 1 => if e k < 10 then lgT e k else e k - 10
theorem lgA_s (e : Nat → Int32) (k : Nat) : lgA e (k + 1) = if e k = 1 then lgA e k + 1 else lgA e k := rfl
theorem lgT_s (e : Nat → Int32) (k : Nat) : lgT e (k + 1) = if e k < 10 then lgT e k else e k - 10 := rfl
set_option maxHeartbeats 4000000 in
set_option maxRecDepth 100000 in
theorem cc_stateEnd (l : Launch) (D : va_G) (A : Nat → Prop) (cs : Nat → ClassId) (ad : Nat → Nat → Nat) (dm : Nat → Nat → Prop) (σ : SG) (Lx : Nat → List Nat) (cap : Nat → Nat) (mk : Nat → Int32) (ev : SG) (zl tx mt tn : Nat → Nat) (tc : SG) (w0 : CF) (n tq : Nat) (hC : CD dm n cap tq) (v : Int32) (j : Nat) (hj : j < n) (hz : zl j ≤ elen σ j) (he31 : elen σ j ≤ 1000) : Met l yX2_stateAtItsEnd wsX2_stateAtItsEnd ({ frames := 0, cells := 0, slots := 0, locals := 0 }) (va_Pc [.ref (ad 19 j), .int v] (PW D A (tysG cs) ad dm (cw D ad cs σ Lx cap mk ev zl tx mt tn tc w0))) (QW D A (tysG cs) (fun rz ad1 dm1 w1 => rz = some (.int (if (lgA (ev j) (zl j)) < v then (lgT (ev j) (zl j)) else 1)) ∧ ad = ad1 ∧ dm = dm1 ∧ (cw D ad cs σ Lx cap mk ev zl tx mt tn tc w0) = w1)) 0 0 A := by
  refine g_start (own := RX2) [.ref (ad 19 j), .int v] (cc := cX2_stateAtItsEnd) (maxL := 5) (ret := (some .int)) (lv0 := [(0, .ref (ad 19 j)), (1, .int v)]) (by decide) rfl rfl (Nat.le_of_ble_eq_true rfl) rfl ?_
  intro p e s m below meth c F hr hlocks hno
  have hinX2 : ∀ w ∈ wsX20, w ∈ wsX2_stateAtItsEnd := by decide +kernel
  refine g_iconst F dX2_stateAtItsEnd_0 (v := 0) (by decide) ?_
  refine g_istore_n F (lv1 := [(2, .int 0), (0, .ref (ad 19 j)), (1, .int v)]) dX2_stateAtItsEnd_1 rfl (by decide) rfl ?_
  refine g_iconst F dX2_stateAtItsEnd_2 (v := 0) (by decide) ?_
  refine g_istore_n F (lv1 := [(3, .int 0), (2, .int 0), (0, .ref (ad 19 j)), (1, .int v)]) dX2_stateAtItsEnd_3 rfl (by decide) rfl ?_
  refine g_iconst F dX2_stateAtItsEnd_4 (v := 0) (by decide) ?_
  refine g_istore F (lv1 := [(4, .int 0), (3, .int 0), (2, .int 0), (0, .ref (ad 19 j)), (1, .int v)]) dX2_stateAtItsEnd_5 (by decide) rfl ?_
  refine g_loop (zl j) 0 (by omega) (fun zk1 => (cw D ad cs σ Lx cap mk ev zl tx mt tn tc w0)) (fun zk1 => [(4, .int (nI zk1)), (3, .int (lgA (ev j) zk1)), (2, .int (lgT (ev j) zk1)), (0, .ref (ad 19 j)), (1, .int v)]) rfl rfl ?_ (fun zk1 zhk3 zhk4 zih2 => ?_)
  ·
    show GG p l e _ s m _ below meth c D A ad dm _ _ _ _ (cw D ad cs σ Lx cap mk ev zl tx mt tn tc w0) 7 [(4, .int (nI (zl j))), (3, .int (lgA (ev j) (zl j))), (2, .int (lgT (ev j) (zl j))), (0, .ref (ad 19 j)), (1, .int v)] []
    refine g_iload F 0 dX2_stateAtItsEnd_7 rfl ?_
    refine g_aload_n F 3 dX2_stateAtItsEnd_9 rfl rfl ?_
    refine g_getf (k := 19) (i := j) (ci := 2) (C := RX2) (T := TX2) (N := 2) (fs := [.ref (ad 20 j), .int (nI (zl j))]) (fk := 1) F hinX2 (hC.2.2.2.2.2.2.2.1 j (by omega)).2.2.1 rfl rfl (by decide) (by decide +kernel) rfl rfl dX2_stateAtItsEnd_10 ?_
    refine g_icmp_ge F (tgt := 69) dX2_stateAtItsEnd_13 (by decide) (fun zc5 => ?_) (fun zc5 => ?_)
    ·
      refine g_iload_n F 1 dX2_stateAtItsEnd_69 rfl rfl ?_
      refine g_iload_n F 4 dX2_stateAtItsEnd_70 rfl rfl ?_
      refine g_cut (w2 := (cw D ad cs σ Lx cap mk ev zl tx mt tn tc w0)) (pc2 := 79) (lv2 := [(4, .int (nI (zl j))), (3, .int (lgA (ev j) (zl j))), (2, .int (lgT (ev j) (zl j))), (0, .ref (ad 19 j)), (1, .int v)]) (st2 := [.int (if (lgA (ev j) (zl j)) < v then (lgT (ev j) (zl j)) else 1 : Int32)]) ?_ (fun zhJ6 => ?_)
      ·
        exact g_qi F hr hlocks (fun _ h => h) ⟨(congrArg some (rfl)), rfl, rfl, rfl⟩ (by decide) (by decide) dX2_stateAtItsEnd_79
      ·
        refine g_icmp_lt F (tgt := 78) dX2_stateAtItsEnd_71 (by decide) (fun zc7 => ?_) (fun zc7 => ?_)
        ·
          refine g_iload_n F 2 dX2_stateAtItsEnd_78 rfl rfl ?_
          exact g_top (by rw [if_pos zc7]) zhJ6
        ·
          refine g_iconst F dX2_stateAtItsEnd_74 (v := 1) (by decide) ?_
          refine g_goto F (tgt := 79) dX2_stateAtItsEnd_75 (by decide) ?_
          exact g_top (by rw [if_neg zc7]) zhJ6
    ·
      exact absurd ((nI_leE (show (nI (zl j)) = nI (zl j) from rfl) (show (nI (zl j)) = nI (zl j) from rfl) (show (zl j) < 2 ^ 31 by omega) (show (zl j) < 2 ^ 31 by omega)).mpr (by omega)) zc5
  ·
    replace zih2 : GG p l e _ s m _ below meth c D A ad dm _ _ _ _ (cw D ad cs σ Lx cap mk ev zl tx mt tn tc w0) 7 [(4, .int (nI (zk1 + 1))), (3, .int (lgA (ev j) (zk1 + 1))), (2, .int (lgT (ev j) (zk1 + 1))), (0, .ref (ad 19 j)), (1, .int v)] [] := zih2
    show GG p l e _ s m _ below meth c D A ad dm _ _ _ _ (cw D ad cs σ Lx cap mk ev zl tx mt tn tc w0) 7 [(4, .int (nI zk1)), (3, .int (lgA (ev j) zk1)), (2, .int (lgT (ev j) zk1)), (0, .ref (ad 19 j)), (1, .int v)] []
    refine g_iload F 0 dX2_stateAtItsEnd_7 rfl ?_
    refine g_aload_n F 3 dX2_stateAtItsEnd_9 rfl rfl ?_
    refine g_getf (k := 19) (i := j) (ci := 2) (C := RX2) (T := TX2) (N := 2) (fs := [.ref (ad 20 j), .int (nI (zl j))]) (fk := 1) F hinX2 (hC.2.2.2.2.2.2.2.1 j (by omega)).2.2.1 rfl rfl (by decide) (by decide +kernel) rfl rfl dX2_stateAtItsEnd_10 ?_
    refine g_icmp_ge F (tgt := 69) dX2_stateAtItsEnd_13 (by decide) (fun zc8 => ?_) (fun zc8 => ?_)
    ·
      exact absurd ((nI_leE (show (nI (zl j)) = nI (zl j) from rfl) (show (nI zk1) = nI zk1 from rfl) (show (zl j) < 2 ^ 31 by omega) (show zk1 < 2 ^ 31 by omega)).mp zc8) (by omega)
    ·
      refine g_iload F 0 dX2_stateAtItsEnd_16 rfl ?_
      refine g_aload_n F 3 dX2_stateAtItsEnd_18 rfl rfl ?_
      refine g_getf (k := 19) (i := j) (ci := 2) (C := RX2) (T := TX2) (N := 2) (fs := [.ref (ad 20 j), .int (nI (zl j))]) (fk := 0) F hinX2 (hC.2.2.2.2.2.2.2.1 j (by omega)).2.2.1 rfl rfl (by decide) (by decide +kernel) rfl rfl dX2_stateAtItsEnd_19 ?_
      refine g_alen (t0 := 0) (k := 20) (i := j) (v := (nI (elen σ j))) F (hC.2.2.2.2.2.2.2.1 j (by omega)).2.2.2 rfl rfl rfl dX2_stateAtItsEnd_22 ?_
      refine g_icmp_ge F (tgt := 69) dX2_stateAtItsEnd_23 (by decide) (fun zc9 => ?_) (fun zc9 => ?_)
      ·
        exact absurd ((nI_leE (show (nI (elen σ j)) = nI (elen σ j) from rfl) (show (nI zk1) = nI zk1 from rfl) (show (elen σ j) < 2 ^ 31 by omega) (show zk1 < 2 ^ 31 by omega)).mp zc9) (by omega)
      ·
        refine g_aload_n F 3 dX2_stateAtItsEnd_26 rfl rfl ?_
        refine g_getf (k := 19) (i := j) (ci := 2) (C := RX2) (T := TX2) (N := 2) (fs := [.ref (ad 20 j), .int (nI (zl j))]) (fk := 0) F hinX2 (hC.2.2.2.2.2.2.2.1 j (by omega)).2.2.1 rfl rfl (by decide) (by decide +kernel) rfl rfl dX2_stateAtItsEnd_27 ?_
        refine g_iload F 0 dX2_stateAtItsEnd_30 rfl ?_
        refine ca_iald (k := 20) (i := j) (n := (elen σ j)) (f := (cV σ ev j)) F (hC.2.2.2.2.2.2.2.1 j (by omega)).2.2.2 rfl rfl ⟨by omega, by omega⟩ (v := (ev j zk1)) (if_pos (show zk1 < elen σ j by omega)) dX2_stateAtItsEnd_32 ?_
        refine g_iconst F dX2_stateAtItsEnd_33 (v := 1) (by decide) ?_
        refine g_icmp_ne F (tgt := 40) dX2_stateAtItsEnd_34 (by decide) (fun zc10 => ?_) (fun zc10 => ?_)
        ·
          refine g_aload_n F 3 dX2_stateAtItsEnd_40 rfl rfl ?_
          refine g_getf (k := 19) (i := j) (ci := 2) (C := RX2) (T := TX2) (N := 2) (fs := [.ref (ad 20 j), .int (nI (zl j))]) (fk := 0) F hinX2 (hC.2.2.2.2.2.2.2.1 j (by omega)).2.2.1 rfl rfl (by decide) (by decide +kernel) rfl rfl dX2_stateAtItsEnd_41 ?_
          refine g_iload F 0 dX2_stateAtItsEnd_44 rfl ?_
          refine ca_iald (k := 20) (i := j) (n := (elen σ j)) (f := (cV σ ev j)) F (hC.2.2.2.2.2.2.2.1 j (by omega)).2.2.2 rfl rfl ⟨by omega, by omega⟩ (v := (ev j zk1)) (if_pos (show zk1 < elen σ j by omega)) dX2_stateAtItsEnd_46 ?_
          refine g_bipush F dX2_stateAtItsEnd_47 (v := 10) (by decide) ?_
          refine g_icmp_lt F (tgt := 63) dX2_stateAtItsEnd_49 (by decide) (fun zc11 => ?_) (fun zc11 => ?_)
          ·
            refine g_iinc F (v := (nI (zk1 + 1))) (lv1 := [(4, .int (nI (zk1 + 1))), (3, .int (lgA (ev j) zk1)), (2, .int (lgT (ev j) zk1)), (0, .ref (ad 19 j)), (1, .int v)]) 0 dX2_stateAtItsEnd_63 rfl (nI_1 zk1) (by decide) rfl ?_
            refine g_goto F (tgt := 7) dX2_stateAtItsEnd_66 (by decide) ?_
            exact g_lv [0, 1, 2, 3, 4] (by rw [lgA_s, lgT_s, if_neg zc10, if_pos zc11]; rfl) zih2
          ·
            refine g_aload_n F 3 dX2_stateAtItsEnd_52 rfl rfl ?_
            refine g_getf (k := 19) (i := j) (ci := 2) (C := RX2) (T := TX2) (N := 2) (fs := [.ref (ad 20 j), .int (nI (zl j))]) (fk := 0) F hinX2 (hC.2.2.2.2.2.2.2.1 j (by omega)).2.2.1 rfl rfl (by decide) (by decide +kernel) rfl rfl dX2_stateAtItsEnd_53 ?_
            refine g_iload F 0 dX2_stateAtItsEnd_56 rfl ?_
            refine ca_iald (k := 20) (i := j) (n := (elen σ j)) (f := (cV σ ev j)) F (hC.2.2.2.2.2.2.2.1 j (by omega)).2.2.2 rfl rfl ⟨by omega, by omega⟩ (v := (ev j zk1)) (if_pos (show zk1 < elen σ j by omega)) dX2_stateAtItsEnd_58 ?_
            refine g_bipush F dX2_stateAtItsEnd_59 (v := 10) (by decide) ?_
            refine g_isub F dX2_stateAtItsEnd_61 ?_
            refine g_istore_n F (lv1 := [(2, .int ((ev j zk1) - 10)), (4, .int (nI zk1)), (3, .int (lgA (ev j) zk1)), (0, .ref (ad 19 j)), (1, .int v)]) dX2_stateAtItsEnd_62 rfl (by decide) rfl ?_
            refine g_iinc F (v := (nI (zk1 + 1))) (lv1 := [(4, .int (nI (zk1 + 1))), (2, .int ((ev j zk1) - 10)), (3, .int (lgA (ev j) zk1)), (0, .ref (ad 19 j)), (1, .int v)]) 1 dX2_stateAtItsEnd_63 rfl (nI_1 zk1) (by decide) rfl ?_
            refine g_goto F (tgt := 7) dX2_stateAtItsEnd_66 (by decide) ?_
            exact g_lv [0, 2, 1, 3, 4] (by rw [lgA_s, lgT_s, if_neg zc10, if_neg zc11]; rfl) zih2
        ·
          refine g_iinc F (v := ((lgA (ev j) zk1) + 1)) (lv1 := [(3, .int ((lgA (ev j) zk1) + 1)), (4, .int (nI zk1)), (2, .int (lgT (ev j) zk1)), (0, .ref (ad 19 j)), (1, .int v)]) 1 dX2_stateAtItsEnd_37 rfl rfl (by decide) rfl ?_
          refine g_aload_n F 3 dX2_stateAtItsEnd_40 rfl rfl ?_
          refine g_getf (k := 19) (i := j) (ci := 2) (C := RX2) (T := TX2) (N := 2) (fs := [.ref (ad 20 j), .int (nI (zl j))]) (fk := 0) F hinX2 (hC.2.2.2.2.2.2.2.1 j (by omega)).2.2.1 rfl rfl (by decide) (by decide +kernel) rfl rfl dX2_stateAtItsEnd_41 ?_
          refine g_iload F 1 dX2_stateAtItsEnd_44 rfl ?_
          refine ca_iald (k := 20) (i := j) (n := (elen σ j)) (f := (cV σ ev j)) F (hC.2.2.2.2.2.2.2.1 j (by omega)).2.2.2 rfl rfl ⟨by omega, by omega⟩ (v := (ev j zk1)) (if_pos (show zk1 < elen σ j by omega)) dX2_stateAtItsEnd_46 ?_
          refine g_bipush F dX2_stateAtItsEnd_47 (v := 10) (by decide) ?_
          refine g_icmp_lt F (tgt := 63) dX2_stateAtItsEnd_49 (by decide) (fun zc12 => ?_) (fun zc12 => ?_)
          ·
            refine g_iinc F (v := (nI (zk1 + 1))) (lv1 := [(4, .int (nI (zk1 + 1))), (3, .int ((lgA (ev j) zk1) + 1)), (2, .int (lgT (ev j) zk1)), (0, .ref (ad 19 j)), (1, .int v)]) 1 dX2_stateAtItsEnd_63 rfl (nI_1 zk1) (by decide) rfl ?_
            refine g_goto F (tgt := 7) dX2_stateAtItsEnd_66 (by decide) ?_
            exact g_lv [0, 1, 2, 3, 4] (by rw [lgA_s, lgT_s, if_pos zc10, if_pos zc12]; rfl) zih2
          ·
            refine g_aload_n F 3 dX2_stateAtItsEnd_52 rfl rfl ?_
            refine g_getf (k := 19) (i := j) (ci := 2) (C := RX2) (T := TX2) (N := 2) (fs := [.ref (ad 20 j), .int (nI (zl j))]) (fk := 0) F hinX2 (hC.2.2.2.2.2.2.2.1 j (by omega)).2.2.1 rfl rfl (by decide) (by decide +kernel) rfl rfl dX2_stateAtItsEnd_53 ?_
            refine g_iload F 1 dX2_stateAtItsEnd_56 rfl ?_
            refine ca_iald (k := 20) (i := j) (n := (elen σ j)) (f := (cV σ ev j)) F (hC.2.2.2.2.2.2.2.1 j (by omega)).2.2.2 rfl rfl ⟨by omega, by omega⟩ (v := (ev j zk1)) (if_pos (show zk1 < elen σ j by omega)) dX2_stateAtItsEnd_58 ?_
            refine g_bipush F dX2_stateAtItsEnd_59 (v := 10) (by decide) ?_
            refine g_isub F dX2_stateAtItsEnd_61 ?_
            refine g_istore_n F (lv1 := [(2, .int ((ev j zk1) - 10)), (3, .int ((lgA (ev j) zk1) + 1)), (4, .int (nI zk1)), (0, .ref (ad 19 j)), (1, .int v)]) dX2_stateAtItsEnd_62 rfl (by decide) rfl ?_
            refine g_iinc F (v := (nI (zk1 + 1))) (lv1 := [(4, .int (nI (zk1 + 1))), (2, .int ((ev j zk1) - 10)), (3, .int ((lgA (ev j) zk1) + 1)), (0, .ref (ad 19 j)), (1, .int v)]) 2 dX2_stateAtItsEnd_63 rfl (nI_1 zk1) (by decide) rfl ?_
            refine g_goto F (tgt := 7) dX2_stateAtItsEnd_66 (by decide) ?_
            exact g_lv [0, 2, 1, 3, 4] (by rw [lgA_s, lgT_s, if_pos zc10, if_neg zc12]; rfl) zih2
set_option maxHeartbeats 4000000 in
set_option maxRecDepth 100000 in
theorem cc_stateByLog (l : Launch) (D : va_G) (A : Nat → Prop) (cs : Nat → ClassId) (ad : Nat → Nat → Nat) (dm : Nat → Nat → Prop) (σ : SG) (Lx : Nat → List Nat) (cap : Nat → Nat) (mk : Nat → Int32) (ev : SG) (zl tx mt tn : Nat → Nat) (tc : SG) (w0 : CF) (n tq : Nat) (hC : CD dm n cap tq) (v : Int32) (hn40 : n ≤ 40) (hL : Lx 0 = List.range n) (hlo : LO n Lx cap) (hmt : ∀ j, j < n → mt j < tq ∧ tn (mt j) ≤ 8) (hlg : ∀ j, j < n → zl j ≤ elen σ j ∧ elen σ j ≤ 1000) (hfl : l.stackTraces = false) : vx_Met l yX5_stateByLog wsX5_stateByLog ({ frames := 7, cells := 1, slots := 6, locals := 111 }) (va_Pc [.ref (ad 10 0), .int v] (PW D A (tysG cs) ad dm (cw D ad cs σ Lx cap mk ev zl tx mt tn tc w0))) (QW D A (tysG cs) (fun rz ad1 dm1 w1 => (inR v 0 (nI n - 1)) ∧ rz = some (.int (if (lgA (ev (ix v)) (zl (ix v))) < nI (tn (mt (ix v))) then (lgT (ev (ix v)) (zl (ix v))) else 1)) ∧ ad = ad1 ∧ dm = dm1 ∧ (cw D ad cs σ Lx cap mk ev zl tx mt tn tc w0) = w1)) (XW D A (tysG cs) ad dm (cw D ad cs σ Lx cap mk ev zl tx mt tn tc w0) (fun E => E = xIO ∧ ¬ inR v 0 (nI n - 1))) 1 6 A := by
  refine q_start (own := RX5) [.ref (ad 10 0), .int v] (cc := cX5_stateByLog) (maxL := 3) (ret := (some .int)) (lv0 := [(0, .ref (ad 10 0)), (1, .int v)]) (by decide) rfl rfl (Nat.le_of_ble_eq_true rfl) rfl ?_
  intro p e s m below meth c F hr hlocks hno
  have hinX3 : ∀ w ∈ wsX30, w ∈ wsX5_stateByLog := by decide +kernel
  refine g_aload_n F 0 dX5_stateByLog_0 rfl rfl ?_
  refine g_iload_n F 1 dX5_stateByLog_1 rfl rfl ?_
  refine x_callV F (C := RX5) (k := 10) (i := 0) (ci := 5) (T := TX5) (N := 4) (rest := []) [.int v] (cc_messageAt l D A cs ad dm σ Lx cap mk ev zl tx mt tn tc w0 n tq hC v hn40 hL hlo hfl) (cwV 1 F.1.2.2.2.2 gX5_stateByLog_X5_messageAt rfl rfl rfl (by decide +kernel) ⟨Nat.le_of_ble_eq_true rfl, Nat.le_of_ble_eq_true rfl⟩) rfl hC.1 rfl rfl rfl rfl (Nat.le_of_ble_eq_true rfl) dX5_stateByLog_2 ⟨Nat.le_of_ble_eq_true rfl, Nat.le_of_ble_eq_true rfl⟩ (x_prop F hno hlocks (fun E h => h) (Nat.le_of_ble_eq_true rfl) (Nat.le_of_ble_eq_true rfl)) (fun _ _ _ _ zv1 => ?_)
  obtain ⟨hc2, rfl, rfl, rfl, rfl⟩ := zv1
  have hb2 := (ix_mg (by omega) hc2).2
  show GG p l e _ s m _ below meth c D A ad dm _ _ _ _ (cw D ad cs σ Lx cap mk ev zl tx mt tn tc w0) 5 _ [.ref (ad 17 (ix v))]
  refine g_astore_n F (lv1 := [(2, .ref (ad 17 (ix v))), (0, .ref (ad 10 0)), (1, .int v)]) dX5_stateByLog_5 rfl (by decide) rfl ?_
  refine g_aload_n F 0 dX5_stateByLog_6 rfl rfl ?_
  refine g_getf (k := 17) (i := (ix v)) (ci := 3) (C := RX3) (T := TX3) (N := 16) (fs := (cM ad σ mt (ix v))) (fk := 10) F hinX3 (hC.2.2.2.2.2.2.2.1 (ix v) (by omega)).1 rfl rfl (by decide) (by decide +kernel) rfl rfl dX5_stateByLog_7 ?_
  refine g_aload_n F 0 dX5_stateByLog_10 rfl rfl ?_
  refine g_getf (k := 17) (i := (ix v)) (ci := 3) (C := RX3) (T := TX3) (N := 16) (fs := (cM ad σ mt (ix v))) (fk := 3) F hinX3 (hC.2.2.2.2.2.2.2.1 (ix v) (by omega)).1 rfl rfl (by decide) (by decide +kernel) rfl rfl dX5_stateByLog_11 ?_
  refine g_alen (t0 := 0) (k := 21) (i := (mt (ix v))) (v := (nI (tn (mt (ix v))))) F (hC.2.2.2.2.2.2.2.2 (mt (ix v)) (hmt (ix v) (by omega)).1) rfl rfl rfl dX5_stateByLog_14 ?_
  refine q_callV F (C := RX2) (k := 19) (i := (ix v)) (ci := 2) (T := TX2) (N := 2) (rest := []) [.int (nI (tn (mt (ix v))))] (cc_stateEnd l D A cs ad dm σ Lx cap mk ev zl tx mt tn tc w0 n tq hC (nI (tn (mt (ix v)))) (ix v) (by omega) (hlg (ix v) (by omega)).1 (hlg (ix v) (by omega)).2) (cwV 1 F.1.2.2.2.2 gX5_stateByLog_X2_stateAtItsEnd rfl rfl rfl (by decide +kernel) ⟨Nat.le_of_ble_eq_true rfl, Nat.le_of_ble_eq_true rfl⟩) rfl (hC.2.2.2.2.2.2.2.1 (ix v) (by omega)).2.2.1 rfl rfl rfl rfl (Nat.le_of_ble_eq_true rfl) dX5_stateByLog_15 ⟨Nat.le_of_ble_eq_true rfl, Nat.le_of_ble_eq_true rfl⟩ (fun _ _ _ _ zv2 => ?_)
  obtain ⟨rfl, rfl, rfl, rfl⟩ := zv2
  show GG p l e _ s m _ below meth c D A ad dm _ _ _ _ (cw D ad cs σ Lx cap mk ev zl tx mt tn tc w0) 18 _ [.int (if (lgA (ev (ix v)) (zl (ix v))) < nI (tn (mt (ix v))) then (lgT (ev (ix v)) (zl (ix v))) else 1)]
  exact x_qi F hr hlocks (fun _ h => h) ⟨hc2, rfl, rfl, rfl, rfl⟩ (by decide) (by decide) dX5_stateByLog_18
def caF (σ : SG) (r : Nat) : Option Nat := if σ 28 r = 2 then some 0 else if σ 28 r = 1 then some 1 else if (σ 29 r) ≤ (σ 30 r) then some 2 else none
set_option maxHeartbeats 4000000 in
set_option maxRecDepth 100000 in
theorem cc_cause (l : Launch) (D : va_G) (A : Nat → Prop) (cs : Nat → ClassId) (ad : Nat → Nat → Nat) (dm : Nat → Nat → Prop) (σ : SG) (Lx : Nat → List Nat) (cap : Nat → Nat) (mk : Nat → Int32) (ev : SG) (zl tx mt tn : Nat → Nat) (tc : SG) (w0 : CF) (n tq : Nat) (hC : CD dm n cap tq) (r : Nat) (hr6 : r < 6) : Met l yX4_causeToFail wsX4_causeToFail ({ frames := 0, cells := 0, slots := 0, locals := 0 }) (va_Pc [.ref (ad 14 r)] (PW D A (tysG cs) ad dm (cw D ad cs σ Lx cap mk ev zl tx mt tn tc w0))) (QW D A (tysG cs) (fun rz ad1 dm1 w1 => rz = some ((va_rf ((caF σ r).map (fun i => D.2 100 (1 + i))))) ∧ ad = ad1 ∧ dm = dm1 ∧ (cw D ad cs σ Lx cap mk ev zl tx mt tn tc w0) = w1)) 0 0 A := by
  refine g_start (own := RX4) [.ref (ad 14 r)] (cc := cX4_causeToFail) (maxL := 1) (ret := (some (.object "MessageCentre$Cause"))) (lv0 := [(0, .ref (ad 14 r))]) (by decide) rfl rfl (Nat.le_of_ble_eq_true rfl) rfl ?_
  intro p e s m below meth c F hr hlocks hno
  have hinX4 : ∀ w ∈ wsX40, w ∈ wsX4_causeToFail := by decide +kernel
  refine g_aload_n F 0 dX4_causeToFail_0 rfl rfl ?_
  refine g_getf (k := 14) (i := r) (ci := 4) (C := RX4) (T := TX4) (N := 5) (fs := (cR ad σ r)) (fk := 0) F hinX4 (hC.2.2.2.2.1 r (by omega)) rfl rfl (by decide) (by decide +kernel) rfl rfl dX4_causeToFail_1 ?_
  refine g_iconst F dX4_causeToFail_4 (v := 2) (by decide) ?_
  refine g_icmp_ne F (tgt := 12) dX4_causeToFail_5 (by decide) (fun zc1 => ?_) (fun zc1 => ?_)
  ·
    refine g_aload_n F 0 dX4_causeToFail_12 rfl rfl ?_
    refine g_getf (k := 14) (i := r) (ci := 4) (C := RX4) (T := TX4) (N := 5) (fs := (cR ad σ r)) (fk := 0) F hinX4 (hC.2.2.2.2.1 r (by omega)) rfl rfl (by decide) (by decide +kernel) rfl rfl dX4_causeToFail_13 ?_
    refine g_iconst F dX4_causeToFail_16 (v := 1) (by decide) ?_
    refine g_icmp_ne F (tgt := 24) dX4_causeToFail_17 (by decide) (fun zc2 => ?_) (fun zc2 => ?_)
    ·
      refine g_aload_n F 0 dX4_causeToFail_24 rfl rfl ?_
      refine g_getf (k := 14) (i := r) (ci := 4) (C := RX4) (T := TX4) (N := 5) (fs := (cR ad σ r)) (fk := 2) F hinX4 (hC.2.2.2.2.1 r (by omega)) rfl rfl (by decide) (by decide +kernel) rfl rfl dX4_causeToFail_25 ?_
      refine g_aload_n F 0 dX4_causeToFail_28 rfl rfl ?_
      refine g_getf (k := 14) (i := r) (ci := 4) (C := RX4) (T := TX4) (N := 5) (fs := (cR ad σ r)) (fk := 1) F hinX4 (hC.2.2.2.2.1 r (by omega)) rfl rfl (by decide) (by decide +kernel) rfl rfl dX4_causeToFail_29 ?_
      refine g_icmp_ge F (tgt := 39) dX4_causeToFail_32 (by decide) (fun zc3 => ?_) (fun zc3 => ?_)
      ·
        refine g_getsC F 2 (nm := "FULL") (by decide) rfl (by decide +kernel) dX4_causeToFail_39 ?_
        exact g_qa F hr (.inl ⟨_, rfl⟩) hlocks (fun _ h => h) ⟨(congrArg some (by unfold caF; rw [if_neg zc1, if_neg zc2, if_pos zc3]; rfl)), rfl, rfl, rfl⟩ (by decide) (by decide) dX4_causeToFail_42
      ·
        refine g_null F dX4_causeToFail_35 ?_
        refine g_goto F (tgt := 42) dX4_causeToFail_36 (by decide) ?_
        exact g_qn F hr (.inl ⟨_, rfl⟩) hlocks (fun _ h => h) ⟨(congrArg some (by unfold caF; rw [if_neg zc1, if_neg zc2, if_neg zc3]; rfl)), rfl, rfl, rfl⟩ (by decide) (by decide) dX4_causeToFail_42
    ·
      refine g_getsC F 1 (nm := "ABSENT") (by decide) rfl (by decide +kernel) dX4_causeToFail_20 ?_
      exact g_qa F hr (.inl ⟨_, rfl⟩) hlocks (fun _ h => h) ⟨(congrArg some (by unfold caF; rw [if_neg zc1, if_pos zc2]; rfl)), rfl, rfl, rfl⟩ (by decide) (by decide) dX4_causeToFail_23
  ·
    refine g_getsC F 0 (nm := "BUSY") (by decide) rfl (by decide +kernel) dX4_causeToFail_8 ?_
    exact g_qa F hr (.inl ⟨_, rfl⟩) hlocks (fun _ h => h) ⟨(congrArg some (by unfold caF; rw [if_pos zc1]; rfl)), rfl, rfl, rfl⟩ (by decide) (by decide) dX4_causeToFail_11
def duT (t : Int32) (σ : SG) (j : Nat) : SG := up2 σ 26 j (if t < (σ 26 j) then t else (σ 26 j))
def duL (σ : SG) (t : Int32) (xs : List Nat) : SG := xs.foldl (duT t) σ
theorem take_s {xs : List Nat} {k : Nat} (h : k < xs.length) : xs.take (k + 1) = xs.take k ++ [xs.getD k 0] := by
  rw [List.take_succ, List.getD_eq_getElem?_getD, List.getElem?_eq_getElem h]
  rfl
theorem duL_s (σ : SG) (t : Int32) {xs : List Nat} {k : Nat} (h : k < xs.length) : duL σ t (xs.take (k + 1)) = up2 (duL σ t (xs.take k)) 26 (xs.getD k 0) (if t < (duL σ t (xs.take k)) 26 (xs.getD k 0) then t else (duL σ t (xs.take k)) 26 (xs.getD k 0)) := by
  unfold duL
  rw [take_s h, List.foldl_append]
  rfl
theorem duL_ne (σ : SG) (t : Int32) {f : Nat} (hf : f ≠ 26) (i : Nat) : ∀ xs : List Nat, duL σ t xs f i = σ f i := by
  intro xs
  induction xs generalizing σ with
  | nil => rfl
  | cons x xs ih =>
    show duL (duT t σ x) t xs f i = _
    rw [ih]
    exact up2_ne _ _ (fun h => hf h.1)
def wkL (σ : SG) (r : Nat) (mk t : Int32) (xs : List Nat) : SG := if ((σ 31 r) &&& mk) = 0 then σ else duL (up2 σ 31 r ((σ 31 r) &&& (mk ^^^ (-1)))) t xs
theorem wkL_ne (σ : SG) (r : Nat) (mk t : Int32) (xs : List Nat) {f : Nat} (h1 : f ≠ 26) (h2 : f ≠ 31) (i : Nat) : wkL σ r mk t xs f i = σ f i := by
  unfold wkL
  split
  · rfl
  · rw [duL_ne _ _ h1, up2_ne _ _ (fun h => h2 h.1)]
def lkL (σ : SG) (r : Nat) (xs : List Nat) : SG := if (σ 29 r) ≤ (σ 30 r) then σ else wkL σ r 2 (σ 0 0) xs
theorem lkL_ne (σ : SG) (r : Nat) (xs : List Nat) {f : Nat} (h1 : f ≠ 26) (h2 : f ≠ 31) (i : Nat) : lkL σ r xs f i = σ f i := by
  unfold lkL
  split
  · rfl
  · exact wkL_ne _ _ _ _ _ h1 h2 i
set_option maxHeartbeats 4000000 in
set_option maxRecDepth 100000 in
theorem cc_wake (l : Launch) (D : va_G) (A : Nat → Prop) (cs : Nat → ClassId) (ad : Nat → Nat → Nat) (dm : Nat → Nat → Prop) (σ : SG) (Lx : Nat → List Nat) (cap : Nat → Nat) (mk : Nat → Int32) (ev : SG) (zl tx mt tn : Nat → Nat) (tc : SG) (w0 : CF) (n tq : Nat) (hC : CD dm n cap tq) (r : Nat) (wm t : Int32) (hr6 : r < 6) (hlo : LO n Lx cap) : Met l yX4_wakeFrom wsX4_wakeFrom ({ frames := 3, cells := 0, slots := 0, locals := 64 }) (va_Pc [.ref (ad 14 r), .int wm, .int t] (PW D A (tysG cs) ad dm (cw D ad cs σ Lx cap mk ev zl tx mt tn tc w0))) (QW D A (tysG cs) (fun rz ad1 dm1 w1 => rz = none ∧ ad = ad1 ∧ dm = dm1 ∧ (cw D ad cs (wkL σ r wm t (Lx (5 + r))) Lx cap mk ev zl tx mt tn tc w0) = w1)) 0 0 A := by
  refine g_start (own := RX4) [.ref (ad 14 r), .int wm, .int t] (cc := cX4_wakeFrom) (maxL := 5) (ret := none) (lv0 := [(0, .ref (ad 14 r)), (1, .int wm), (2, .int t)]) (by decide) rfl rfl (Nat.le_of_ble_eq_true rfl) rfl ?_
  intro p e s m below meth c F hr hlocks hno
  have hq60 : (Lx (5 + r)).length ≤ 60 := Nat.le_trans (hlo (5 + r) (by omega)).1 (hlo (5 + r) (by omega)).2.1
  have hinX3 : ∀ w ∈ wsX30, w ∈ wsX4_wakeFrom := by decide +kernel
  have hinX4 : ∀ w ∈ wsX40, w ∈ wsX4_wakeFrom := by decide +kernel
  refine g_aload_n F 0 dX4_wakeFrom_0 rfl rfl ?_
  refine g_getf (k := 14) (i := r) (ci := 4) (C := RX4) (T := TX4) (N := 5) (fs := (cR ad σ r)) (fk := 3) F hinX4 (hC.2.2.2.2.1 r (by omega)) rfl rfl (by decide) (by decide +kernel) rfl rfl dX4_wakeFrom_1 ?_
  refine g_iload_n F 1 dX4_wakeFrom_4 rfl rfl ?_
  refine g_iand F dX4_wakeFrom_5 ?_
  refine g_if_ne F (tgt := 10) dX4_wakeFrom_6 (by decide) (fun zc1 => ?_) (fun zc1 => ?_)
  ·
    refine g_aload_n F 0 dX4_wakeFrom_10 rfl rfl ?_
    refine g_dup F dX4_wakeFrom_11 rfl ?_
    refine g_getf (k := 14) (i := r) (ci := 4) (C := RX4) (T := TX4) (N := 5) (fs := (cR ad σ r)) (fk := 3) F hinX4 (hC.2.2.2.2.1 r (by omega)) rfl rfl (by decide) (by decide +kernel) rfl rfl dX4_wakeFrom_12 ?_
    refine g_iload_n F 1 dX4_wakeFrom_15 rfl rfl ?_
    refine g_iconst F dX4_wakeFrom_16 (v := -1) (by decide) ?_
    refine g_ixor F dX4_wakeFrom_17 ?_
    refine g_iand F dX4_wakeFrom_18 ?_
    refine g_putf (k := 14) (i := r) (ci := 4) (C := RX4) (T := TX4) (N := 5) (fs := (cR ad σ r)) (fk := 3) (v := .int ((σ 31 r) &&& (wm ^^^ (-1)))) (ty := .int) (tf := tyX4) F hinX4 tyX4_ok nmX4 (hC.2.2.2.2.1 r (by omega)) rfl rfl (by decide) (by decide +kernel) rfl rfl (by decide +kernel) rfl rfl (show 3 < 5 by decide) dX4_wakeFrom_19 ?_
    refine g_w (w1 := (cw D ad cs (up2 σ 31 r ((σ 31 r) &&& (wm ^^^ (-1)))) Lx cap mk ev zl tx mt tn tc w0)) (cp_31 r ((σ 31 r) &&& (wm ^^^ (-1)))).symm ?_
    refine g_iconst F dX4_wakeFrom_22 (v := 0) (by decide) ?_
    refine g_istore_n F (lv1 := [(3, .int 0), (0, .ref (ad 14 r)), (1, .int wm), (2, .int t)]) dX4_wakeFrom_23 rfl (by decide) rfl ?_
    refine g_loop ((Lx (5 + r)).length) 0 (by omega) (fun zk2 => (cw D ad cs (duL (up2 σ 31 r ((σ 31 r) &&& (wm ^^^ (-1)))) t ((Lx (5 + r)).take zk2)) Lx cap mk ev zl tx mt tn tc w0)) (fun zk2 => [(3, .int (nI zk2)), (0, .ref (ad 14 r)), (1, .int wm), (2, .int t)]) (by rfl) rfl ?_ (fun zk2 zhk4 zhk5 zih3 => ?_)
    ·
      show GG p l e _ s m _ below meth c D A ad dm _ _ _ _ (cw D ad cs (duL (up2 σ 31 r ((σ 31 r) &&& (wm ^^^ (-1)))) t ((Lx (5 + r)).take ((Lx (5 + r)).length))) Lx cap mk ev zl tx mt tn tc w0) 24 [(3, .int (nI ((Lx (5 + r)).length))), (0, .ref (ad 14 r)), (1, .int wm), (2, .int t)] []
      refine g_iload_n F 0 dX4_wakeFrom_24 rfl rfl ?_
      refine g_aload_n F 1 dX4_wakeFrom_25 rfl rfl ?_
      refine g_getf (k := 14) (i := r) (ci := 4) (C := RX4) (T := TX4) (N := 5) (fs := (cR ad (duL (up2 σ 31 r ((σ 31 r) &&& (wm ^^^ (-1)))) t ((Lx (5 + r)).take ((Lx (5 + r)).length))) r)) (fk := 4) F hinX4 (hC.2.2.2.2.1 r (by omega)) rfl rfl (by decide) (by decide +kernel) rfl rfl dX4_wakeFrom_26 ?_
      refine q_callV F (C := RJx4a65c) (k := 15) (i := (5 + r)) (ci := 0) (T := TJx4a65c) (N := 3) (rest := [.int (nI ((Lx (5 + r)).length))]) [] (cl_size l D A cs ad dm (duL (up2 σ 31 r ((σ 31 r) &&& (wm ^^^ (-1)))) t ((Lx (5 + r)).take ((Lx (5 + r)).length))) Lx cap mk ev zl tx mt tn tc w0 n tq hC (5 + r) (by omega)) (cwV 0 F.1.2.2.2.2 gX4_wakeFrom_Jx4a65c_size_8abf5 rfl rfl rfl (by decide +kernel) ⟨Nat.le_of_ble_eq_true rfl, Nat.le_of_ble_eq_true rfl⟩) rfl (hC.2.2.2.2.2.1 (5 + r) (by omega)) rfl rfl rfl rfl (Nat.le_of_ble_eq_true rfl) dX4_wakeFrom_29 ⟨Nat.le_of_ble_eq_true rfl, Nat.le_of_ble_eq_true rfl⟩ (fun _ _ _ _ zv6 => ?_)
      obtain ⟨rfl, rfl, rfl, rfl⟩ := zv6
      show GG p l e _ s m _ below meth c D A ad dm _ _ _ _ (cw D ad cs (duL (up2 σ 31 r ((σ 31 r) &&& (wm ^^^ (-1)))) t ((Lx (5 + r)).take ((Lx (5 + r)).length))) Lx cap mk ev zl tx mt tn tc w0) 32 _ [.int (nI ((Lx (5 + r)).length)), .int (nI ((Lx (5 + r)).length))]
      refine g_icmp_ge F (tgt := 68) dX4_wakeFrom_32 (by decide) (fun zc7 => ?_) (fun zc7 => ?_)
      ·
        exact g_qv F hr hlocks (fun _ h => h) ⟨rfl, rfl, rfl, (by unfold wkL; rw [if_neg zc1]; rw [List.take_length])⟩ (by decide) (by decide) dX4_wakeFrom_68
      ·
        exact absurd ((nI_leE (show (nI ((Lx (5 + r)).length)) = nI ((Lx (5 + r)).length) from rfl) (show (nI ((Lx (5 + r)).length)) = nI ((Lx (5 + r)).length) from rfl) (show (Lx (5 + r)).length < 2 ^ 31 by omega) (show (Lx (5 + r)).length < 2 ^ 31 by omega)).mpr (by omega)) zc7
    ·
      replace zih3 : GG p l e _ s m _ below meth c D A ad dm _ _ _ _ (cw D ad cs (duL (up2 σ 31 r ((σ 31 r) &&& (wm ^^^ (-1)))) t ((Lx (5 + r)).take (zk2 + 1))) Lx cap mk ev zl tx mt tn tc w0) 24 [(3, .int (nI (zk2 + 1))), (0, .ref (ad 14 r)), (1, .int wm), (2, .int t)] [] := zih3
      show GG p l e _ s m _ below meth c D A ad dm _ _ _ _ (cw D ad cs (duL (up2 σ 31 r ((σ 31 r) &&& (wm ^^^ (-1)))) t ((Lx (5 + r)).take zk2)) Lx cap mk ev zl tx mt tn tc w0) 24 [(3, .int (nI zk2)), (0, .ref (ad 14 r)), (1, .int wm), (2, .int t)] []
      refine g_iload_n F 0 dX4_wakeFrom_24 rfl rfl ?_
      refine g_aload_n F 1 dX4_wakeFrom_25 rfl rfl ?_
      refine g_getf (k := 14) (i := r) (ci := 4) (C := RX4) (T := TX4) (N := 5) (fs := (cR ad (duL (up2 σ 31 r ((σ 31 r) &&& (wm ^^^ (-1)))) t ((Lx (5 + r)).take zk2)) r)) (fk := 4) F hinX4 (hC.2.2.2.2.1 r (by omega)) rfl rfl (by decide) (by decide +kernel) rfl rfl dX4_wakeFrom_26 ?_
      refine q_callV F (C := RJx4a65c) (k := 15) (i := (5 + r)) (ci := 0) (T := TJx4a65c) (N := 3) (rest := [.int (nI zk2)]) [] (cl_size l D A cs ad dm (duL (up2 σ 31 r ((σ 31 r) &&& (wm ^^^ (-1)))) t ((Lx (5 + r)).take zk2)) Lx cap mk ev zl tx mt tn tc w0 n tq hC (5 + r) (by omega)) (cwV 0 F.1.2.2.2.2 gX4_wakeFrom_Jx4a65c_size_8abf5 rfl rfl rfl (by decide +kernel) ⟨Nat.le_of_ble_eq_true rfl, Nat.le_of_ble_eq_true rfl⟩) rfl (hC.2.2.2.2.2.1 (5 + r) (by omega)) rfl rfl rfl rfl (Nat.le_of_ble_eq_true rfl) dX4_wakeFrom_29 ⟨Nat.le_of_ble_eq_true rfl, Nat.le_of_ble_eq_true rfl⟩ (fun _ _ _ _ zv8 => ?_)
      obtain ⟨rfl, rfl, rfl, rfl⟩ := zv8
      show GG p l e _ s m _ below meth c D A ad dm _ _ _ _ (cw D ad cs (duL (up2 σ 31 r ((σ 31 r) &&& (wm ^^^ (-1)))) t ((Lx (5 + r)).take zk2)) Lx cap mk ev zl tx mt tn tc w0) 32 _ [.int (nI ((Lx (5 + r)).length)), .int (nI zk2)]
      refine g_icmp_ge F (tgt := 68) dX4_wakeFrom_32 (by decide) (fun zc9 => ?_) (fun zc9 => ?_)
      ·
        exact absurd ((nI_leE (show (nI ((Lx (5 + r)).length)) = nI ((Lx (5 + r)).length) from rfl) (show (nI zk2) = nI zk2 from rfl) (show (Lx (5 + r)).length < 2 ^ 31 by omega) (show zk2 < 2 ^ 31 by omega)).mp zc9) (by omega)
      ·
        refine g_aload_n F 1 dX4_wakeFrom_35 rfl rfl ?_
        refine g_getf (k := 14) (i := r) (ci := 4) (C := RX4) (T := TX4) (N := 5) (fs := (cR ad (duL (up2 σ 31 r ((σ 31 r) &&& (wm ^^^ (-1)))) t ((Lx (5 + r)).take zk2)) r)) (fk := 4) F hinX4 (hC.2.2.2.2.1 r (by omega)) rfl rfl (by decide) (by decide +kernel) rfl rfl dX4_wakeFrom_36 ?_
        refine g_iload_n F 0 dX4_wakeFrom_39 rfl rfl ?_
        refine q_callV F (C := RJx4a65c) (k := 15) (i := (5 + r)) (ci := 0) (T := TJx4a65c) (N := 3) (rest := []) [.int (nI zk2)] (cl_getL l D A cs ad dm (duL (up2 σ 31 r ((σ 31 r) &&& (wm ^^^ (-1)))) t ((Lx (5 + r)).take zk2)) Lx cap mk ev zl tx mt tn tc w0 n tq hC (5 + r) zk2 hlo (by omega) (by omega)) (cwV 1 F.1.2.2.2.2 gX4_wakeFrom_Jx4a65c_get_915e3 rfl rfl rfl (by decide +kernel) ⟨Nat.le_of_ble_eq_true rfl, Nat.le_of_ble_eq_true rfl⟩) rfl (hC.2.2.2.2.2.1 (5 + r) (by omega)) rfl rfl rfl rfl (Nat.le_of_ble_eq_true rfl) dX4_wakeFrom_40 ⟨Nat.le_of_ble_eq_true rfl, Nat.le_of_ble_eq_true rfl⟩ (fun _ _ _ _ zv10 => ?_)
        obtain ⟨rfl, rfl, rfl, rfl⟩ := zv10
        have hg40 := hlo.get (i := (5 + r)) (a := zk2) (by omega) (by omega)
        show GG p l e _ s m _ below meth c D A ad dm _ _ _ _ (cw D ad cs (duL (up2 σ 31 r ((σ 31 r) &&& (wm ^^^ (-1)))) t ((Lx (5 + r)).take zk2)) Lx cap mk ev zl tx mt tn tc w0) 43 _ [.ref (ad 17 ((Lx (5 + r)).getD zk2 0))]
        refine ca_castM (i := ((Lx (5 + r)).getD zk2 0)) F hC (by omega) (by decide +kernel) dX4_wakeFrom_43 ?_
        refine g_astore F (lv1 := [(4, .ref (ad 17 ((Lx (5 + r)).getD zk2 0))), (3, .int (nI zk2)), (0, .ref (ad 14 r)), (1, .int wm), (2, .int t)]) dX4_wakeFrom_46 (by decide) rfl ?_
        refine g_aload F 0 dX4_wakeFrom_48 rfl ?_
        refine g_aload F 0 dX4_wakeFrom_50 rfl ?_
        refine g_getf (k := 17) (i := ((Lx (5 + r)).getD zk2 0)) (ci := 3) (C := RX3) (T := TX3) (N := 16) (fs := (cM ad (duL (up2 σ 31 r ((σ 31 r) &&& (wm ^^^ (-1)))) t ((Lx (5 + r)).take zk2)) mt ((Lx (5 + r)).getD zk2 0))) (fk := 13) F hinX3 (hC.2.2.2.2.2.2.2.1 ((Lx (5 + r)).getD zk2 0) (by omega)).1 rfl rfl (by decide) (by decide +kernel) rfl rfl dX4_wakeFrom_52 ?_
        refine g_iload_n F 4 dX4_wakeFrom_55 rfl rfl ?_
        refine g_mmin F (by decide +kernel) (by decide +kernel) (by decide +kernel) (by decide +kernel) (Nat.le_of_ble_eq_true rfl) (Nat.le_of_ble_eq_true rfl) (Nat.le_of_ble_eq_true rfl) (Nat.le_of_ble_eq_true rfl) dX4_wakeFrom_56 ?_
        refine g_putf (k := 17) (i := ((Lx (5 + r)).getD zk2 0)) (ci := 3) (C := RX3) (T := TX3) (N := 16) (fs := (cM ad (duL (up2 σ 31 r ((σ 31 r) &&& (wm ^^^ (-1)))) t ((Lx (5 + r)).take zk2)) mt ((Lx (5 + r)).getD zk2 0))) (fk := 13) (v := .int (if t < ((duL (up2 σ 31 r ((σ 31 r) &&& (wm ^^^ (-1)))) t ((Lx (5 + r)).take zk2)) 26 ((Lx (5 + r)).getD zk2 0)) then t else ((duL (up2 σ 31 r ((σ 31 r) &&& (wm ^^^ (-1)))) t ((Lx (5 + r)).take zk2)) 26 ((Lx (5 + r)).getD zk2 0)))) (ty := .int) (tf := tyX3) F hinX3 tyX3_ok nmX3 (hC.2.2.2.2.2.2.2.1 ((Lx (5 + r)).getD zk2 0) (by omega)).1 rfl rfl (by decide) (by decide +kernel) rfl rfl (by decide +kernel) rfl rfl (show 13 < 16 by decide) dX4_wakeFrom_59 ?_
        refine g_w (w1 := (cw D ad cs (up2 (duL (up2 σ 31 r ((σ 31 r) &&& (wm ^^^ (-1)))) t ((Lx (5 + r)).take zk2)) 26 ((Lx (5 + r)).getD zk2 0) (if t < ((duL (up2 σ 31 r ((σ 31 r) &&& (wm ^^^ (-1)))) t ((Lx (5 + r)).take zk2)) 26 ((Lx (5 + r)).getD zk2 0)) then t else ((duL (up2 σ 31 r ((σ 31 r) &&& (wm ^^^ (-1)))) t ((Lx (5 + r)).take zk2)) 26 ((Lx (5 + r)).getD zk2 0)))) Lx cap mk ev zl tx mt tn tc w0)) (cp_26 ((Lx (5 + r)).getD zk2 0) (if t < ((duL (up2 σ 31 r ((σ 31 r) &&& (wm ^^^ (-1)))) t ((Lx (5 + r)).take zk2)) 26 ((Lx (5 + r)).getD zk2 0)) then t else ((duL (up2 σ 31 r ((σ 31 r) &&& (wm ^^^ (-1)))) t ((Lx (5 + r)).take zk2)) 26 ((Lx (5 + r)).getD zk2 0)))).symm ?_
        refine g_iinc F (v := (nI (zk2 + 1))) (lv1 := [(3, .int (nI (zk2 + 1))), (4, .ref (ad 17 ((Lx (5 + r)).getD zk2 0))), (0, .ref (ad 14 r)), (1, .int wm), (2, .int t)]) 1 dX4_wakeFrom_62 rfl (nI_1 zk2) (by decide) rfl ?_
        refine g_goto F (tgt := 24) dX4_wakeFrom_65 (by decide) ?_
        exact g_lv [0, 2, 3, 4] rfl (g_w (w1 := (cw D ad cs (duL (up2 σ 31 r ((σ 31 r) &&& (wm ^^^ (-1)))) t ((Lx (5 + r)).take (zk2 + 1))) Lx cap mk ev zl tx mt tn tc w0)) (by rw [duL_s _ _ zhk5]) zih3)
  ·
    exact g_qv F hr hlocks (fun _ h => h) ⟨rfl, rfl, rfl, (by unfold wkL; rw [if_pos zc1])⟩ (by decide) (by decide) dX4_wakeFrom_9
set_option maxHeartbeats 4000000 in
set_option maxRecDepth 100000 in
theorem cc_look (l : Launch) (D : va_G) (A : Nat → Prop) (cs : Nat → ClassId) (ad : Nat → Nat → Nat) (dm : Nat → Nat → Prop) (σ : SG) (Lx : Nat → List Nat) (cap : Nat → Nat) (mk : Nat → Int32) (ev : SG) (zl tx mt tn : Nat → Nat) (tc : SG) (w0 : CF) (n tq : Nat) (hC : CD dm n cap tq) (r : Nat) (hr6 : r < 6) (hlo : LO n Lx cap) : Met l yX5_wakeIfRoomAgain wsX5_wakeIfRoomAgain ({ frames := 4, cells := 0, slots := 0, locals := 88 }) (va_Pc [.ref (ad 10 0), .ref (ad 14 r)] (PW D A (tysG cs) ad dm (cw D ad cs σ Lx cap mk ev zl tx mt tn tc w0))) (QW D A (tysG cs) (fun rz ad1 dm1 w1 => rz = none ∧ ad = ad1 ∧ dm = dm1 ∧ (cw D ad cs (lkL σ r (Lx (5 + r))) Lx cap mk ev zl tx mt tn tc w0) = w1)) 0 0 A := by
  refine g_start (own := RX5) [.ref (ad 10 0), .ref (ad 14 r)] (cc := cX5_wakeIfRoomAgain) (maxL := 2) (ret := none) (lv0 := [(0, .ref (ad 10 0)), (1, .ref (ad 14 r))]) (by decide) rfl rfl (Nat.le_of_ble_eq_true rfl) rfl ?_
  intro p e s m below meth c F hr hlocks hno
  have hinX4 : ∀ w ∈ wsX40, w ∈ wsX5_wakeIfRoomAgain := by decide +kernel
  have hinX5 : ∀ w ∈ wsX50, w ∈ wsX5_wakeIfRoomAgain := by decide +kernel
  refine g_aload_n F 1 dX5_wakeIfRoomAgain_0 rfl rfl ?_
  refine g_getf (k := 14) (i := r) (ci := 4) (C := RX4) (T := TX4) (N := 5) (fs := (cR ad σ r)) (fk := 2) F hinX4 (hC.2.2.2.2.1 r (by omega)) rfl rfl (by decide) (by decide +kernel) rfl rfl dX5_wakeIfRoomAgain_1 ?_
  refine g_aload_n F 1 dX5_wakeIfRoomAgain_4 rfl rfl ?_
  refine g_getf (k := 14) (i := r) (ci := 4) (C := RX4) (T := TX4) (N := 5) (fs := (cR ad σ r)) (fk := 1) F hinX4 (hC.2.2.2.2.1 r (by omega)) rfl rfl (by decide) (by decide +kernel) rfl rfl dX5_wakeIfRoomAgain_5 ?_
  refine g_icmp_ge F (tgt := 20) dX5_wakeIfRoomAgain_8 (by decide) (fun zc1 => ?_) (fun zc1 => ?_)
  ·
    exact g_qv F hr hlocks (fun _ h => h) ⟨rfl, rfl, rfl, (by unfold lkL; rw [if_pos zc1])⟩ (by decide) (by decide) dX5_wakeIfRoomAgain_20
  ·
    refine g_aload_n F 1 dX5_wakeIfRoomAgain_11 rfl rfl ?_
    refine g_iconst F dX5_wakeIfRoomAgain_12 (v := 2) (by decide) ?_
    refine g_aload_n F 0 dX5_wakeIfRoomAgain_13 rfl rfl ?_
    refine g_getf (k := 10) (i := 0) (ci := 5) (C := RX5) (T := TX5) (N := 4) (fs := (cO ad σ)) (fk := 3) F hinX5 hC.1 rfl rfl (by decide) (by decide +kernel) rfl rfl dX5_wakeIfRoomAgain_14 ?_
    refine q_callV F (C := RX4) (k := 14) (i := r) (ci := 4) (T := TX4) (N := 5) (rest := []) [.int 2, .int (σ 0 0)] (cc_wake l D A cs ad dm σ Lx cap mk ev zl tx mt tn tc w0 n tq hC r 2 (σ 0 0) (by omega) hlo) (cwV 2 F.1.2.2.2.2 gX5_wakeIfRoomAgain_X4_wakeFrom rfl rfl rfl (by decide +kernel) ⟨Nat.le_of_ble_eq_true rfl, Nat.le_of_ble_eq_true rfl⟩) rfl (hC.2.2.2.2.1 r (by omega)) rfl rfl rfl rfl (Nat.le_of_ble_eq_true rfl) dX5_wakeIfRoomAgain_17 ⟨Nat.le_of_ble_eq_true rfl, Nat.le_of_ble_eq_true rfl⟩ (fun _ _ _ _ zv2 => ?_)
    obtain ⟨rfl, rfl, rfl, rfl⟩ := zv2
    show GG p l e _ s m _ below meth c D A ad dm _ _ _ _ (cw D ad cs (wkL σ r 2 (σ 0 0) (Lx (5 + r))) Lx cap mk ev zl tx mt tn tc w0) 20 _ []
    exact g_qv F hr hlocks (fun _ h => h) ⟨rfl, rfl, rfl, (by unfold lkL; rw [if_neg zc1])⟩ (by decide) (by decide) dX5_wakeIfRoomAgain_20
set_option maxHeartbeats 4000000 in
set_option maxRecDepth 100000 in
theorem cc_setMode (l : Launch) (D : va_G) (A : Nat → Prop) (cs : Nat → ClassId) (ad : Nat → Nat → Nat) (dm : Nat → Nat → Prop) (σ : SG) (Lx : Nat → List Nat) (cap : Nat → Nat) (mk : Nat → Int32) (ev : SG) (zl tx mt tn : Nat → Nat) (tc : SG) (w0 : CF) (n tq : Nat) (hC : CD dm n cap tq) (v u : Int32) (hlo : LO n Lx cap) (hfl : l.stackTraces = false) : vx_Met l yX5_setMode wsX5_setMode ({ frames := 7, cells := 2, slots := 12, locals := 112 }) (va_Pc [.ref (ad 10 0), .int v, .int u] (PW D A (tysG cs) ad dm (cw D ad cs σ Lx cap mk ev zl tx mt tn tc w0))) (QW D A (tysG cs) (fun rz ad1 dm1 w1 => (recP v ∧ inR u 0 3) ∧ rz = some (.int (σ 28 (ix v))) ∧ ad = ad1 ∧ dm = dm1 ∧ (cw D ad cs (if u = 0 then wkL (up2 σ 28 (ix v) u) (ix v) 1 (σ 0 0) (Lx (5 + (ix v))) else (up2 σ 28 (ix v) u)) Lx cap mk ev zl tx mt tn tc w0) = w1)) (XW D A (tysG cs) ad dm (cw D ad cs σ Lx cap mk ev zl tx mt tn tc w0) (fun E => (E = xIO ∧ ¬ recP v) ∨ (E = xIA ∧ recP v ∧ ¬ (inR u 0 3)))) 2 12 A := by
  refine q_start (own := RX5) [.ref (ad 10 0), .int v, .int u] (cc := cX5_setMode) (maxL := 5) (ret := (some .int)) (lv0 := [(0, .ref (ad 10 0)), (1, .int v), (2, .int u)]) (by decide) rfl rfl (Nat.le_of_ble_eq_true rfl) rfl ?_
  intro p e s m below meth c F hr hlocks hno
  have hinX4 : ∀ w ∈ wsX40, w ∈ wsX5_setMode := by decide +kernel
  have hinX5 : ∀ w ∈ wsX50, w ∈ wsX5_setMode := by decide +kernel
  refine g_aload_n F 0 dX5_setMode_0 rfl rfl ?_
  refine g_iload_n F 1 dX5_setMode_1 rfl rfl ?_
  refine x_callV F (C := RX5) (k := 10) (i := 0) (ci := 5) (T := TX5) (N := 4) (rest := []) [.int v] (cc_recipientAt l D A cs ad dm σ Lx cap mk ev zl tx mt tn tc w0 n tq hC v hfl) (cwV 1 F.1.2.2.2.2 gX5_setMode_X5_recipientAt rfl rfl rfl (by decide +kernel) ⟨Nat.le_of_ble_eq_true rfl, Nat.le_of_ble_eq_true rfl⟩) rfl hC.1 rfl rfl rfl rfl (Nat.le_of_ble_eq_true rfl) dX5_setMode_2 ⟨Nat.le_of_ble_eq_true rfl, Nat.le_of_ble_eq_true rfl⟩ (x_prop F hno hlocks (fun _ h => .inl h) (Nat.le_of_ble_eq_true rfl) (Nat.le_of_ble_eq_true rfl)) (fun _ _ _ _ zv1 => ?_)
  obtain ⟨hc2, rfl, rfl, rfl, rfl⟩ := zv1
  have hb2 := (ix_rec hc2).2
  show GG p l e _ s m _ below meth c D A ad dm _ _ _ _ (cw D ad cs σ Lx cap mk ev zl tx mt tn tc w0) 5 _ [.ref (ad 14 (ix v))]
  refine g_astore_n F (lv1 := [(3, .ref (ad 14 (ix v))), (0, .ref (ad 10 0)), (1, .int v), (2, .int u)]) dX5_setMode_5 rfl (by decide) rfl ?_
  refine g_iload_n F 3 dX5_setMode_6 rfl rfl ?_
  refine g_iconst F dX5_setMode_7 (v := 0) (by decide) ?_
  refine g_iconst F dX5_setMode_8 (v := 3) (by decide) ?_
  refine x_callS F (rest := []) [.int u, .int 0, .int 3] (cc_require l D A cs ad dm σ Lx cap mk ev zl tx mt tn tc w0 n tq hC u 0 3 hfl) (va_cwS 3 F.1.2.2.2.2 gX5_setMode_X5_requireInRange rfl rfl rfl (by decide +kernel) ⟨Nat.le_of_ble_eq_true rfl, Nat.le_of_ble_eq_true rfl⟩) rfl rfl (Nat.le_of_ble_eq_true rfl) dX5_setMode_9 ⟨Nat.le_of_ble_eq_true rfl, Nat.le_of_ble_eq_true rfl⟩ (x_prop F hno hlocks (fun _ h => .inr ⟨h.1, hc2, h.2⟩) (Nat.le_of_ble_eq_true rfl) (Nat.le_of_ble_eq_true rfl)) (fun _ _ _ _ zv2 => ?_)
  obtain ⟨hc9, rfl, rfl, rfl, rfl⟩ := zv2
  show GG p l e _ s m _ below meth c D A ad dm _ _ _ _ (cw D ad cs σ Lx cap mk ev zl tx mt tn tc w0) 12 _ []
  refine g_aload_n F 0 dX5_setMode_12 rfl rfl ?_
  refine g_getf (k := 14) (i := (ix v)) (ci := 4) (C := RX4) (T := TX4) (N := 5) (fs := (cR ad σ (ix v))) (fk := 0) F hinX4 (hC.2.2.2.2.1 (ix v) (by omega)) rfl rfl (by decide) (by decide +kernel) rfl rfl dX5_setMode_13 ?_
  refine g_istore F (lv1 := [(4, .int (σ 28 (ix v))), (3, .ref (ad 14 (ix v))), (0, .ref (ad 10 0)), (1, .int v), (2, .int u)]) dX5_setMode_16 (by decide) rfl ?_
  refine g_aload_n F 1 dX5_setMode_18 rfl rfl ?_
  refine g_iload_n F 4 dX5_setMode_19 rfl rfl ?_
  refine g_putf (k := 14) (i := (ix v)) (ci := 4) (C := RX4) (T := TX4) (N := 5) (fs := (cR ad σ (ix v))) (fk := 0) (v := .int u) (ty := .int) (tf := tyX4) F hinX4 tyX4_ok nmX4 (hC.2.2.2.2.1 (ix v) (by omega)) rfl rfl (by decide) (by decide +kernel) rfl rfl (by decide +kernel) rfl rfl (show 0 < 5 by decide) dX5_setMode_20 ?_
  refine g_w (w1 := (cw D ad cs (up2 σ 28 (ix v) u) Lx cap mk ev zl tx mt tn tc w0)) (cp_28 (ix v) u).symm ?_
  refine g_iload_n F 4 dX5_setMode_23 rfl rfl ?_
  refine g_if_ne F (tgt := 36) dX5_setMode_24 (by decide) (fun zc3 => ?_) (fun zc3 => ?_)
  ·
    refine g_iload F 0 dX5_setMode_36 rfl ?_
    exact x_qi F hr hlocks (fun _ h => h) ⟨⟨hc2, hc9⟩, rfl, rfl, rfl, (by rw [if_neg zc3])⟩ (by decide) (by decide) dX5_setMode_38
  ·
    refine g_aload_n F 1 dX5_setMode_27 rfl rfl ?_
    refine g_iconst F dX5_setMode_28 (v := 1) (by decide) ?_
    refine g_aload_n F 2 dX5_setMode_29 rfl rfl ?_
    refine g_getf (k := 10) (i := 0) (ci := 5) (C := RX5) (T := TX5) (N := 4) (fs := (cO ad (up2 σ 28 (ix v) u))) (fk := 3) F hinX5 hC.1 rfl rfl (by decide) (by decide +kernel) rfl (congrArg (fun z : Int32 => some (Value.int z)) (show (up2 σ 28 (ix v) u) 0 0 = (σ 0 0) from ((up2_ne _ _ (fun h => absurd h.1 (by decide))).trans rfl))) dX5_setMode_30 ?_
    refine q_callV F (C := RX4) (k := 14) (i := (ix v)) (ci := 4) (T := TX4) (N := 5) (rest := []) [.int 1, .int (σ 0 0)] (cc_wake l D A cs ad dm (up2 σ 28 (ix v) u) Lx cap mk ev zl tx mt tn tc w0 n tq hC (ix v) 1 (σ 0 0) (by omega) hlo) (cwV 2 F.1.2.2.2.2 gX5_setMode_X4_wakeFrom rfl rfl rfl (by decide +kernel) ⟨Nat.le_of_ble_eq_true rfl, Nat.le_of_ble_eq_true rfl⟩) rfl (hC.2.2.2.2.1 (ix v) (by omega)) rfl rfl rfl rfl (Nat.le_of_ble_eq_true rfl) dX5_setMode_33 ⟨Nat.le_of_ble_eq_true rfl, Nat.le_of_ble_eq_true rfl⟩ (fun _ _ _ _ zv4 => ?_)
    obtain ⟨rfl, rfl, rfl, rfl⟩ := zv4
    show GG p l e _ s m _ below meth c D A ad dm _ _ _ _ (cw D ad cs (wkL (up2 σ 28 (ix v) u) (ix v) 1 (σ 0 0) (Lx (5 + (ix v)))) Lx cap mk ev zl tx mt tn tc w0) 36 _ []
    refine g_iload F 0 dX5_setMode_36 rfl ?_
    exact x_qi F hr hlocks (fun _ h => h) ⟨⟨hc2, hc9⟩, rfl, rfl, rfl, (by rw [if_pos zc3])⟩ (by decide) (by decide) dX5_setMode_38
set_option maxHeartbeats 4000000 in
set_option maxRecDepth 100000 in
theorem cc_setRoom (l : Launch) (D : va_G) (A : Nat → Prop) (cs : Nat → ClassId) (ad : Nat → Nat → Nat) (dm : Nat → Nat → Prop) (σ : SG) (Lx : Nat → List Nat) (cap : Nat → Nat) (mk : Nat → Int32) (ev : SG) (zl tx mt tn : Nat → Nat) (tc : SG) (w0 : CF) (n tq : Nat) (hC : CD dm n cap tq) (v u : Int32) (hlo : LO n Lx cap) (hfl : l.stackTraces = false) : vx_Met l yX5_setRoom wsX5_setRoom ({ frames := 7, cells := 2, slots := 12, locals := 112 }) (va_Pc [.ref (ad 10 0), .int v, .int u] (PW D A (tysG cs) ad dm (cw D ad cs σ Lx cap mk ev zl tx mt tn tc w0))) (QW D A (tysG cs) (fun rz ad1 dm1 w1 => (recP v ∧ inR u 0 50) ∧ rz = some (.int (σ 29 (ix v))) ∧ ad = ad1 ∧ dm = dm1 ∧ (cw D ad cs (lkL (up2 σ 29 (ix v) u) (ix v) (Lx (5 + (ix v)))) Lx cap mk ev zl tx mt tn tc w0) = w1)) (XW D A (tysG cs) ad dm (cw D ad cs σ Lx cap mk ev zl tx mt tn tc w0) (fun E => (E = xIO ∧ ¬ recP v) ∨ (E = xIA ∧ recP v ∧ ¬ (inR u 0 50)))) 2 12 A := by
  refine q_start (own := RX5) [.ref (ad 10 0), .int v, .int u] (cc := cX5_setRoom) (maxL := 5) (ret := (some .int)) (lv0 := [(0, .ref (ad 10 0)), (1, .int v), (2, .int u)]) (by decide) rfl rfl (Nat.le_of_ble_eq_true rfl) rfl ?_
  intro p e s m below meth c F hr hlocks hno
  have hinX4 : ∀ w ∈ wsX40, w ∈ wsX5_setRoom := by decide +kernel
  refine g_aload_n F 0 dX5_setRoom_0 rfl rfl ?_
  refine g_iload_n F 1 dX5_setRoom_1 rfl rfl ?_
  refine x_callV F (C := RX5) (k := 10) (i := 0) (ci := 5) (T := TX5) (N := 4) (rest := []) [.int v] (cc_recipientAt l D A cs ad dm σ Lx cap mk ev zl tx mt tn tc w0 n tq hC v hfl) (cwV 1 F.1.2.2.2.2 gX5_setRoom_X5_recipientAt rfl rfl rfl (by decide +kernel) ⟨Nat.le_of_ble_eq_true rfl, Nat.le_of_ble_eq_true rfl⟩) rfl hC.1 rfl rfl rfl rfl (Nat.le_of_ble_eq_true rfl) dX5_setRoom_2 ⟨Nat.le_of_ble_eq_true rfl, Nat.le_of_ble_eq_true rfl⟩ (x_prop F hno hlocks (fun _ h => .inl h) (Nat.le_of_ble_eq_true rfl) (Nat.le_of_ble_eq_true rfl)) (fun _ _ _ _ zv1 => ?_)
  obtain ⟨hc2, rfl, rfl, rfl, rfl⟩ := zv1
  have hb2 := (ix_rec hc2).2
  show GG p l e _ s m _ below meth c D A ad dm _ _ _ _ (cw D ad cs σ Lx cap mk ev zl tx mt tn tc w0) 5 _ [.ref (ad 14 (ix v))]
  refine g_astore_n F (lv1 := [(3, .ref (ad 14 (ix v))), (0, .ref (ad 10 0)), (1, .int v), (2, .int u)]) dX5_setRoom_5 rfl (by decide) rfl ?_
  refine g_iload_n F 3 dX5_setRoom_6 rfl rfl ?_
  refine g_iconst F dX5_setRoom_7 (v := 0) (by decide) ?_
  refine g_bipush F dX5_setRoom_8 (v := 50) (by decide) ?_
  refine x_callS F (rest := []) [.int u, .int 0, .int 50] (cc_require l D A cs ad dm σ Lx cap mk ev zl tx mt tn tc w0 n tq hC u 0 50 hfl) (va_cwS 3 F.1.2.2.2.2 gX5_setRoom_X5_requireInRange rfl rfl rfl (by decide +kernel) ⟨Nat.le_of_ble_eq_true rfl, Nat.le_of_ble_eq_true rfl⟩) rfl rfl (Nat.le_of_ble_eq_true rfl) dX5_setRoom_10 ⟨Nat.le_of_ble_eq_true rfl, Nat.le_of_ble_eq_true rfl⟩ (x_prop F hno hlocks (fun _ h => .inr ⟨h.1, hc2, h.2⟩) (Nat.le_of_ble_eq_true rfl) (Nat.le_of_ble_eq_true rfl)) (fun _ _ _ _ zv2 => ?_)
  obtain ⟨hc10, rfl, rfl, rfl, rfl⟩ := zv2
  show GG p l e _ s m _ below meth c D A ad dm _ _ _ _ (cw D ad cs σ Lx cap mk ev zl tx mt tn tc w0) 13 _ []
  refine g_aload_n F 0 dX5_setRoom_13 rfl rfl ?_
  refine g_getf (k := 14) (i := (ix v)) (ci := 4) (C := RX4) (T := TX4) (N := 5) (fs := (cR ad σ (ix v))) (fk := 1) F hinX4 (hC.2.2.2.2.1 (ix v) (by omega)) rfl rfl (by decide) (by decide +kernel) rfl rfl dX5_setRoom_14 ?_
  refine g_istore F (lv1 := [(4, .int (σ 29 (ix v))), (3, .ref (ad 14 (ix v))), (0, .ref (ad 10 0)), (1, .int v), (2, .int u)]) dX5_setRoom_17 (by decide) rfl ?_
  refine g_aload_n F 1 dX5_setRoom_19 rfl rfl ?_
  refine g_iload_n F 4 dX5_setRoom_20 rfl rfl ?_
  refine g_putf (k := 14) (i := (ix v)) (ci := 4) (C := RX4) (T := TX4) (N := 5) (fs := (cR ad σ (ix v))) (fk := 1) (v := .int u) (ty := .int) (tf := tyX4) F hinX4 tyX4_ok nmX4 (hC.2.2.2.2.1 (ix v) (by omega)) rfl rfl (by decide) (by decide +kernel) rfl rfl (by decide +kernel) rfl rfl (show 1 < 5 by decide) dX5_setRoom_21 ?_
  refine g_w (w1 := (cw D ad cs (up2 σ 29 (ix v) u) Lx cap mk ev zl tx mt tn tc w0)) (cp_29 (ix v) u).symm ?_
  refine g_aload_n F 2 dX5_setRoom_24 rfl rfl ?_
  refine g_aload_n F 1 dX5_setRoom_25 rfl rfl ?_
  refine q_callV F (C := RX5) (k := 10) (i := 0) (ci := 5) (T := TX5) (N := 4) (rest := []) [.ref (ad 14 (ix v))] (cc_look l D A cs ad dm (up2 σ 29 (ix v) u) Lx cap mk ev zl tx mt tn tc w0 n tq hC (ix v) (by omega) hlo) (cwV 1 F.1.2.2.2.2 gX5_setRoom_X5_wakeIfRoomAgain rfl rfl rfl (by decide +kernel) ⟨Nat.le_of_ble_eq_true rfl, Nat.le_of_ble_eq_true rfl⟩) rfl hC.1 rfl rfl rfl rfl (Nat.le_of_ble_eq_true rfl) dX5_setRoom_26 ⟨Nat.le_of_ble_eq_true rfl, Nat.le_of_ble_eq_true rfl⟩ (fun _ _ _ _ zv3 => ?_)
  obtain ⟨rfl, rfl, rfl, rfl⟩ := zv3
  show GG p l e _ s m _ below meth c D A ad dm _ _ _ _ (cw D ad cs (lkL (up2 σ 29 (ix v) u) (ix v) (Lx (5 + (ix v)))) Lx cap mk ev zl tx mt tn tc w0) 29 _ []
  refine g_iload F 0 dX5_setRoom_29 rfl ?_
  exact x_qi F hr hlocks (fun _ h => h) ⟨⟨hc2, hc10⟩, rfl, rfl, rfl, rfl⟩ (by decide) (by decide) dX5_setRoom_31
set_option maxHeartbeats 4000000 in
set_option maxRecDepth 100000 in
theorem cc_read (l : Launch) (D : va_G) (A : Nat → Prop) (cs : Nat → ClassId) (ad : Nat → Nat → Nat) (dm : Nat → Nat → Prop) (σ : SG) (Lx : Nat → List Nat) (cap : Nat → Nat) (mk : Nat → Int32) (ev : SG) (zl tx mt tn : Nat → Nat) (tc : SG) (w0 : CF) (n tq : Nat) (hC : CD dm n cap tq) (v u : Int32) (hlo : LO n Lx cap) (hfl : l.stackTraces = false) : vx_Met l yX5_read wsX5_read ({ frames := 7, cells := 2, slots := 12, locals := 112 }) (va_Pc [.ref (ad 10 0), .int v, .int u] (PW D A (tysG cs) ad dm (cw D ad cs σ Lx cap mk ev zl tx mt tn tc w0))) (QW D A (tysG cs) (fun rz ad1 dm1 w1 => (recP v ∧ inR u 1 50) ∧ rz = some (.int ((up2 σ 30 (ix v) (if (0 : Int32) < ((σ 30 (ix v)) - u) then ((σ 30 (ix v)) - u) else 0)) 30 (ix v))) ∧ ad = ad1 ∧ dm = dm1 ∧ (cw D ad cs (lkL (up2 σ 30 (ix v) (if (0 : Int32) < ((σ 30 (ix v)) - u) then ((σ 30 (ix v)) - u) else 0)) (ix v) (Lx (5 + (ix v)))) Lx cap mk ev zl tx mt tn tc w0) = w1)) (XW D A (tysG cs) ad dm (cw D ad cs σ Lx cap mk ev zl tx mt tn tc w0) (fun E => (E = xIO ∧ ¬ recP v) ∨ (E = xIA ∧ recP v ∧ ¬ (inR u 1 50)))) 2 12 A := by
  refine q_start (own := RX5) [.ref (ad 10 0), .int v, .int u] (cc := cX5_read) (maxL := 4) (ret := (some .int)) (lv0 := [(0, .ref (ad 10 0)), (1, .int v), (2, .int u)]) (by decide) rfl rfl (Nat.le_of_ble_eq_true rfl) rfl ?_
  intro p e s m below meth c F hr hlocks hno
  have hinX4 : ∀ w ∈ wsX40, w ∈ wsX5_read := by decide +kernel
  refine g_aload_n F 0 dX5_read_0 rfl rfl ?_
  refine g_iload_n F 1 dX5_read_1 rfl rfl ?_
  refine x_callV F (C := RX5) (k := 10) (i := 0) (ci := 5) (T := TX5) (N := 4) (rest := []) [.int v] (cc_recipientAt l D A cs ad dm σ Lx cap mk ev zl tx mt tn tc w0 n tq hC v hfl) (cwV 1 F.1.2.2.2.2 gX5_read_X5_recipientAt rfl rfl rfl (by decide +kernel) ⟨Nat.le_of_ble_eq_true rfl, Nat.le_of_ble_eq_true rfl⟩) rfl hC.1 rfl rfl rfl rfl (Nat.le_of_ble_eq_true rfl) dX5_read_2 ⟨Nat.le_of_ble_eq_true rfl, Nat.le_of_ble_eq_true rfl⟩ (x_prop F hno hlocks (fun _ h => .inl h) (Nat.le_of_ble_eq_true rfl) (Nat.le_of_ble_eq_true rfl)) (fun _ _ _ _ zv1 => ?_)
  obtain ⟨hc2, rfl, rfl, rfl, rfl⟩ := zv1
  have hb2 := (ix_rec hc2).2
  show GG p l e _ s m _ below meth c D A ad dm _ _ _ _ (cw D ad cs σ Lx cap mk ev zl tx mt tn tc w0) 5 _ [.ref (ad 14 (ix v))]
  refine g_astore_n F (lv1 := [(3, .ref (ad 14 (ix v))), (0, .ref (ad 10 0)), (1, .int v), (2, .int u)]) dX5_read_5 rfl (by decide) rfl ?_
  refine g_iload_n F 3 dX5_read_6 rfl rfl ?_
  refine g_iconst F dX5_read_7 (v := 1) (by decide) ?_
  refine g_bipush F dX5_read_8 (v := 50) (by decide) ?_
  refine x_callS F (rest := []) [.int u, .int 1, .int 50] (cc_require l D A cs ad dm σ Lx cap mk ev zl tx mt tn tc w0 n tq hC u 1 50 hfl) (va_cwS 3 F.1.2.2.2.2 gX5_read_X5_requireInRange rfl rfl rfl (by decide +kernel) ⟨Nat.le_of_ble_eq_true rfl, Nat.le_of_ble_eq_true rfl⟩) rfl rfl (Nat.le_of_ble_eq_true rfl) dX5_read_10 ⟨Nat.le_of_ble_eq_true rfl, Nat.le_of_ble_eq_true rfl⟩ (x_prop F hno hlocks (fun _ h => .inr ⟨h.1, hc2, h.2⟩) (Nat.le_of_ble_eq_true rfl) (Nat.le_of_ble_eq_true rfl)) (fun _ _ _ _ zv2 => ?_)
  obtain ⟨hc10, rfl, rfl, rfl, rfl⟩ := zv2
  show GG p l e _ s m _ below meth c D A ad dm _ _ _ _ (cw D ad cs σ Lx cap mk ev zl tx mt tn tc w0) 13 _ []
  refine g_aload_n F 0 dX5_read_13 rfl rfl ?_
  refine g_iconst F dX5_read_14 (v := 0) (by decide) ?_
  refine g_aload_n F 0 dX5_read_15 rfl rfl ?_
  refine g_getf (k := 14) (i := (ix v)) (ci := 4) (C := RX4) (T := TX4) (N := 5) (fs := (cR ad σ (ix v))) (fk := 2) F hinX4 (hC.2.2.2.2.1 (ix v) (by omega)) rfl rfl (by decide) (by decide +kernel) rfl rfl dX5_read_16 ?_
  refine g_iload_n F 3 dX5_read_19 rfl rfl ?_
  refine g_isub F dX5_read_20 ?_
  refine g_mmax F (by decide +kernel) (by decide +kernel) (by decide +kernel) (by decide +kernel) (Nat.le_of_ble_eq_true rfl) (Nat.le_of_ble_eq_true rfl) (Nat.le_of_ble_eq_true rfl) (Nat.le_of_ble_eq_true rfl) dX5_read_21 ?_
  refine g_putf (k := 14) (i := (ix v)) (ci := 4) (C := RX4) (T := TX4) (N := 5) (fs := (cR ad σ (ix v))) (fk := 2) (v := .int (if 0 < ((σ 30 (ix v)) - u) then ((σ 30 (ix v)) - u) else 0)) (ty := .int) (tf := tyX4) F hinX4 tyX4_ok nmX4 (hC.2.2.2.2.1 (ix v) (by omega)) rfl rfl (by decide) (by decide +kernel) rfl rfl (by decide +kernel) rfl rfl (show 2 < 5 by decide) dX5_read_24 ?_
  refine g_w (w1 := (cw D ad cs (up2 σ 30 (ix v) (if 0 < ((σ 30 (ix v)) - u) then ((σ 30 (ix v)) - u) else 0)) Lx cap mk ev zl tx mt tn tc w0)) (cp_30 (ix v) (if 0 < ((σ 30 (ix v)) - u) then ((σ 30 (ix v)) - u) else 0)).symm ?_
  refine g_aload_n F 1 dX5_read_27 rfl rfl ?_
  refine g_aload_n F 0 dX5_read_28 rfl rfl ?_
  refine q_callV F (C := RX5) (k := 10) (i := 0) (ci := 5) (T := TX5) (N := 4) (rest := []) [.ref (ad 14 (ix v))] (cc_look l D A cs ad dm (up2 σ 30 (ix v) (if 0 < ((σ 30 (ix v)) - u) then ((σ 30 (ix v)) - u) else 0)) Lx cap mk ev zl tx mt tn tc w0 n tq hC (ix v) (by omega) hlo) (cwV 1 F.1.2.2.2.2 gX5_read_X5_wakeIfRoomAgain rfl rfl rfl (by decide +kernel) ⟨Nat.le_of_ble_eq_true rfl, Nat.le_of_ble_eq_true rfl⟩) rfl hC.1 rfl rfl rfl rfl (Nat.le_of_ble_eq_true rfl) dX5_read_29 ⟨Nat.le_of_ble_eq_true rfl, Nat.le_of_ble_eq_true rfl⟩ (fun _ _ _ _ zv3 => ?_)
  obtain ⟨rfl, rfl, rfl, rfl⟩ := zv3
  show GG p l e _ s m _ below meth c D A ad dm _ _ _ _ (cw D ad cs (lkL (up2 σ 30 (ix v) (if 0 < ((σ 30 (ix v)) - u) then ((σ 30 (ix v)) - u) else 0)) (ix v) (Lx (5 + (ix v)))) Lx cap mk ev zl tx mt tn tc w0) 32 _ []
  refine g_aload_n F 0 dX5_read_32 rfl rfl ?_
  refine g_getf (k := 14) (i := (ix v)) (ci := 4) (C := RX4) (T := TX4) (N := 5) (fs := (cR ad (lkL (up2 σ 30 (ix v) (if 0 < ((σ 30 (ix v)) - u) then ((σ 30 (ix v)) - u) else 0)) (ix v) (Lx (5 + (ix v)))) (ix v))) (fk := 2) F hinX4 (hC.2.2.2.2.1 (ix v) (by omega)) rfl rfl (by decide) (by decide +kernel) rfl rfl dX5_read_33 ?_
  exact x_qi F hr hlocks (fun _ h => h) ⟨⟨hc2, hc10⟩, (congrArg some (congrArg Value.int (lkL_ne _ _ _ (by decide) (by decide) _))), rfl, rfl, (rfl)⟩ (by decide) (by decide) dX5_read_36
set_option maxHeartbeats 4000000 in
set_option maxRecDepth 100000 in
theorem cc_setRate (l : Launch) (D : va_G) (A : Nat → Prop) (cs : Nat → ClassId) (ad : Nat → Nat → Nat) (dm : Nat → Nat → Prop) (σ : SG) (Lx : Nat → List Nat) (cap : Nat → Nat) (mk : Nat → Int32) (ev : SG) (zl tx mt tn : Nat → Nat) (tc : SG) (w0 : CF) (n tq : Nat) (hC : CD dm n cap tq) (v u t : Int32) (hfl : l.stackTraces = false) : vx_Met l yX5_setRate wsX5_setRate ({ frames := 7, cells := 3, slots := 18, locals := 112 }) (va_Pc [.ref (ad 10 0), .int v, .int u, .int t] (PW D A (tysG cs) ad dm (cw D ad cs σ Lx cap mk ev zl tx mt tn tc w0))) (QW D A (tysG cs) (fun rz ad1 dm1 w1 => (accP v ∧ inR u 0 40 ∧ inR t 1 200) ∧ rz = some (.int (σ 7 (ix v))) ∧ ad = ad1 ∧ dm = dm1 ∧ (cw D ad cs (up2 (up2 σ 7 (ix v) u) 8 (ix v) t) Lx cap mk ev zl tx mt tn tc w0) = w1)) (XW D A (tysG cs) ad dm (cw D ad cs σ Lx cap mk ev zl tx mt tn tc w0) (fun E => (E = xIO ∧ ¬ accP v) ∨ (E = xIA ∧ accP v ∧ ¬ (inR u 0 40 ∧ inR t 1 200)))) 3 18 A := by
  refine q_start (own := RX5) [.ref (ad 10 0), .int v, .int u, .int t] (cc := cX5_setRate) (maxL := 6) (ret := (some .int)) (lv0 := [(0, .ref (ad 10 0)), (1, .int v), (2, .int u), (3, .int t)]) (by decide) rfl rfl (Nat.le_of_ble_eq_true rfl) rfl ?_
  intro p e s m below meth c F hr hlocks hno
  have hinX0 : ∀ w ∈ wsX00, w ∈ wsX5_setRate := by decide +kernel
  refine g_aload_n F 0 dX5_setRate_0 rfl rfl ?_
  refine g_iload_n F 1 dX5_setRate_1 rfl rfl ?_
  refine x_callV F (C := RX5) (k := 10) (i := 0) (ci := 5) (T := TX5) (N := 4) (rest := []) [.int v] (cc_accountAt l D A cs ad dm σ Lx cap mk ev zl tx mt tn tc w0 n tq hC v hfl) (cwV 1 F.1.2.2.2.2 gX5_setRate_X5_accountAt rfl rfl rfl (by decide +kernel) ⟨Nat.le_of_ble_eq_true rfl, Nat.le_of_ble_eq_true rfl⟩) rfl hC.1 rfl rfl rfl rfl (Nat.le_of_ble_eq_true rfl) dX5_setRate_2 ⟨Nat.le_of_ble_eq_true rfl, Nat.le_of_ble_eq_true rfl⟩ (x_prop F hno hlocks (fun _ h => .inl h) (Nat.le_of_ble_eq_true rfl) (Nat.le_of_ble_eq_true rfl)) (fun _ _ _ _ zv1 => ?_)
  obtain ⟨hc2, rfl, rfl, rfl, rfl⟩ := zv1
  have hb2 := (ix_acc hc2).2
  show GG p l e _ s m _ below meth c D A ad dm _ _ _ _ (cw D ad cs σ Lx cap mk ev zl tx mt tn tc w0) 5 _ [.ref (ad 13 (ix v))]
  refine g_astore F (lv1 := [(4, .ref (ad 13 (ix v))), (0, .ref (ad 10 0)), (1, .int v), (2, .int u), (3, .int t)]) dX5_setRate_5 (by decide) rfl ?_
  refine g_iload_n F 3 dX5_setRate_7 rfl rfl ?_
  refine g_iconst F dX5_setRate_8 (v := 0) (by decide) ?_
  refine g_bipush F dX5_setRate_9 (v := 40) (by decide) ?_
  refine x_callS F (rest := []) [.int u, .int 0, .int 40] (cc_require l D A cs ad dm σ Lx cap mk ev zl tx mt tn tc w0 n tq hC u 0 40 hfl) (va_cwS 3 F.1.2.2.2.2 gX5_setRate_X5_requireInRange rfl rfl rfl (by decide +kernel) ⟨Nat.le_of_ble_eq_true rfl, Nat.le_of_ble_eq_true rfl⟩) rfl rfl (Nat.le_of_ble_eq_true rfl) dX5_setRate_11 ⟨Nat.le_of_ble_eq_true rfl, Nat.le_of_ble_eq_true rfl⟩ (x_prop F hno hlocks (fun _ h => .inr ⟨h.1, hc2, fun q => h.2 q.1⟩) (Nat.le_of_ble_eq_true rfl) (Nat.le_of_ble_eq_true rfl)) (fun _ _ _ _ zv2 => ?_)
  obtain ⟨hc11, rfl, rfl, rfl, rfl⟩ := zv2
  show GG p l e _ s m _ below meth c D A ad dm _ _ _ _ (cw D ad cs σ Lx cap mk ev zl tx mt tn tc w0) 14 _ []
  refine g_iload_n F 4 dX5_setRate_14 rfl rfl ?_
  refine g_iconst F dX5_setRate_15 (v := 1) (by decide) ?_
  refine g_sipush F dX5_setRate_16 (v := 200) (by decide) ?_
  refine x_callS F (rest := []) [.int t, .int 1, .int 200] (cc_require l D A cs ad dm σ Lx cap mk ev zl tx mt tn tc w0 n tq hC t 1 200 hfl) (va_cwS 3 F.1.2.2.2.2 gX5_setRate_X5_requireInRange rfl rfl rfl (by decide +kernel) ⟨Nat.le_of_ble_eq_true rfl, Nat.le_of_ble_eq_true rfl⟩) rfl rfl (Nat.le_of_ble_eq_true rfl) dX5_setRate_19 ⟨Nat.le_of_ble_eq_true rfl, Nat.le_of_ble_eq_true rfl⟩ (x_prop F hno hlocks (fun _ h => .inr ⟨h.1, hc2, fun q => h.2 q.2⟩) (Nat.le_of_ble_eq_true rfl) (Nat.le_of_ble_eq_true rfl)) (fun _ _ _ _ zv3 => ?_)
  obtain ⟨hc19, rfl, rfl, rfl, rfl⟩ := zv3
  show GG p l e _ s m _ below meth c D A ad dm _ _ _ _ (cw D ad cs σ Lx cap mk ev zl tx mt tn tc w0) 22 _ []
  refine g_aload F 0 dX5_setRate_22 rfl ?_
  refine g_getf (k := 13) (i := (ix v)) (ci := 1) (C := RX0) (T := TX0) (N := 7) (fs := (cA ad σ tx (ix v))) (fk := 4) F hinX0 (hC.2.2.2.1 (ix v) (by omega)) rfl rfl (by decide) (by decide +kernel) rfl rfl dX5_setRate_24 ?_
  refine g_istore F (lv1 := [(5, .int (σ 7 (ix v))), (4, .ref (ad 13 (ix v))), (0, .ref (ad 10 0)), (1, .int v), (2, .int u), (3, .int t)]) dX5_setRate_27 (by decide) rfl ?_
  refine g_aload F 1 dX5_setRate_29 rfl ?_
  refine g_iload_n F 4 dX5_setRate_31 rfl rfl ?_
  refine g_putf (k := 13) (i := (ix v)) (ci := 1) (C := RX0) (T := TX0) (N := 7) (fs := (cA ad σ tx (ix v))) (fk := 4) (v := .int u) (ty := .int) (tf := tyX0) F hinX0 tyX0_ok nmX0 (hC.2.2.2.1 (ix v) (by omega)) rfl rfl (by decide) (by decide +kernel) rfl rfl (by decide +kernel) rfl rfl (show 4 < 7 by decide) dX5_setRate_32 ?_
  refine g_w (w1 := (cw D ad cs (up2 σ 7 (ix v) u) Lx cap mk ev zl tx mt tn tc w0)) (cp_7 (ix v) u).symm ?_
  refine g_aload F 1 dX5_setRate_35 rfl ?_
  refine g_iload_n F 5 dX5_setRate_37 rfl rfl ?_
  refine g_putf (k := 13) (i := (ix v)) (ci := 1) (C := RX0) (T := TX0) (N := 7) (fs := (cA ad (up2 σ 7 (ix v) u) tx (ix v))) (fk := 5) (v := .int t) (ty := .int) (tf := tyX0) F hinX0 tyX0_ok nmX0 (hC.2.2.2.1 (ix v) (by omega)) rfl rfl (by decide) (by decide +kernel) rfl rfl (by decide +kernel) rfl rfl (show 5 < 7 by decide) dX5_setRate_38 ?_
  refine g_w (w1 := (cw D ad cs (up2 (up2 σ 7 (ix v) u) 8 (ix v) t) Lx cap mk ev zl tx mt tn tc w0)) (cp_8 (ix v) t).symm ?_
  refine g_iload F 0 dX5_setRate_41 rfl ?_
  exact x_qi F hr hlocks (fun _ h => h) ⟨⟨hc2, hc11, hc19⟩, rfl, rfl, rfl, rfl⟩ (by decide) (by decide) dX5_setRate_43
set_option maxHeartbeats 4000000 in
set_option maxRecDepth 100000 in
theorem cc_setOptions (l : Launch) (D : va_G) (A : Nat → Prop) (cs : Nat → ClassId) (ad : Nat → Nat → Nat) (dm : Nat → Nat → Prop) (σ : SG) (Lx : Nat → List Nat) (cap : Nat → Nat) (mk : Nat → Int32) (ev : SG) (zl tx mt tn : Nat → Nat) (tc : SG) (w0 : CF) (n tq : Nat) (hC : CD dm n cap tq) (v u t : Int32) (wb : Prop) [Decidable wb] (hfl : l.stackTraces = false) : vx_Met l yX5_setOptions wsX5_setOptions ({ frames := 7, cells := 3, slots := 18, locals := 112 }) (va_Pc [.ref (ad 10 0), .int v, .int u, .int t, .int (bi (wb))] (PW D A (tysG cs) ad dm (cw D ad cs σ Lx cap mk ev zl tx mt tn tc w0))) (QW D A (tysG cs) (fun rz ad1 dm1 w1 => (accP v ∧ inR u 0 7 ∧ (t = (-1) ∨ inR t 0 99)) ∧ rz = none ∧ ad = ad1 ∧ dm = dm1 ∧ (cw D ad cs (up2 (up2 (up2 σ 4 (ix v) u) 5 (ix v) t) 6 (ix v) (bi (wb))) Lx cap mk ev zl tx mt tn tc w0) = w1)) (XW D A (tysG cs) ad dm (cw D ad cs σ Lx cap mk ev zl tx mt tn tc w0) (fun E => (E = xIO ∧ ¬ accP v) ∨ (E = xIA ∧ accP v ∧ ¬ (inR u 0 7 ∧ (t = (-1) ∨ inR t 0 99))))) 3 18 A := by
  refine q_start (own := RX5) [.ref (ad 10 0), .int v, .int u, .int t, .int (bi (wb))] (cc := cX5_setOptions) (maxL := 6) (ret := none) (lv0 := [(0, .ref (ad 10 0)), (1, .int v), (2, .int u), (3, .int t), (4, .int (bi (wb)))]) (by decide) rfl rfl (Nat.le_of_ble_eq_true rfl) rfl ?_
  intro p e s m below meth c F hr hlocks hno
  have hinX0 : ∀ w ∈ wsX00, w ∈ wsX5_setOptions := by decide +kernel
  refine g_aload_n F 0 dX5_setOptions_0 rfl rfl ?_
  refine g_iload_n F 1 dX5_setOptions_1 rfl rfl ?_
  refine x_callV F (C := RX5) (k := 10) (i := 0) (ci := 5) (T := TX5) (N := 4) (rest := []) [.int v] (cc_accountAt l D A cs ad dm σ Lx cap mk ev zl tx mt tn tc w0 n tq hC v hfl) (cwV 1 F.1.2.2.2.2 gX5_setOptions_X5_accountAt rfl rfl rfl (by decide +kernel) ⟨Nat.le_of_ble_eq_true rfl, Nat.le_of_ble_eq_true rfl⟩) rfl hC.1 rfl rfl rfl rfl (Nat.le_of_ble_eq_true rfl) dX5_setOptions_2 ⟨Nat.le_of_ble_eq_true rfl, Nat.le_of_ble_eq_true rfl⟩ (x_prop F hno hlocks (fun _ h => .inl h) (Nat.le_of_ble_eq_true rfl) (Nat.le_of_ble_eq_true rfl)) (fun _ _ _ _ zv1 => ?_)
  obtain ⟨hc2, rfl, rfl, rfl, rfl⟩ := zv1
  have hb2 := (ix_acc hc2).2
  show GG p l e _ s m _ below meth c D A ad dm _ _ _ _ (cw D ad cs σ Lx cap mk ev zl tx mt tn tc w0) 5 _ [.ref (ad 13 (ix v))]
  refine g_astore F (lv1 := [(5, .ref (ad 13 (ix v))), (0, .ref (ad 10 0)), (1, .int v), (2, .int u), (3, .int t), (4, .int (bi (wb)))]) dX5_setOptions_5 (by decide) rfl ?_
  refine g_iload_n F 3 dX5_setOptions_7 rfl rfl ?_
  refine g_iconst F dX5_setOptions_8 (v := 0) (by decide) ?_
  refine g_bipush F dX5_setOptions_9 (v := 7) (by decide) ?_
  refine x_callS F (rest := []) [.int u, .int 0, .int 7] (cc_require l D A cs ad dm σ Lx cap mk ev zl tx mt tn tc w0 n tq hC u 0 7 hfl) (va_cwS 3 F.1.2.2.2.2 gX5_setOptions_X5_requireInRange rfl rfl rfl (by decide +kernel) ⟨Nat.le_of_ble_eq_true rfl, Nat.le_of_ble_eq_true rfl⟩) rfl rfl (Nat.le_of_ble_eq_true rfl) dX5_setOptions_11 ⟨Nat.le_of_ble_eq_true rfl, Nat.le_of_ble_eq_true rfl⟩ (x_prop F hno hlocks (fun _ h => .inr ⟨h.1, hc2, fun q => h.2 q.1⟩) (Nat.le_of_ble_eq_true rfl) (Nat.le_of_ble_eq_true rfl)) (fun _ _ _ _ zv2 => ?_)
  obtain ⟨hc11, rfl, rfl, rfl, rfl⟩ := zv2
  show GG p l e _ s m _ below meth c D A ad dm _ _ _ _ (cw D ad cs σ Lx cap mk ev zl tx mt tn tc w0) 14 _ []
  refine g_iload_n F 4 dX5_setOptions_14 rfl rfl ?_
  refine g_iconst F dX5_setOptions_15 (v := -1) (by decide) ?_
  refine g_icmp_eq F (tgt := 26) dX5_setOptions_16 (by decide) (fun zc3 => ?_) (fun zc3 => ?_)
  ·
    refine g_aload F 0 dX5_setOptions_26 rfl ?_
    refine g_iload_n F 3 dX5_setOptions_28 rfl rfl ?_
    refine g_putf (k := 13) (i := (ix v)) (ci := 1) (C := RX0) (T := TX0) (N := 7) (fs := (cA ad σ tx (ix v))) (fk := 1) (v := .int u) (ty := .int) (tf := tyX0) F hinX0 tyX0_ok nmX0 (hC.2.2.2.1 (ix v) (by omega)) rfl rfl (by decide) (by decide +kernel) rfl rfl (by decide +kernel) rfl rfl (show 1 < 7 by decide) dX5_setOptions_29 ?_
    refine g_w (w1 := (cw D ad cs (up2 σ 4 (ix v) u) Lx cap mk ev zl tx mt tn tc w0)) (cp_4 (ix v) u).symm ?_
    refine g_aload F 0 dX5_setOptions_32 rfl ?_
    refine g_iload_n F 4 dX5_setOptions_34 rfl rfl ?_
    refine g_putf (k := 13) (i := (ix v)) (ci := 1) (C := RX0) (T := TX0) (N := 7) (fs := (cA ad (up2 σ 4 (ix v) u) tx (ix v))) (fk := 2) (v := .int t) (ty := .int) (tf := tyX0) F hinX0 tyX0_ok nmX0 (hC.2.2.2.1 (ix v) (by omega)) rfl rfl (by decide) (by decide +kernel) rfl rfl (by decide +kernel) rfl rfl (show 2 < 7 by decide) dX5_setOptions_35 ?_
    refine g_w (w1 := (cw D ad cs (up2 (up2 σ 4 (ix v) u) 5 (ix v) t) Lx cap mk ev zl tx mt tn tc w0)) (cp_5 (ix v) t).symm ?_
    refine g_aload F 0 dX5_setOptions_38 rfl ?_
    refine g_iload F 5 dX5_setOptions_40 rfl ?_
    refine g_putf (k := 13) (i := (ix v)) (ci := 1) (C := RX0) (T := TX0) (N := 7) (fs := (cA ad (up2 (up2 σ 4 (ix v) u) 5 (ix v) t) tx (ix v))) (fk := 3) (v := .int (bi (wb))) (ty := .boolean) (tf := tyX0) F hinX0 tyX0_ok nmX0 (hC.2.2.2.1 (ix v) (by omega)) rfl rfl (by decide) (by decide +kernel) rfl rfl (by decide +kernel) (bi_nar _) (bi_fit _) (show 3 < 7 by decide) dX5_setOptions_42 ?_
    refine g_w (w1 := (cw D ad cs (up2 (up2 (up2 σ 4 (ix v) u) 5 (ix v) t) 6 (ix v) (bi (wb))) Lx cap mk ev zl tx mt tn tc w0)) (cp_6 (ix v) (bi (wb))).symm ?_
    exact x_qv F hr hlocks (fun _ h => h) ⟨⟨hc2, hc11, .inl zc3⟩, rfl, rfl, rfl, rfl⟩ (by decide) (by decide) dX5_setOptions_45
  ·
    refine g_iload_n F 4 dX5_setOptions_19 rfl rfl ?_
    refine g_iconst F dX5_setOptions_20 (v := 0) (by decide) ?_
    refine g_bipush F dX5_setOptions_21 (v := 99) (by decide) ?_
    refine x_callS F (rest := []) [.int t, .int 0, .int 99] (cc_require l D A cs ad dm σ Lx cap mk ev zl tx mt tn tc w0 n tq hC t 0 99 hfl) (va_cwS 3 F.1.2.2.2.2 gX5_setOptions_X5_requireInRange rfl rfl rfl (by decide +kernel) ⟨Nat.le_of_ble_eq_true rfl, Nat.le_of_ble_eq_true rfl⟩) rfl rfl (Nat.le_of_ble_eq_true rfl) dX5_setOptions_23 ⟨Nat.le_of_ble_eq_true rfl, Nat.le_of_ble_eq_true rfl⟩ (x_prop F hno hlocks (fun _ h => .inr ⟨h.1, hc2, fun q => q.2.elim (fun z => absurd z zc3) h.2⟩) (Nat.le_of_ble_eq_true rfl) (Nat.le_of_ble_eq_true rfl)) (fun _ _ _ _ zv4 => ?_)
    obtain ⟨hc23, rfl, rfl, rfl, rfl⟩ := zv4
    show GG p l e _ s m _ below meth c D A ad dm _ _ _ _ (cw D ad cs σ Lx cap mk ev zl tx mt tn tc w0) 26 _ []
    refine g_aload F 0 dX5_setOptions_26 rfl ?_
    refine g_iload_n F 3 dX5_setOptions_28 rfl rfl ?_
    refine g_putf (k := 13) (i := (ix v)) (ci := 1) (C := RX0) (T := TX0) (N := 7) (fs := (cA ad σ tx (ix v))) (fk := 1) (v := .int u) (ty := .int) (tf := tyX0) F hinX0 tyX0_ok nmX0 (hC.2.2.2.1 (ix v) (by omega)) rfl rfl (by decide) (by decide +kernel) rfl rfl (by decide +kernel) rfl rfl (show 1 < 7 by decide) dX5_setOptions_29 ?_
    refine g_w (w1 := (cw D ad cs (up2 σ 4 (ix v) u) Lx cap mk ev zl tx mt tn tc w0)) (cp_4 (ix v) u).symm ?_
    refine g_aload F 0 dX5_setOptions_32 rfl ?_
    refine g_iload_n F 4 dX5_setOptions_34 rfl rfl ?_
    refine g_putf (k := 13) (i := (ix v)) (ci := 1) (C := RX0) (T := TX0) (N := 7) (fs := (cA ad (up2 σ 4 (ix v) u) tx (ix v))) (fk := 2) (v := .int t) (ty := .int) (tf := tyX0) F hinX0 tyX0_ok nmX0 (hC.2.2.2.1 (ix v) (by omega)) rfl rfl (by decide) (by decide +kernel) rfl rfl (by decide +kernel) rfl rfl (show 2 < 7 by decide) dX5_setOptions_35 ?_
    refine g_w (w1 := (cw D ad cs (up2 (up2 σ 4 (ix v) u) 5 (ix v) t) Lx cap mk ev zl tx mt tn tc w0)) (cp_5 (ix v) t).symm ?_
    refine g_aload F 0 dX5_setOptions_38 rfl ?_
    refine g_iload F 5 dX5_setOptions_40 rfl ?_
    refine g_putf (k := 13) (i := (ix v)) (ci := 1) (C := RX0) (T := TX0) (N := 7) (fs := (cA ad (up2 (up2 σ 4 (ix v) u) 5 (ix v) t) tx (ix v))) (fk := 3) (v := .int (bi (wb))) (ty := .boolean) (tf := tyX0) F hinX0 tyX0_ok nmX0 (hC.2.2.2.1 (ix v) (by omega)) rfl rfl (by decide) (by decide +kernel) rfl rfl (by decide +kernel) (bi_nar _) (bi_fit _) (show 3 < 7 by decide) dX5_setOptions_42 ?_
    refine g_w (w1 := (cw D ad cs (up2 (up2 (up2 σ 4 (ix v) u) 5 (ix v) t) 6 (ix v) (bi (wb))) Lx cap mk ev zl tx mt tn tc w0)) (cp_6 (ix v) (bi (wb))).symm ?_
    exact x_qv F hr hlocks (fun _ h => h) ⟨⟨hc2, hc11, .inr hc23⟩, rfl, rfl, rfl, rfl⟩ (by decide) (by decide) dX5_setOptions_45
abbrev gbP (σ : SG) (j b : Nat) : Prop := (¬ (σ 14 j) = (σ 14 b) ∧ ¬ (σ 14 j) ≤ (σ 14 b)) ∨ ((σ 14 j) = (σ 14 b) ∧ ¬ (σ 26 b) ≤ (σ 26 j))
def frT (σ : SG) (t : Int32) (b : Option Nat) (k : Nat) : Option Nat := if t < (σ 26 k) then b else match b with
  | none => some k
  | some j => if gbP σ k j then some k else some j
def frL (σ : SG) (t : Int32) (xs : List Nat) : Option Nat := xs.foldl (frT σ t) none
theorem frL_s (σ : SG) (t : Int32) {xs : List Nat} {k : Nat} (h : k < xs.length) : frL σ t (xs.take (k + 1)) = frT σ t (frL σ t (xs.take k)) (xs.getD k 0) := by
  unfold frL
  rw [take_s h, List.foldl_append]
  rfl
theorem frT_skip {σ : SG} {t : Int32} {b : Option Nat} {k : Nat} (h : t < (σ 26 k)) : frT σ t b k = b := if_pos h
theorem frT_none {σ : SG} {t : Int32} {k : Nat} (h : ¬ t < (σ 26 k)) : frT σ t none k = some k := if_neg h
theorem frT_y {σ : SG} {t : Int32} {j k : Nat} (h : ¬ t < (σ 26 k)) (g : gbP σ k j) : frT σ t (some j) k = some k := (if_neg h).trans (if_pos g)
theorem frT_n {σ : SG} {t : Int32} {j k : Nat} (h : ¬ t < (σ 26 k)) (g : ¬ gbP σ k j) : frT σ t (some j) k = some j := (if_neg h).trans (if_neg g)
theorem frL_in (σ : SG) (t : Int32) : ∀ (xs : List Nat) (b : Option Nat) (j : Nat), xs.foldl (frT σ t) b = some j → j ∈ xs ∨ b = some j
  | [], b, j, h => .inr h
  | x :: xs, b, j, h => by
    rcases frL_in σ t xs (frT σ t b x) j h with q | q
    · exact .inl (List.mem_cons_of_mem _ q)
    · unfold frT at q
      split at q
      · exact .inr q
      · split at q
        · exact .inl (by rw [← Option.some.inj q]; exact List.mem_cons_self)
        · split at q
          · exact .inl (by rw [← Option.some.inj q]; exact List.mem_cons_self)
          · exact .inr q
theorem frL_lt {n : Nat} {σ : SG} {t : Int32} {xs : List Nat} (hx : ∀ j ∈ xs, j < n) {k j : Nat} (h : frL σ t (xs.take k) = some j) : j < n := by
  rcases frL_in σ t _ none j h with q | q
  · exact hx j (List.mem_of_mem_take q)
  · cases q
set_option maxHeartbeats 4000000 in
set_option maxRecDepth 100000 in
theorem cc_first (l : Launch) (D : va_G) (A : Nat → Prop) (cs : Nat → ClassId) (ad : Nat → Nat → Nat) (dm : Nat → Nat → Prop) (σ : SG) (Lx : Nat → List Nat) (cap : Nat → Nat) (mk : Nat → Int32) (ev : SG) (zl tx mt tn : Nat → Nat) (tc : SG) (w0 : CF) (n tq : Nat) (hC : CD dm n cap tq) (r : Nat) (t : Int32) (hr6 : r < 6) (hlo : LO n Lx cap) : Met l yX4_firstDueUntil wsX4_firstDueUntil ({ frames := 3, cells := 0, slots := 0, locals := 64 }) (va_Pc [.ref (ad 14 r), .int t] (PW D A (tysG cs) ad dm (cw D ad cs σ Lx cap mk ev zl tx mt tn tc w0))) (QW D A (tysG cs) (fun rz ad1 dm1 w1 => rz = some ((va_rf ((frL σ t (Lx (5 + r))).map (ad 17)))) ∧ ad = ad1 ∧ dm = dm1 ∧ (cw D ad cs σ Lx cap mk ev zl tx mt tn tc w0) = w1)) 0 0 A := by
  refine g_start (own := RX4) [.ref (ad 14 r), .int t] (cc := cX4_firstDueUntil) (maxL := 5) (ret := (some (.object "MessageCentre$Message"))) (lv0 := [(0, .ref (ad 14 r)), (1, .int t)]) (by decide) rfl rfl (Nat.le_of_ble_eq_true rfl) rfl ?_
  intro p e s m below meth c F hr hlocks hno
  have hq60 : (Lx (5 + r)).length ≤ 60 := Nat.le_trans (hlo (5 + r) (by omega)).1 (hlo (5 + r) (by omega)).2.1
  have hinX3 : ∀ w ∈ wsX30, w ∈ wsX4_firstDueUntil := by decide +kernel
  have hinX4 : ∀ w ∈ wsX40, w ∈ wsX4_firstDueUntil := by decide +kernel
  refine g_null F dX4_firstDueUntil_0 ?_
  refine g_astore_nN F (lv1 := [(2, .null), (0, .ref (ad 14 r)), (1, .int t)]) dX4_firstDueUntil_1 rfl (by decide) rfl ?_
  refine g_iconst F dX4_firstDueUntil_2 (v := 0) (by decide) ?_
  refine g_istore_n F (lv1 := [(3, .int 0), (2, .null), (0, .ref (ad 14 r)), (1, .int t)]) dX4_firstDueUntil_3 rfl (by decide) rfl ?_
  refine g_loop ((Lx (5 + r)).length) 0 (by omega) (fun zk1 => (cw D ad cs σ Lx cap mk ev zl tx mt tn tc w0)) (fun zk1 => [(3, .int (nI zk1)), (2, (va_rf (Option.map (ad 17) (frL σ t ((Lx (5 + r)).take zk1))))), (0, .ref (ad 14 r)), (1, .int t)]) rfl (by rfl) ?_ (fun zk1 zhk3 zhk4 zih2 => ?_)
  ·
    show GG p l e _ s m _ below meth c D A ad dm _ _ _ _ (cw D ad cs σ Lx cap mk ev zl tx mt tn tc w0) 4 [(3, .int (nI ((Lx (5 + r)).length))), (2, (va_rf (Option.map (ad 17) (frL σ t ((Lx (5 + r)).take ((Lx (5 + r)).length)))))), (0, .ref (ad 14 r)), (1, .int t)] []
    rcases hqN : (frL σ t ((Lx (5 + r)).take ((Lx (5 + r)).length))) with _ | b
    ·
      show GG p l e _ s m _ below meth c D A ad dm _ _ _ _ (cw D ad cs σ Lx cap mk ev zl tx mt tn tc w0) 4 [(3, .int (nI ((Lx (5 + r)).length))), (2, .null), (0, .ref (ad 14 r)), (1, .int t)] []
      refine g_iload_n F 0 dX4_firstDueUntil_4 rfl rfl ?_
      refine g_aload_n F 2 dX4_firstDueUntil_5 rfl rfl ?_
      refine g_getf (k := 14) (i := r) (ci := 4) (C := RX4) (T := TX4) (N := 5) (fs := (cR ad σ r)) (fk := 4) F hinX4 (hC.2.2.2.2.1 r (by omega)) rfl rfl (by decide) (by decide +kernel) rfl rfl dX4_firstDueUntil_6 ?_
      refine q_callV F (C := RJx4a65c) (k := 15) (i := (5 + r)) (ci := 0) (T := TJx4a65c) (N := 3) (rest := [.int (nI ((Lx (5 + r)).length))]) [] (cl_size l D A cs ad dm σ Lx cap mk ev zl tx mt tn tc w0 n tq hC (5 + r) (by omega)) (cwV 0 F.1.2.2.2.2 gX4_firstDueUntil_Jx4a65c_size_8abf5 rfl rfl rfl (by decide +kernel) ⟨Nat.le_of_ble_eq_true rfl, Nat.le_of_ble_eq_true rfl⟩) rfl (hC.2.2.2.2.2.1 (5 + r) (by omega)) rfl rfl rfl rfl (Nat.le_of_ble_eq_true rfl) dX4_firstDueUntil_9 ⟨Nat.le_of_ble_eq_true rfl, Nat.le_of_ble_eq_true rfl⟩ (fun _ _ _ _ zv5 => ?_)
      obtain ⟨rfl, rfl, rfl, rfl⟩ := zv5
      show GG p l e _ s m _ below meth c D A ad dm _ _ _ _ (cw D ad cs σ Lx cap mk ev zl tx mt tn tc w0) 12 _ [.int (nI ((Lx (5 + r)).length)), .int (nI ((Lx (5 + r)).length))]
      refine g_icmp_ge F (tgt := 59) dX4_firstDueUntil_12 (by decide) (fun zc6 => ?_) (fun zc6 => ?_)
      ·
        refine g_aload_nN F 1 dX4_firstDueUntil_59 rfl rfl ?_
        exact g_qn F hr (.inl ⟨_, rfl⟩) hlocks (fun _ h => h) ⟨(congrArg some (by rw [List.take_length] at hqN; rw [hqN]; rfl)), rfl, rfl, rfl⟩ (by decide) (by decide) dX4_firstDueUntil_60
      ·
        exact absurd ((nI_leE (show (nI ((Lx (5 + r)).length)) = nI ((Lx (5 + r)).length) from rfl) (show (nI ((Lx (5 + r)).length)) = nI ((Lx (5 + r)).length) from rfl) (show (Lx (5 + r)).length < 2 ^ 31 by omega) (show (Lx (5 + r)).length < 2 ^ 31 by omega)).mpr (by omega)) zc6
    ·
      have hb9 := frL_lt (hlo (5 + r) (by omega)).2.2 hqN
      show GG p l e _ s m _ below meth c D A ad dm _ _ _ _ (cw D ad cs σ Lx cap mk ev zl tx mt tn tc w0) 4 [(3, .int (nI ((Lx (5 + r)).length))), (2, .ref (ad 17 b)), (0, .ref (ad 14 r)), (1, .int t)] []
      refine g_iload_n F 0 dX4_firstDueUntil_4 rfl rfl ?_
      refine g_aload_n F 2 dX4_firstDueUntil_5 rfl rfl ?_
      refine g_getf (k := 14) (i := r) (ci := 4) (C := RX4) (T := TX4) (N := 5) (fs := (cR ad σ r)) (fk := 4) F hinX4 (hC.2.2.2.2.1 r (by omega)) rfl rfl (by decide) (by decide +kernel) rfl rfl dX4_firstDueUntil_6 ?_
      refine q_callV F (C := RJx4a65c) (k := 15) (i := (5 + r)) (ci := 0) (T := TJx4a65c) (N := 3) (rest := [.int (nI ((Lx (5 + r)).length))]) [] (cl_size l D A cs ad dm σ Lx cap mk ev zl tx mt tn tc w0 n tq hC (5 + r) (by omega)) (cwV 0 F.1.2.2.2.2 gX4_firstDueUntil_Jx4a65c_size_8abf5 rfl rfl rfl (by decide +kernel) ⟨Nat.le_of_ble_eq_true rfl, Nat.le_of_ble_eq_true rfl⟩) rfl (hC.2.2.2.2.2.1 (5 + r) (by omega)) rfl rfl rfl rfl (Nat.le_of_ble_eq_true rfl) dX4_firstDueUntil_9 ⟨Nat.le_of_ble_eq_true rfl, Nat.le_of_ble_eq_true rfl⟩ (fun _ _ _ _ zv7 => ?_)
      obtain ⟨rfl, rfl, rfl, rfl⟩ := zv7
      show GG p l e _ s m _ below meth c D A ad dm _ _ _ _ (cw D ad cs σ Lx cap mk ev zl tx mt tn tc w0) 12 _ [.int (nI ((Lx (5 + r)).length)), .int (nI ((Lx (5 + r)).length))]
      refine g_icmp_ge F (tgt := 59) dX4_firstDueUntil_12 (by decide) (fun zc8 => ?_) (fun zc8 => ?_)
      ·
        refine g_aload_n F 1 dX4_firstDueUntil_59 rfl rfl ?_
        exact g_qa F hr (.inl ⟨_, rfl⟩) hlocks (fun _ h => h) ⟨(congrArg some (by rw [List.take_length] at hqN; rw [hqN]; rfl)), rfl, rfl, rfl⟩ (by decide) (by decide) dX4_firstDueUntil_60
      ·
        exact absurd ((nI_leE (show (nI ((Lx (5 + r)).length)) = nI ((Lx (5 + r)).length) from rfl) (show (nI ((Lx (5 + r)).length)) = nI ((Lx (5 + r)).length) from rfl) (show (Lx (5 + r)).length < 2 ^ 31 by omega) (show (Lx (5 + r)).length < 2 ^ 31 by omega)).mpr (by omega)) zc8
  ·
    replace zih2 : GG p l e _ s m _ below meth c D A ad dm _ _ _ _ (cw D ad cs σ Lx cap mk ev zl tx mt tn tc w0) 4 [(3, .int (nI (zk1 + 1))), (2, (va_rf (Option.map (ad 17) (frL σ t ((Lx (5 + r)).take (zk1 + 1)))))), (0, .ref (ad 14 r)), (1, .int t)] [] := zih2
    show GG p l e _ s m _ below meth c D A ad dm _ _ _ _ (cw D ad cs σ Lx cap mk ev zl tx mt tn tc w0) 4 [(3, .int (nI zk1)), (2, (va_rf (Option.map (ad 17) (frL σ t ((Lx (5 + r)).take zk1))))), (0, .ref (ad 14 r)), (1, .int t)] []
    rcases hqzk1 : (frL σ t ((Lx (5 + r)).take zk1)) with _ | b
    ·
      show GG p l e _ s m _ below meth c D A ad dm _ _ _ _ (cw D ad cs σ Lx cap mk ev zl tx mt tn tc w0) 4 [(3, .int (nI zk1)), (2, .null), (0, .ref (ad 14 r)), (1, .int t)] []
      refine g_iload_n F 0 dX4_firstDueUntil_4 rfl rfl ?_
      refine g_aload_n F 2 dX4_firstDueUntil_5 rfl rfl ?_
      refine g_getf (k := 14) (i := r) (ci := 4) (C := RX4) (T := TX4) (N := 5) (fs := (cR ad σ r)) (fk := 4) F hinX4 (hC.2.2.2.2.1 r (by omega)) rfl rfl (by decide) (by decide +kernel) rfl rfl dX4_firstDueUntil_6 ?_
      refine q_callV F (C := RJx4a65c) (k := 15) (i := (5 + r)) (ci := 0) (T := TJx4a65c) (N := 3) (rest := [.int (nI zk1)]) [] (cl_size l D A cs ad dm σ Lx cap mk ev zl tx mt tn tc w0 n tq hC (5 + r) (by omega)) (cwV 0 F.1.2.2.2.2 gX4_firstDueUntil_Jx4a65c_size_8abf5 rfl rfl rfl (by decide +kernel) ⟨Nat.le_of_ble_eq_true rfl, Nat.le_of_ble_eq_true rfl⟩) rfl (hC.2.2.2.2.2.1 (5 + r) (by omega)) rfl rfl rfl rfl (Nat.le_of_ble_eq_true rfl) dX4_firstDueUntil_9 ⟨Nat.le_of_ble_eq_true rfl, Nat.le_of_ble_eq_true rfl⟩ (fun _ _ _ _ zv9 => ?_)
      obtain ⟨rfl, rfl, rfl, rfl⟩ := zv9
      show GG p l e _ s m _ below meth c D A ad dm _ _ _ _ (cw D ad cs σ Lx cap mk ev zl tx mt tn tc w0) 12 _ [.int (nI ((Lx (5 + r)).length)), .int (nI zk1)]
      refine g_icmp_ge F (tgt := 59) dX4_firstDueUntil_12 (by decide) (fun zc10 => ?_) (fun zc10 => ?_)
      ·
        exact absurd ((nI_leE (show (nI ((Lx (5 + r)).length)) = nI ((Lx (5 + r)).length) from rfl) (show (nI zk1) = nI zk1 from rfl) (show (Lx (5 + r)).length < 2 ^ 31 by omega) (show zk1 < 2 ^ 31 by omega)).mp zc10) (by omega)
      ·
        refine g_aload_n F 2 dX4_firstDueUntil_15 rfl rfl ?_
        refine g_getf (k := 14) (i := r) (ci := 4) (C := RX4) (T := TX4) (N := 5) (fs := (cR ad σ r)) (fk := 4) F hinX4 (hC.2.2.2.2.1 r (by omega)) rfl rfl (by decide) (by decide +kernel) rfl rfl dX4_firstDueUntil_16 ?_
        refine g_iload_n F 0 dX4_firstDueUntil_19 rfl rfl ?_
        refine q_callV F (C := RJx4a65c) (k := 15) (i := (5 + r)) (ci := 0) (T := TJx4a65c) (N := 3) (rest := []) [.int (nI zk1)] (cl_getL l D A cs ad dm σ Lx cap mk ev zl tx mt tn tc w0 n tq hC (5 + r) zk1 hlo (by omega) (by omega)) (cwV 1 F.1.2.2.2.2 gX4_firstDueUntil_Jx4a65c_get_915e3 rfl rfl rfl (by decide +kernel) ⟨Nat.le_of_ble_eq_true rfl, Nat.le_of_ble_eq_true rfl⟩) rfl (hC.2.2.2.2.2.1 (5 + r) (by omega)) rfl rfl rfl rfl (Nat.le_of_ble_eq_true rfl) dX4_firstDueUntil_20 ⟨Nat.le_of_ble_eq_true rfl, Nat.le_of_ble_eq_true rfl⟩ (fun _ _ _ _ zv11 => ?_)
        obtain ⟨rfl, rfl, rfl, rfl⟩ := zv11
        have hg20 := hlo.get (i := (5 + r)) (a := zk1) (by omega) (by omega)
        show GG p l e _ s m _ below meth c D A ad dm _ _ _ _ (cw D ad cs σ Lx cap mk ev zl tx mt tn tc w0) 23 _ [.ref (ad 17 ((Lx (5 + r)).getD zk1 0))]
        refine ca_castM (i := ((Lx (5 + r)).getD zk1 0)) F hC (by omega) (by decide +kernel) dX4_firstDueUntil_23 ?_
        refine g_astore F (lv1 := [(4, .ref (ad 17 ((Lx (5 + r)).getD zk1 0))), (3, .int (nI zk1)), (2, .null), (0, .ref (ad 14 r)), (1, .int t)]) dX4_firstDueUntil_26 (by decide) rfl ?_
        refine g_aload F 0 dX4_firstDueUntil_28 rfl ?_
        refine g_getf (k := 17) (i := ((Lx (5 + r)).getD zk1 0)) (ci := 3) (C := RX3) (T := TX3) (N := 16) (fs := (cM ad σ mt ((Lx (5 + r)).getD zk1 0))) (fk := 13) F hinX3 (hC.2.2.2.2.2.2.2.1 ((Lx (5 + r)).getD zk1 0) (by omega)).1 rfl rfl (by decide) (by decide +kernel) rfl rfl dX4_firstDueUntil_30 ?_
        refine g_iload_n F 4 dX4_firstDueUntil_33 rfl rfl ?_
        refine g_icmp_gt F (tgt := 53) dX4_firstDueUntil_34 (by decide) (fun zc12 => ?_) (fun zc12 => ?_)
        ·
          refine g_iinc F (v := (nI (zk1 + 1))) (lv1 := [(3, .int (nI (zk1 + 1))), (4, .ref (ad 17 ((Lx (5 + r)).getD zk1 0))), (2, .null), (0, .ref (ad 14 r)), (1, .int t)]) 1 dX4_firstDueUntil_53 rfl (nI_1 zk1) (by decide) rfl ?_
          refine g_goto F (tgt := 4) dX4_firstDueUntil_56 (by decide) ?_
          exact g_lv [0, 2, 3, 4] (by rw [frL_s σ t zhk4, hqzk1, frT_skip zc12]; rfl) zih2
        ·
          refine g_aload_nN F 2 dX4_firstDueUntil_37 rfl rfl ?_
          refine g_ifnullN F (tgt := 50) dX4_firstDueUntil_38 (by decide) ?_
          refine g_aload F 0 dX4_firstDueUntil_50 rfl ?_
          refine g_astore_n F (lv1 := [(2, .ref (ad 17 ((Lx (5 + r)).getD zk1 0))), (4, .ref (ad 17 ((Lx (5 + r)).getD zk1 0))), (3, .int (nI zk1)), (0, .ref (ad 14 r)), (1, .int t)]) dX4_firstDueUntil_52 rfl (by decide) rfl ?_
          refine g_iinc F (v := (nI (zk1 + 1))) (lv1 := [(3, .int (nI (zk1 + 1))), (2, .ref (ad 17 ((Lx (5 + r)).getD zk1 0))), (4, .ref (ad 17 ((Lx (5 + r)).getD zk1 0))), (0, .ref (ad 14 r)), (1, .int t)]) 2 dX4_firstDueUntil_53 rfl (nI_1 zk1) (by decide) rfl ?_
          refine g_goto F (tgt := 4) dX4_firstDueUntil_56 (by decide) ?_
          exact g_lv [0, 1, 3, 4] (by rw [frL_s σ t zhk4, hqzk1, frT_none zc12]; rfl) zih2
    ·
      have hb9 := frL_lt (hlo (5 + r) (by omega)).2.2 hqzk1
      show GG p l e _ s m _ below meth c D A ad dm _ _ _ _ (cw D ad cs σ Lx cap mk ev zl tx mt tn tc w0) 4 [(3, .int (nI zk1)), (2, .ref (ad 17 b)), (0, .ref (ad 14 r)), (1, .int t)] []
      refine g_iload_n F 0 dX4_firstDueUntil_4 rfl rfl ?_
      refine g_aload_n F 2 dX4_firstDueUntil_5 rfl rfl ?_
      refine g_getf (k := 14) (i := r) (ci := 4) (C := RX4) (T := TX4) (N := 5) (fs := (cR ad σ r)) (fk := 4) F hinX4 (hC.2.2.2.2.1 r (by omega)) rfl rfl (by decide) (by decide +kernel) rfl rfl dX4_firstDueUntil_6 ?_
      refine q_callV F (C := RJx4a65c) (k := 15) (i := (5 + r)) (ci := 0) (T := TJx4a65c) (N := 3) (rest := [.int (nI zk1)]) [] (cl_size l D A cs ad dm σ Lx cap mk ev zl tx mt tn tc w0 n tq hC (5 + r) (by omega)) (cwV 0 F.1.2.2.2.2 gX4_firstDueUntil_Jx4a65c_size_8abf5 rfl rfl rfl (by decide +kernel) ⟨Nat.le_of_ble_eq_true rfl, Nat.le_of_ble_eq_true rfl⟩) rfl (hC.2.2.2.2.2.1 (5 + r) (by omega)) rfl rfl rfl rfl (Nat.le_of_ble_eq_true rfl) dX4_firstDueUntil_9 ⟨Nat.le_of_ble_eq_true rfl, Nat.le_of_ble_eq_true rfl⟩ (fun _ _ _ _ zv13 => ?_)
      obtain ⟨rfl, rfl, rfl, rfl⟩ := zv13
      show GG p l e _ s m _ below meth c D A ad dm _ _ _ _ (cw D ad cs σ Lx cap mk ev zl tx mt tn tc w0) 12 _ [.int (nI ((Lx (5 + r)).length)), .int (nI zk1)]
      refine g_icmp_ge F (tgt := 59) dX4_firstDueUntil_12 (by decide) (fun zc14 => ?_) (fun zc14 => ?_)
      ·
        exact absurd ((nI_leE (show (nI ((Lx (5 + r)).length)) = nI ((Lx (5 + r)).length) from rfl) (show (nI zk1) = nI zk1 from rfl) (show (Lx (5 + r)).length < 2 ^ 31 by omega) (show zk1 < 2 ^ 31 by omega)).mp zc14) (by omega)
      ·
        refine g_aload_n F 2 dX4_firstDueUntil_15 rfl rfl ?_
        refine g_getf (k := 14) (i := r) (ci := 4) (C := RX4) (T := TX4) (N := 5) (fs := (cR ad σ r)) (fk := 4) F hinX4 (hC.2.2.2.2.1 r (by omega)) rfl rfl (by decide) (by decide +kernel) rfl rfl dX4_firstDueUntil_16 ?_
        refine g_iload_n F 0 dX4_firstDueUntil_19 rfl rfl ?_
        refine q_callV F (C := RJx4a65c) (k := 15) (i := (5 + r)) (ci := 0) (T := TJx4a65c) (N := 3) (rest := []) [.int (nI zk1)] (cl_getL l D A cs ad dm σ Lx cap mk ev zl tx mt tn tc w0 n tq hC (5 + r) zk1 hlo (by omega) (by omega)) (cwV 1 F.1.2.2.2.2 gX4_firstDueUntil_Jx4a65c_get_915e3 rfl rfl rfl (by decide +kernel) ⟨Nat.le_of_ble_eq_true rfl, Nat.le_of_ble_eq_true rfl⟩) rfl (hC.2.2.2.2.2.1 (5 + r) (by omega)) rfl rfl rfl rfl (Nat.le_of_ble_eq_true rfl) dX4_firstDueUntil_20 ⟨Nat.le_of_ble_eq_true rfl, Nat.le_of_ble_eq_true rfl⟩ (fun _ _ _ _ zv15 => ?_)
        obtain ⟨rfl, rfl, rfl, rfl⟩ := zv15
        have hg20 := hlo.get (i := (5 + r)) (a := zk1) (by omega) (by omega)
        show GG p l e _ s m _ below meth c D A ad dm _ _ _ _ (cw D ad cs σ Lx cap mk ev zl tx mt tn tc w0) 23 _ [.ref (ad 17 ((Lx (5 + r)).getD zk1 0))]
        refine ca_castM (i := ((Lx (5 + r)).getD zk1 0)) F hC (by omega) (by decide +kernel) dX4_firstDueUntil_23 ?_
        refine g_astore F (lv1 := [(4, .ref (ad 17 ((Lx (5 + r)).getD zk1 0))), (3, .int (nI zk1)), (2, .ref (ad 17 b)), (0, .ref (ad 14 r)), (1, .int t)]) dX4_firstDueUntil_26 (by decide) rfl ?_
        refine g_aload F 0 dX4_firstDueUntil_28 rfl ?_
        refine g_getf (k := 17) (i := ((Lx (5 + r)).getD zk1 0)) (ci := 3) (C := RX3) (T := TX3) (N := 16) (fs := (cM ad σ mt ((Lx (5 + r)).getD zk1 0))) (fk := 13) F hinX3 (hC.2.2.2.2.2.2.2.1 ((Lx (5 + r)).getD zk1 0) (by omega)).1 rfl rfl (by decide) (by decide +kernel) rfl rfl dX4_firstDueUntil_30 ?_
        refine g_iload_n F 4 dX4_firstDueUntil_33 rfl rfl ?_
        refine g_icmp_gt F (tgt := 53) dX4_firstDueUntil_34 (by decide) (fun zc16 => ?_) (fun zc16 => ?_)
        ·
          refine g_iinc F (v := (nI (zk1 + 1))) (lv1 := [(3, .int (nI (zk1 + 1))), (4, .ref (ad 17 ((Lx (5 + r)).getD zk1 0))), (2, .ref (ad 17 b)), (0, .ref (ad 14 r)), (1, .int t)]) 1 dX4_firstDueUntil_53 rfl (nI_1 zk1) (by decide) rfl ?_
          refine g_goto F (tgt := 4) dX4_firstDueUntil_56 (by decide) ?_
          exact g_lv [0, 2, 3, 4] (by rw [frL_s σ t zhk4, hqzk1, frT_skip zc16]; rfl) zih2
        ·
          refine g_aload_n F 2 dX4_firstDueUntil_37 rfl rfl ?_
          refine g_ifnull F dX4_firstDueUntil_38 ?_
          refine g_aload F 0 dX4_firstDueUntil_41 rfl ?_
          refine g_aload_n F 2 dX4_firstDueUntil_43 rfl rfl ?_
          refine q_callV F (C := RX3) (k := 17) (i := ((Lx (5 + r)).getD zk1 0)) (ci := 3) (T := TX3) (N := 16) (rest := []) [.ref (ad 17 b)] (cc_before l D A cs ad dm σ Lx cap mk ev zl tx mt tn tc w0 n tq hC ((Lx (5 + r)).getD zk1 0) b (by omega) (by omega)) (cwV 1 F.1.2.2.2.2 gX4_firstDueUntil_X3_goesBefore rfl rfl rfl (by decide +kernel) ⟨Nat.le_of_ble_eq_true rfl, Nat.le_of_ble_eq_true rfl⟩) rfl (hC.2.2.2.2.2.2.2.1 ((Lx (5 + r)).getD zk1 0) (by omega)).1 rfl rfl rfl rfl (Nat.le_of_ble_eq_true rfl) dX4_firstDueUntil_44 ⟨Nat.le_of_ble_eq_true rfl, Nat.le_of_ble_eq_true rfl⟩ (fun _ _ _ _ zv17 => ?_)
          obtain ⟨rfl, rfl, rfl, rfl⟩ := zv17
          show GG p l e _ s m _ below meth c D A ad dm _ _ _ _ (cw D ad cs σ Lx cap mk ev zl tx mt tn tc w0) 47 _ [.int (bi ((¬ (σ 14 ((Lx (5 + r)).getD zk1 0)) = (σ 14 b) ∧ ¬ (σ 14 ((Lx (5 + r)).getD zk1 0)) ≤ (σ 14 b)) ∨ ((σ 14 ((Lx (5 + r)).getD zk1 0)) = (σ 14 b) ∧ ¬ (σ 26 b) ≤ (σ 26 ((Lx (5 + r)).getD zk1 0)))))]
          refine g_ifb_eq F (tgt := 53) dX4_firstDueUntil_47 (by decide) (fun zc18 => ?_) (fun zc18 => ?_)
          ·
            refine g_iinc F (v := (nI (zk1 + 1))) (lv1 := [(3, .int (nI (zk1 + 1))), (4, .ref (ad 17 ((Lx (5 + r)).getD zk1 0))), (2, .ref (ad 17 b)), (0, .ref (ad 14 r)), (1, .int t)]) 1 dX4_firstDueUntil_53 rfl (nI_1 zk1) (by decide) rfl ?_
            refine g_goto F (tgt := 4) dX4_firstDueUntil_56 (by decide) ?_
            exact g_lv [0, 2, 3, 4] (by rw [frL_s σ t zhk4, hqzk1, frT_n zc16 zc18]; rfl) zih2
          ·
            refine g_aload F 0 dX4_firstDueUntil_50 rfl ?_
            refine g_astore_n F (lv1 := [(2, .ref (ad 17 ((Lx (5 + r)).getD zk1 0))), (4, .ref (ad 17 ((Lx (5 + r)).getD zk1 0))), (3, .int (nI zk1)), (0, .ref (ad 14 r)), (1, .int t)]) dX4_firstDueUntil_52 rfl (by decide) rfl ?_
            refine g_iinc F (v := (nI (zk1 + 1))) (lv1 := [(3, .int (nI (zk1 + 1))), (2, .ref (ad 17 ((Lx (5 + r)).getD zk1 0))), (4, .ref (ad 17 ((Lx (5 + r)).getD zk1 0))), (0, .ref (ad 14 r)), (1, .int t)]) 2 dX4_firstDueUntil_53 rfl (nI_1 zk1) (by decide) rfl ?_
            refine g_goto F (tgt := 4) dX4_firstDueUntil_56 (by decide) ?_
            exact g_lv [0, 1, 3, 4] (by rw [frL_s σ t zhk4, hqzk1, frT_y zc16 zc18]; rfl) zih2
def ovN (o : Option Nat) : Int32 := match o with
  | none => -1
  | some j => nI j
set_option maxHeartbeats 4000000 in
set_option maxRecDepth 100000 in
theorem cc_next (l : Launch) (D : va_G) (A : Nat → Prop) (cs : Nat → ClassId) (ad : Nat → Nat → Nat) (dm : Nat → Nat → Prop) (σ : SG) (Lx : Nat → List Nat) (cap : Nat → Nat) (mk : Nat → Int32) (ev : SG) (zl tx mt tn : Nat → Nat) (tc : SG) (w0 : CF) (n tq : Nat) (hC : CD dm n cap tq) (v : Int32) (hlo : LO n Lx cap) (hfl : l.stackTraces = false) : vx_Met l yX5_next wsX5_next ({ frames := 7, cells := 1, slots := 6, locals := 111 }) (va_Pc [.ref (ad 10 0), .int v] (PW D A (tysG cs) ad dm (cw D ad cs σ Lx cap mk ev zl tx mt tn tc w0))) (QW D A (tysG cs) (fun rz ad1 dm1 w1 => (recP v) ∧ rz = some (.int (ovN (frL σ 2147483647 (Lx (5 + (ix v)))))) ∧ ad = ad1 ∧ dm = dm1 ∧ (cw D ad cs σ Lx cap mk ev zl tx mt tn tc w0) = w1)) (XW D A (tysG cs) ad dm (cw D ad cs σ Lx cap mk ev zl tx mt tn tc w0) (fun E => E = xIO ∧ ¬ recP v)) 1 6 A := by
  refine q_start (own := RX5) [.ref (ad 10 0), .int v] (cc := cX5_next) (maxL := 3) (ret := (some .int)) (lv0 := [(0, .ref (ad 10 0)), (1, .int v)]) (by decide) rfl rfl (Nat.le_of_ble_eq_true rfl) rfl ?_
  intro p e s m below meth c F hr hlocks hno
  have hinX3 : ∀ w ∈ wsX30, w ∈ wsX5_next := by decide +kernel
  refine g_aload_n F 0 dX5_next_0 rfl rfl ?_
  refine g_iload_n F 1 dX5_next_1 rfl rfl ?_
  refine x_callV F (C := RX5) (k := 10) (i := 0) (ci := 5) (T := TX5) (N := 4) (rest := []) [.int v] (cc_recipientAt l D A cs ad dm σ Lx cap mk ev zl tx mt tn tc w0 n tq hC v hfl) (cwV 1 F.1.2.2.2.2 gX5_next_X5_recipientAt rfl rfl rfl (by decide +kernel) ⟨Nat.le_of_ble_eq_true rfl, Nat.le_of_ble_eq_true rfl⟩) rfl hC.1 rfl rfl rfl rfl (Nat.le_of_ble_eq_true rfl) dX5_next_2 ⟨Nat.le_of_ble_eq_true rfl, Nat.le_of_ble_eq_true rfl⟩ (x_prop F hno hlocks (fun E h => h) (Nat.le_of_ble_eq_true rfl) (Nat.le_of_ble_eq_true rfl)) (fun _ _ _ _ zv1 => ?_)
  obtain ⟨hc2, rfl, rfl, rfl, rfl⟩ := zv1
  have hb2 := (ix_rec hc2).2
  show GG p l e _ s m _ below meth c D A ad dm _ _ _ _ (cw D ad cs σ Lx cap mk ev zl tx mt tn tc w0) 5 _ [.ref (ad 14 (ix v))]
  refine g_ldc F (v := 2147483647) dX5_next_5 (by decide +kernel) ?_
  refine q_callV F (C := RX4) (k := 14) (i := (ix v)) (ci := 4) (T := TX4) (N := 5) (rest := []) [.int 2147483647] (cc_first l D A cs ad dm σ Lx cap mk ev zl tx mt tn tc w0 n tq hC (ix v) 2147483647 (by omega) hlo) (cwV 1 F.1.2.2.2.2 gX5_next_X4_firstDueUntil rfl rfl rfl (by decide +kernel) ⟨Nat.le_of_ble_eq_true rfl, Nat.le_of_ble_eq_true rfl⟩) rfl (hC.2.2.2.2.1 (ix v) (by omega)) rfl rfl rfl rfl (Nat.le_of_ble_eq_true rfl) dX5_next_7 ⟨Nat.le_of_ble_eq_true rfl, Nat.le_of_ble_eq_true rfl⟩ (fun _ _ _ _ zv2 => ?_)
  obtain ⟨rfl, rfl, rfl, rfl⟩ := zv2
  show GG p l e _ s m _ below meth c D A ad dm _ _ _ _ (cw D ad cs σ Lx cap mk ev zl tx mt tn tc w0) 10 _ [(va_rf (Option.map (ad 17) (frL σ 2147483647 (Lx (5 + (ix v))))))]
  rcases hq9 : (frL σ 2147483647 (Lx (5 + (ix v)))) with _ | b
  ·
    show GG p l e _ s m _ below meth c D A ad dm _ _ _ _ (cw D ad cs σ Lx cap mk ev zl tx mt tn tc w0) 10 [(0, .ref (ad 10 0)), (1, .int v)] [.null]
    refine g_astore_nN F (lv1 := [(2, .null), (0, .ref (ad 10 0)), (1, .int v)]) dX5_next_10 rfl (by decide) rfl ?_
    refine g_aload_nN F 0 dX5_next_11 rfl rfl ?_
    refine g_ifnonnullN F dX5_next_12 ?_
    refine g_iconst F dX5_next_15 (v := -1) (by decide) ?_
    refine g_goto F (tgt := 23) dX5_next_16 (by decide) ?_
    exact x_qi F hr hlocks (fun _ h => h) ⟨hc2, (congrArg some (rfl)), rfl, rfl, rfl⟩ (by decide) (by decide) dX5_next_23
  ·
    have hb9 := frL_lt (k := (Lx (5 + (ix v))).length) (hlo (5 + (ix v)) (by omega)).2.2 (by rw [List.take_length]; exact hq9)
    show GG p l e _ s m _ below meth c D A ad dm _ _ _ _ (cw D ad cs σ Lx cap mk ev zl tx mt tn tc w0) 10 [(0, .ref (ad 10 0)), (1, .int v)] [.ref (ad 17 b)]
    refine g_astore_n F (lv1 := [(2, .ref (ad 17 b)), (0, .ref (ad 10 0)), (1, .int v)]) dX5_next_10 rfl (by decide) rfl ?_
    refine g_aload_n F 0 dX5_next_11 rfl rfl ?_
    refine g_ifnonnull F (tgt := 19) dX5_next_12 (by decide) ?_
    refine g_aload_n F 0 dX5_next_19 rfl rfl ?_
    refine g_getf (k := 17) (i := b) (ci := 3) (C := RX3) (T := TX3) (N := 16) (fs := (cM ad σ mt b)) (fk := 0) F hinX3 (hC.2.2.2.2.2.2.2.1 b (by omega)).1 rfl rfl (by decide) (by decide +kernel) rfl rfl dX5_next_20 ?_
    exact x_qi F hr hlocks (fun _ h => h) ⟨hc2, (congrArg some (rfl)), rfl, rfl, rfl⟩ (by decide) (by decide) dX5_next_23
abbrev knC (σ : SG) (a b k : Nat) : Prop := (ix (σ 12 k) = a ∧ ix (σ 13 k) = b) ∧ (σ 21 k) = (σ 5 a) ∧ ¬ 30 ≤ ((σ 0 0) - (σ 16 k))
def knH (σ : SG) (a b : Nat) : Nat → Option Nat
  | 0 => none
  | k + 1 => if knC σ a b k then some k else knH σ a b k
theorem knH_s (σ : SG) (a b k : Nat) : knH σ a b (k + 1) = if knC σ a b k then some k else knH σ a b k := rfl
def knO (σ : SG) (a b n : Nat) : Option Nat := if (σ 5 a) = (-1) then none else knH σ a b n
theorem knH_lt {σ : SG} {a b j : Nat} : ∀ {n : Nat}, knH σ a b n = some j → j < n
  | 0, h => by cases h
  | n + 1, h => by
    rw [knH_s] at h
    split at h
    · cases h; omega
    · have := knH_lt h; omega
theorem knO_lt {σ : SG} {a b n j : Nat} (h : knO σ a b n = some j) : j < n := by
  unfold knO at h
  split at h
  · cases h
  · exact knH_lt h
def thH (σ : SG) (a : Nat) : Nat → Int32
  | 0 => 0
  | k + 1 => if ix (σ 12 k) = a ∧ ¬ (σ 8 a) ≤ ((σ 0 0) - (σ 16 k)) then thH σ a k + 1 else thH σ a k
theorem thH_s (σ : SG) (a k : Nat) : thH σ a (k + 1) = if ix (σ 12 k) = a ∧ ¬ (σ 8 a) ≤ ((σ 0 0) - (σ 16 k)) then thH σ a k + 1 else thH σ a k := rfl
set_option maxHeartbeats 4000000 in
set_option maxRecDepth 100000 in
theorem cc_known (l : Launch) (D : va_G) (A : Nat → Prop) (cs : Nat → ClassId) (ad : Nat → Nat → Nat) (dm : Nat → Nat → Prop) (σ : SG) (Lx : Nat → List Nat) (cap : Nat → Nat) (mk : Nat → Int32) (ev : SG) (zl tx mt tn : Nat → Nat) (tc : SG) (w0 : CF) (n tq : Nat) (hC : CD dm n cap tq) (a b : Nat) (hn40 : n ≤ 40) (hL : Lx 0 = List.range n) (hlo : LO n Lx cap) (hrg : ∀ j, j < n → ix (σ 12 j) < 4 ∧ ix (σ 13 j) < 6) (ha : a < 4) (hb6 : b < 6) : Met l yX5_knownAgain wsX5_knownAgain ({ frames := 3, cells := 0, slots := 0, locals := 64 }) (va_Pc [.ref (ad 10 0), .ref (ad 13 a), .ref (ad 14 b)] (PW D A (tysG cs) ad dm (cw D ad cs σ Lx cap mk ev zl tx mt tn tc w0))) (QW D A (tysG cs) (fun rz ad1 dm1 w1 => rz = some ((va_rf ((knO σ a b n).map (ad 17)))) ∧ ad = ad1 ∧ dm = dm1 ∧ (cw D ad cs σ Lx cap mk ev zl tx mt tn tc w0) = w1)) 0 0 A := by
  refine g_start (own := RX5) [.ref (ad 10 0), .ref (ad 13 a), .ref (ad 14 b)] (cc := cX5_knownAgain) (maxL := 6) (ret := (some (.object "MessageCentre$Message"))) (lv0 := [(0, .ref (ad 10 0)), (1, .ref (ad 13 a)), (2, .ref (ad 14 b))]) (by decide) rfl rfl (Nat.le_of_ble_eq_true rfl) rfl ?_
  intro p e s m below meth c F hr hlocks hno
  have hinX0 : ∀ w ∈ wsX00, w ∈ wsX5_knownAgain := by decide +kernel
  have hinX3 : ∀ w ∈ wsX30, w ∈ wsX5_knownAgain := by decide +kernel
  have hinX5 : ∀ w ∈ wsX50, w ∈ wsX5_knownAgain := by decide +kernel
  refine g_aload_n F 1 dX5_knownAgain_0 rfl rfl ?_
  refine g_getf (k := 13) (i := a) (ci := 1) (C := RX0) (T := TX0) (N := 7) (fs := (cA ad σ tx a)) (fk := 2) F hinX0 (hC.2.2.2.1 a (by omega)) rfl rfl (by decide) (by decide +kernel) rfl rfl dX5_knownAgain_1 ?_
  refine g_iconst F dX5_knownAgain_4 (v := -1) (by decide) ?_
  refine g_icmp_ne F (tgt := 10) dX5_knownAgain_5 (by decide) (fun zc1 => ?_) (fun zc1 => ?_)
  ·
    refine g_null F dX5_knownAgain_10 ?_
    refine g_astore_nN F (lv1 := [(3, .null), (0, .ref (ad 10 0)), (1, .ref (ad 13 a)), (2, .ref (ad 14 b))]) dX5_knownAgain_11 rfl (by decide) rfl ?_
    refine g_iconst F dX5_knownAgain_12 (v := 0) (by decide) ?_
    refine g_istore F (lv1 := [(4, .int 0), (3, .null), (0, .ref (ad 10 0)), (1, .ref (ad 13 a)), (2, .ref (ad 14 b))]) dX5_knownAgain_13 (by decide) rfl ?_
    refine g_loop n 0 (by omega) (fun zk2 => (cw D ad cs σ Lx cap mk ev zl tx mt tn tc w0)) (fun zk2 => [(4, .int (nI zk2)), (3, (va_rf (Option.map (ad 17) (knH σ a b zk2)))), (0, .ref (ad 10 0)), (1, .ref (ad 13 a)), (2, .ref (ad 14 b))]) rfl (by rfl) ?_ (fun zk2 zhk4 zhk5 zih3 => ?_)
    ·
      show GG p l e _ s m _ below meth c D A ad dm _ _ _ _ (cw D ad cs σ Lx cap mk ev zl tx mt tn tc w0) 15 [(4, .int (nI n)), (3, (va_rf (Option.map (ad 17) (knH σ a b n)))), (0, .ref (ad 10 0)), (1, .ref (ad 13 a)), (2, .ref (ad 14 b))] []
      rcases hq9 : knH σ a b n with _ | b9
      ·
        show GG p l e _ s m _ below meth c D A ad dm _ _ _ _ (cw D ad cs σ Lx cap mk ev zl tx mt tn tc w0) 15 [(4, .int (nI n)), (3, .null), (0, .ref (ad 10 0)), (1, .ref (ad 13 a)), (2, .ref (ad 14 b))] []
        refine g_iload F 0 dX5_knownAgain_15 rfl ?_
        refine g_aload_n F 2 dX5_knownAgain_17 rfl rfl ?_
        refine g_getf (k := 10) (i := 0) (ci := 5) (C := RX5) (T := TX5) (N := 4) (fs := (cO ad σ)) (fk := 2) F hinX5 hC.1 rfl rfl (by decide) (by decide +kernel) rfl rfl dX5_knownAgain_18 ?_
        refine q_callV F (C := RJx4a65c) (k := 15) (i := 0) (ci := 0) (T := TJx4a65c) (N := 3) (rest := [.int (nI n)]) [] (cl_size0 l D A cs ad dm σ Lx cap mk ev zl tx mt tn tc w0 n tq hC hn40 hL hlo) (cwV 0 F.1.2.2.2.2 gX5_knownAgain_Jx4a65c_size_8abf5 rfl rfl rfl (by decide +kernel) ⟨Nat.le_of_ble_eq_true rfl, Nat.le_of_ble_eq_true rfl⟩) rfl (hC.2.2.2.2.2.1 0 (by omega)) rfl rfl rfl rfl (Nat.le_of_ble_eq_true rfl) dX5_knownAgain_21 ⟨Nat.le_of_ble_eq_true rfl, Nat.le_of_ble_eq_true rfl⟩ (fun _ _ _ _ zv6 => ?_)
        obtain ⟨rfl, rfl, rfl, rfl⟩ := zv6
        show GG p l e _ s m _ below meth c D A ad dm _ _ _ _ (cw D ad cs σ Lx cap mk ev zl tx mt tn tc w0) 24 _ [.int (nI n), .int (nI n)]
        refine g_icmp_ge F (tgt := 87) dX5_knownAgain_24 (by decide) (fun zc7 => ?_) (fun zc7 => ?_)
        ·
          refine g_aload_nN F 1 dX5_knownAgain_87 rfl rfl ?_
          exact g_qn F hr (.inl ⟨_, rfl⟩) hlocks (fun _ h => h) ⟨(congrArg some (by unfold knO; rw [if_neg zc1]; rw [hq9]; rfl)), rfl, rfl, rfl⟩ (by decide) (by decide) dX5_knownAgain_88
        ·
          exact absurd ((nI_leE (show (nI n) = nI n from rfl) (show (nI n) = nI n from rfl) (show n < 2 ^ 31 by omega) (show n < 2 ^ 31 by omega)).mpr (by omega)) zc7
      ·
        show GG p l e _ s m _ below meth c D A ad dm _ _ _ _ (cw D ad cs σ Lx cap mk ev zl tx mt tn tc w0) 15 [(4, .int (nI n)), (3, .ref (ad 17 b9)), (0, .ref (ad 10 0)), (1, .ref (ad 13 a)), (2, .ref (ad 14 b))] []
        refine g_iload F 0 dX5_knownAgain_15 rfl ?_
        refine g_aload_n F 2 dX5_knownAgain_17 rfl rfl ?_
        refine g_getf (k := 10) (i := 0) (ci := 5) (C := RX5) (T := TX5) (N := 4) (fs := (cO ad σ)) (fk := 2) F hinX5 hC.1 rfl rfl (by decide) (by decide +kernel) rfl rfl dX5_knownAgain_18 ?_
        refine q_callV F (C := RJx4a65c) (k := 15) (i := 0) (ci := 0) (T := TJx4a65c) (N := 3) (rest := [.int (nI n)]) [] (cl_size0 l D A cs ad dm σ Lx cap mk ev zl tx mt tn tc w0 n tq hC hn40 hL hlo) (cwV 0 F.1.2.2.2.2 gX5_knownAgain_Jx4a65c_size_8abf5 rfl rfl rfl (by decide +kernel) ⟨Nat.le_of_ble_eq_true rfl, Nat.le_of_ble_eq_true rfl⟩) rfl (hC.2.2.2.2.2.1 0 (by omega)) rfl rfl rfl rfl (Nat.le_of_ble_eq_true rfl) dX5_knownAgain_21 ⟨Nat.le_of_ble_eq_true rfl, Nat.le_of_ble_eq_true rfl⟩ (fun _ _ _ _ zv8 => ?_)
        obtain ⟨rfl, rfl, rfl, rfl⟩ := zv8
        show GG p l e _ s m _ below meth c D A ad dm _ _ _ _ (cw D ad cs σ Lx cap mk ev zl tx mt tn tc w0) 24 _ [.int (nI n), .int (nI n)]
        refine g_icmp_ge F (tgt := 87) dX5_knownAgain_24 (by decide) (fun zc9 => ?_) (fun zc9 => ?_)
        ·
          refine g_aload_n F 1 dX5_knownAgain_87 rfl rfl ?_
          exact g_qa F hr (.inl ⟨_, rfl⟩) hlocks (fun _ h => h) ⟨(congrArg some (by unfold knO; rw [if_neg zc1]; rw [hq9]; rfl)), rfl, rfl, rfl⟩ (by decide) (by decide) dX5_knownAgain_88
        ·
          exact absurd ((nI_leE (show (nI n) = nI n from rfl) (show (nI n) = nI n from rfl) (show n < 2 ^ 31 by omega) (show n < 2 ^ 31 by omega)).mpr (by omega)) zc9
    ·
      replace zih3 : GG p l e _ s m _ below meth c D A ad dm _ _ _ _ (cw D ad cs σ Lx cap mk ev zl tx mt tn tc w0) 15 [(4, .int (nI (zk2 + 1))), (3, (va_rf (Option.map (ad 17) (knH σ a b (zk2 + 1))))), (0, .ref (ad 10 0)), (1, .ref (ad 13 a)), (2, .ref (ad 14 b))] [] := zih3
      show GG p l e _ s m _ below meth c D A ad dm _ _ _ _ (cw D ad cs σ Lx cap mk ev zl tx mt tn tc w0) 15 [(4, .int (nI zk2)), (3, (va_rf (Option.map (ad 17) (knH σ a b zk2)))), (0, .ref (ad 10 0)), (1, .ref (ad 13 a)), (2, .ref (ad 14 b))] []
      refine g_iload F 0 dX5_knownAgain_15 rfl ?_
      refine g_aload_n F 2 dX5_knownAgain_17 rfl rfl ?_
      refine g_getf (k := 10) (i := 0) (ci := 5) (C := RX5) (T := TX5) (N := 4) (fs := (cO ad σ)) (fk := 2) F hinX5 hC.1 rfl rfl (by decide) (by decide +kernel) rfl rfl dX5_knownAgain_18 ?_
      refine q_callV F (C := RJx4a65c) (k := 15) (i := 0) (ci := 0) (T := TJx4a65c) (N := 3) (rest := [.int (nI zk2)]) [] (cl_size0 l D A cs ad dm σ Lx cap mk ev zl tx mt tn tc w0 n tq hC hn40 hL hlo) (cwV 0 F.1.2.2.2.2 gX5_knownAgain_Jx4a65c_size_8abf5 rfl rfl rfl (by decide +kernel) ⟨Nat.le_of_ble_eq_true rfl, Nat.le_of_ble_eq_true rfl⟩) rfl (hC.2.2.2.2.2.1 0 (by omega)) rfl rfl rfl rfl (Nat.le_of_ble_eq_true rfl) dX5_knownAgain_21 ⟨Nat.le_of_ble_eq_true rfl, Nat.le_of_ble_eq_true rfl⟩ (fun _ _ _ _ zv10 => ?_)
      obtain ⟨rfl, rfl, rfl, rfl⟩ := zv10
      show GG p l e _ s m _ below meth c D A ad dm _ _ _ _ (cw D ad cs σ Lx cap mk ev zl tx mt tn tc w0) 24 _ [.int (nI n), .int (nI zk2)]
      refine g_icmp_ge F (tgt := 87) dX5_knownAgain_24 (by decide) (fun zc11 => ?_) (fun zc11 => ?_)
      ·
        exact absurd ((nI_leE (show (nI n) = nI n from rfl) (show (nI zk2) = nI zk2 from rfl) (show n < 2 ^ 31 by omega) (show zk2 < 2 ^ 31 by omega)).mp zc11) (by omega)
      ·
        refine g_aload_n F 2 dX5_knownAgain_27 rfl rfl ?_
        refine g_getf (k := 10) (i := 0) (ci := 5) (C := RX5) (T := TX5) (N := 4) (fs := (cO ad σ)) (fk := 2) F hinX5 hC.1 rfl rfl (by decide) (by decide +kernel) rfl rfl dX5_knownAgain_28 ?_
        refine g_iload F 0 dX5_knownAgain_31 rfl ?_
        refine q_callV F (C := RJx4a65c) (k := 15) (i := 0) (ci := 0) (T := TJx4a65c) (N := 3) (rest := []) [.int (nI zk2)] (cl_get0 l D A cs ad dm σ Lx cap mk ev zl tx mt tn tc w0 n tq hC zk2 hn40 hL hlo (by omega)) (cwV 1 F.1.2.2.2.2 gX5_knownAgain_Jx4a65c_get_915e3 rfl rfl rfl (by decide +kernel) ⟨Nat.le_of_ble_eq_true rfl, Nat.le_of_ble_eq_true rfl⟩) rfl (hC.2.2.2.2.2.1 0 (by omega)) rfl rfl rfl rfl (Nat.le_of_ble_eq_true rfl) dX5_knownAgain_33 ⟨Nat.le_of_ble_eq_true rfl, Nat.le_of_ble_eq_true rfl⟩ (fun _ _ _ _ zv12 => ?_)
        obtain ⟨rfl, rfl, rfl, rfl⟩ := zv12
        show GG p l e _ s m _ below meth c D A ad dm _ _ _ _ (cw D ad cs σ Lx cap mk ev zl tx mt tn tc w0) 36 _ [.ref (ad 17 zk2)]
        refine ca_castM (i := zk2) F hC (by omega) (by decide +kernel) dX5_knownAgain_36 ?_
        refine g_astore F (lv1 := [(5, .ref (ad 17 zk2)), (4, .int (nI zk2)), (3, (va_rf (Option.map (ad 17) (knH σ a b zk2)))), (0, .ref (ad 10 0)), (1, .ref (ad 13 a)), (2, .ref (ad 14 b))]) dX5_knownAgain_39 (by decide) rfl ?_
        refine g_aload F 0 dX5_knownAgain_41 rfl ?_
        refine g_aload_n F 4 dX5_knownAgain_43 rfl rfl ?_
        refine g_aload_n F 5 dX5_knownAgain_44 rfl rfl ?_
        refine q_callV F (C := RX3) (k := 17) (i := zk2) (ci := 3) (T := TX3) (N := 16) (rest := []) [.ref (ad 13 a), .ref (ad 14 b)] (cc_between l D A cs ad dm σ Lx cap mk ev zl tx mt tn tc w0 n tq hC zk2 a b (by omega) ha hb6 (hrg zk2 (by omega)).1 (hrg zk2 (by omega)).2) (cwV 2 F.1.2.2.2.2 gX5_knownAgain_X3_goesBetween rfl rfl rfl (by decide +kernel) ⟨Nat.le_of_ble_eq_true rfl, Nat.le_of_ble_eq_true rfl⟩) rfl (hC.2.2.2.2.2.2.2.1 zk2 (by omega)).1 rfl rfl rfl rfl (Nat.le_of_ble_eq_true rfl) dX5_knownAgain_45 ⟨Nat.le_of_ble_eq_true rfl, Nat.le_of_ble_eq_true rfl⟩ (fun _ _ _ _ zv13 => ?_)
        obtain ⟨rfl, rfl, rfl, rfl⟩ := zv13
        show GG p l e _ s m _ below meth c D A ad dm _ _ _ _ (cw D ad cs σ Lx cap mk ev zl tx mt tn tc w0) 48 _ [.int (bi (ix (σ 12 zk2) = a ∧ ix (σ 13 zk2) = b))]
        refine g_ifb_eq F (tgt := 81) dX5_knownAgain_48 (by decide) (fun zc14 => ?_) (fun zc14 => ?_)
        ·
          refine g_iinc F (v := (nI (zk2 + 1))) (lv1 := [(4, .int (nI (zk2 + 1))), (5, .ref (ad 17 zk2)), (3, (va_rf (Option.map (ad 17) (knH σ a b zk2)))), (0, .ref (ad 10 0)), (1, .ref (ad 13 a)), (2, .ref (ad 14 b))]) 1 dX5_knownAgain_81 rfl (nI_1 zk2) (by decide) (by generalize (knH σ a b zk2) = o9; cases o9 <;> rfl) ?_
          refine g_goto F (tgt := 15) dX5_knownAgain_84 (by decide) ?_
          exact g_lv [0, 2, 3, 4, 5] (by rw [knH_s, if_neg (fun q => zc14 q.1)]; rfl) zih3
        ·
          refine g_aload F 0 dX5_knownAgain_51 rfl ?_
          refine g_getf (k := 17) (i := zk2) (ci := 3) (C := RX3) (T := TX3) (N := 16) (fs := (cM ad σ mt zk2)) (fk := 5) F hinX3 (hC.2.2.2.2.2.2.2.1 zk2 (by omega)).1 rfl rfl (by decide) (by decide +kernel) rfl rfl dX5_knownAgain_53 ?_
          refine g_aload_n F 4 dX5_knownAgain_56 rfl rfl ?_
          refine g_getf (k := 13) (i := a) (ci := 1) (C := RX0) (T := TX0) (N := 7) (fs := (cA ad σ tx a)) (fk := 2) F hinX0 (hC.2.2.2.1 a (by omega)) rfl rfl (by decide) (by decide +kernel) rfl rfl dX5_knownAgain_57 ?_
          refine g_icmp_ne F (tgt := 81) dX5_knownAgain_60 (by decide) (fun zc15 => ?_) (fun zc15 => ?_)
          ·
            refine g_iinc F (v := (nI (zk2 + 1))) (lv1 := [(4, .int (nI (zk2 + 1))), (5, .ref (ad 17 zk2)), (3, (va_rf (Option.map (ad 17) (knH σ a b zk2)))), (0, .ref (ad 10 0)), (1, .ref (ad 13 a)), (2, .ref (ad 14 b))]) 1 dX5_knownAgain_81 rfl (nI_1 zk2) (by decide) (by generalize (knH σ a b zk2) = o9; cases o9 <;> rfl) ?_
            refine g_goto F (tgt := 15) dX5_knownAgain_84 (by decide) ?_
            exact g_lv [0, 2, 3, 4, 5] (by rw [knH_s, if_neg (fun q => zc15 q.2.1)]; rfl) zih3
          ·
            refine g_aload_n F 3 dX5_knownAgain_63 rfl rfl ?_
            refine g_getf (k := 10) (i := 0) (ci := 5) (C := RX5) (T := TX5) (N := 4) (fs := (cO ad σ)) (fk := 3) F hinX5 hC.1 rfl rfl (by decide) (by decide +kernel) rfl rfl dX5_knownAgain_64 ?_
            refine g_aload F 0 dX5_knownAgain_67 rfl ?_
            refine g_getf (k := 17) (i := zk2) (ci := 3) (C := RX3) (T := TX3) (N := 16) (fs := (cM ad σ mt zk2)) (fk := 9) F hinX3 (hC.2.2.2.2.2.2.2.1 zk2 (by omega)).1 rfl rfl (by decide) (by decide +kernel) rfl rfl dX5_knownAgain_69 ?_
            refine g_isub F dX5_knownAgain_72 ?_
            refine g_bipush F dX5_knownAgain_73 (v := 30) (by decide) ?_
            refine g_icmp_ge F (tgt := 81) dX5_knownAgain_75 (by decide) (fun zc16 => ?_) (fun zc16 => ?_)
            ·
              refine g_iinc F (v := (nI (zk2 + 1))) (lv1 := [(4, .int (nI (zk2 + 1))), (5, .ref (ad 17 zk2)), (3, (va_rf (Option.map (ad 17) (knH σ a b zk2)))), (0, .ref (ad 10 0)), (1, .ref (ad 13 a)), (2, .ref (ad 14 b))]) 1 dX5_knownAgain_81 rfl (nI_1 zk2) (by decide) (by generalize (knH σ a b zk2) = o9; cases o9 <;> rfl) ?_
              refine g_goto F (tgt := 15) dX5_knownAgain_84 (by decide) ?_
              exact g_lv [0, 2, 3, 4, 5] (by rw [knH_s, if_neg (fun q => q.2.2 zc16)]; rfl) zih3
            ·
              refine g_aload F 0 dX5_knownAgain_78 rfl ?_
              refine g_astore_n F (lv1 := [(3, .ref (ad 17 zk2)), (5, .ref (ad 17 zk2)), (4, .int (nI zk2)), (0, .ref (ad 10 0)), (1, .ref (ad 13 a)), (2, .ref (ad 14 b))]) dX5_knownAgain_80 rfl (by decide) rfl ?_
              refine g_iinc F (v := (nI (zk2 + 1))) (lv1 := [(4, .int (nI (zk2 + 1))), (3, .ref (ad 17 zk2)), (5, .ref (ad 17 zk2)), (0, .ref (ad 10 0)), (1, .ref (ad 13 a)), (2, .ref (ad 14 b))]) 2 dX5_knownAgain_81 rfl (nI_1 zk2) (by decide) rfl ?_
              refine g_goto F (tgt := 15) dX5_knownAgain_84 (by decide) ?_
              exact g_lv [0, 1, 3, 4, 5] (by rw [knH_s, if_pos ⟨zc14, zc15, zc16⟩]; rfl) zih3
  ·
    refine g_null F dX5_knownAgain_8 ?_
    exact g_qn F hr (.inl ⟨_, rfl⟩) hlocks (fun _ h => h) ⟨(congrArg some (by unfold knO; rw [if_pos zc1]; rfl)), rfl, rfl, rfl⟩ (by decide) (by decide) dX5_knownAgain_9
set_option maxHeartbeats 4000000 in
set_option maxRecDepth 100000 in
theorem cc_throttled (l : Launch) (D : va_G) (A : Nat → Prop) (cs : Nat → ClassId) (ad : Nat → Nat → Nat) (dm : Nat → Nat → Prop) (σ : SG) (Lx : Nat → List Nat) (cap : Nat → Nat) (mk : Nat → Int32) (ev : SG) (zl tx mt tn : Nat → Nat) (tc : SG) (w0 : CF) (n tq : Nat) (hC : CD dm n cap tq) (a : Nat) (hn40 : n ≤ 40) (hL : Lx 0 = List.range n) (hlo : LO n Lx cap) (hrg : ∀ j, j < n → ix (σ 12 j) < 4 ∧ ix (σ 13 j) < 6) (ha : a < 4) : Met l yX5_isThrottled wsX5_isThrottled ({ frames := 3, cells := 0, slots := 0, locals := 64 }) (va_Pc [.ref (ad 10 0), .ref (ad 13 a)] (PW D A (tysG cs) ad dm (cw D ad cs σ Lx cap mk ev zl tx mt tn tc w0))) (QW D A (tysG cs) (fun rz ad1 dm1 w1 => rz = some (.int (bi (¬ (thH σ a n) < (σ 7 a)))) ∧ ad = ad1 ∧ dm = dm1 ∧ (cw D ad cs σ Lx cap mk ev zl tx mt tn tc w0) = w1)) 0 0 A := by
  refine g_start (own := RX5) [.ref (ad 10 0), .ref (ad 13 a)] (cc := cX5_isThrottled) (maxL := 5) (ret := (some .boolean)) (lv0 := [(0, .ref (ad 10 0)), (1, .ref (ad 13 a))]) (by decide) rfl rfl (Nat.le_of_ble_eq_true rfl) rfl ?_
  intro p e s m below meth c F hr hlocks hno
  have hinX0 : ∀ w ∈ wsX00, w ∈ wsX5_isThrottled := by decide +kernel
  have hinX3 : ∀ w ∈ wsX30, w ∈ wsX5_isThrottled := by decide +kernel
  have hinX5 : ∀ w ∈ wsX50, w ∈ wsX5_isThrottled := by decide +kernel
  refine g_iconst F dX5_isThrottled_0 (v := 0) (by decide) ?_
  refine g_istore_n F (lv1 := [(2, .int 0), (0, .ref (ad 10 0)), (1, .ref (ad 13 a))]) dX5_isThrottled_1 rfl (by decide) rfl ?_
  refine g_iconst F dX5_isThrottled_2 (v := 0) (by decide) ?_
  refine g_istore_n F (lv1 := [(3, .int 0), (2, .int 0), (0, .ref (ad 10 0)), (1, .ref (ad 13 a))]) dX5_isThrottled_3 rfl (by decide) rfl ?_
  refine g_loop n 0 (by omega) (fun zk1 => (cw D ad cs σ Lx cap mk ev zl tx mt tn tc w0)) (fun zk1 => [(3, .int (nI zk1)), (2, .int (thH σ a zk1)), (0, .ref (ad 10 0)), (1, .ref (ad 13 a))]) rfl rfl ?_ (fun zk1 zhk3 zhk4 zih2 => ?_)
  ·
    show GG p l e _ s m _ below meth c D A ad dm _ _ _ _ (cw D ad cs σ Lx cap mk ev zl tx mt tn tc w0) 4 [(3, .int (nI n)), (2, .int (thH σ a n)), (0, .ref (ad 10 0)), (1, .ref (ad 13 a))] []
    refine g_iload_n F 0 dX5_isThrottled_4 rfl rfl ?_
    refine g_aload_n F 2 dX5_isThrottled_5 rfl rfl ?_
    refine g_getf (k := 10) (i := 0) (ci := 5) (C := RX5) (T := TX5) (N := 4) (fs := (cO ad σ)) (fk := 2) F hinX5 hC.1 rfl rfl (by decide) (by decide +kernel) rfl rfl dX5_isThrottled_6 ?_
    refine q_callV F (C := RJx4a65c) (k := 15) (i := 0) (ci := 0) (T := TJx4a65c) (N := 3) (rest := [.int (nI n)]) [] (cl_size0 l D A cs ad dm σ Lx cap mk ev zl tx mt tn tc w0 n tq hC hn40 hL hlo) (cwV 0 F.1.2.2.2.2 gX5_isThrottled_Jx4a65c_size_8abf5 rfl rfl rfl (by decide +kernel) ⟨Nat.le_of_ble_eq_true rfl, Nat.le_of_ble_eq_true rfl⟩) rfl (hC.2.2.2.2.2.1 0 (by omega)) rfl rfl rfl rfl (Nat.le_of_ble_eq_true rfl) dX5_isThrottled_9 ⟨Nat.le_of_ble_eq_true rfl, Nat.le_of_ble_eq_true rfl⟩ (fun _ _ _ _ zv5 => ?_)
    obtain ⟨rfl, rfl, rfl, rfl⟩ := zv5
    show GG p l e _ s m _ below meth c D A ad dm _ _ _ _ (cw D ad cs σ Lx cap mk ev zl tx mt tn tc w0) 12 _ [.int (nI n), .int (nI n)]
    refine g_icmp_ge F (tgt := 63) dX5_isThrottled_12 (by decide) (fun zc6 => ?_) (fun zc6 => ?_)
    ·
      refine g_iload_n F 1 dX5_isThrottled_63 rfl rfl ?_
      refine g_aload_n F 3 dX5_isThrottled_64 rfl rfl ?_
      refine g_getf (k := 13) (i := a) (ci := 1) (C := RX0) (T := TX0) (N := 7) (fs := (cA ad σ tx a)) (fk := 4) F hinX0 (hC.2.2.2.1 a (by omega)) rfl rfl (by decide) (by decide +kernel) rfl rfl dX5_isThrottled_65 ?_
      refine g_cut (w2 := (cw D ad cs σ Lx cap mk ev zl tx mt tn tc w0)) (pc2 := 76) (lv2 := [(3, .int (nI n)), (2, .int (thH σ a n)), (0, .ref (ad 10 0)), (1, .ref (ad 13 a))]) (st2 := [.int (bi (¬ (thH σ a n) < (σ 7 a)))]) ?_ (fun zhJ7 => ?_)
      ·
        exact g_qz F hr (bi_nar _) hlocks (fun _ h => h) ⟨rfl, rfl, rfl, rfl⟩ (by decide) (by decide) dX5_isThrottled_76
      ·
        refine g_icmp_lt F (tgt := 75) dX5_isThrottled_68 (by decide) (fun zc8 => ?_) (fun zc8 => ?_)
        ·
          refine g_iconst F dX5_isThrottled_75 (v := 0) (by decide) ?_
          exact g_top (bi_f (fun q => q zc8)) zhJ7
        ·
          refine g_iconst F dX5_isThrottled_71 (v := 1) (by decide) ?_
          refine g_goto F (tgt := 76) dX5_isThrottled_72 (by decide) ?_
          exact g_top (bi_t zc8) zhJ7
    ·
      exact absurd ((nI_leE (show (nI n) = nI n from rfl) (show (nI n) = nI n from rfl) (show n < 2 ^ 31 by omega) (show n < 2 ^ 31 by omega)).mpr (by omega)) zc6
  ·
    replace zih2 : GG p l e _ s m _ below meth c D A ad dm _ _ _ _ (cw D ad cs σ Lx cap mk ev zl tx mt tn tc w0) 4 [(3, .int (nI (zk1 + 1))), (2, .int (thH σ a (zk1 + 1))), (0, .ref (ad 10 0)), (1, .ref (ad 13 a))] [] := zih2
    show GG p l e _ s m _ below meth c D A ad dm _ _ _ _ (cw D ad cs σ Lx cap mk ev zl tx mt tn tc w0) 4 [(3, .int (nI zk1)), (2, .int (thH σ a zk1)), (0, .ref (ad 10 0)), (1, .ref (ad 13 a))] []
    refine g_iload_n F 0 dX5_isThrottled_4 rfl rfl ?_
    refine g_aload_n F 2 dX5_isThrottled_5 rfl rfl ?_
    refine g_getf (k := 10) (i := 0) (ci := 5) (C := RX5) (T := TX5) (N := 4) (fs := (cO ad σ)) (fk := 2) F hinX5 hC.1 rfl rfl (by decide) (by decide +kernel) rfl rfl dX5_isThrottled_6 ?_
    refine q_callV F (C := RJx4a65c) (k := 15) (i := 0) (ci := 0) (T := TJx4a65c) (N := 3) (rest := [.int (nI zk1)]) [] (cl_size0 l D A cs ad dm σ Lx cap mk ev zl tx mt tn tc w0 n tq hC hn40 hL hlo) (cwV 0 F.1.2.2.2.2 gX5_isThrottled_Jx4a65c_size_8abf5 rfl rfl rfl (by decide +kernel) ⟨Nat.le_of_ble_eq_true rfl, Nat.le_of_ble_eq_true rfl⟩) rfl (hC.2.2.2.2.2.1 0 (by omega)) rfl rfl rfl rfl (Nat.le_of_ble_eq_true rfl) dX5_isThrottled_9 ⟨Nat.le_of_ble_eq_true rfl, Nat.le_of_ble_eq_true rfl⟩ (fun _ _ _ _ zv9 => ?_)
    obtain ⟨rfl, rfl, rfl, rfl⟩ := zv9
    show GG p l e _ s m _ below meth c D A ad dm _ _ _ _ (cw D ad cs σ Lx cap mk ev zl tx mt tn tc w0) 12 _ [.int (nI n), .int (nI zk1)]
    refine g_icmp_ge F (tgt := 63) dX5_isThrottled_12 (by decide) (fun zc10 => ?_) (fun zc10 => ?_)
    ·
      exact absurd ((nI_leE (show (nI n) = nI n from rfl) (show (nI zk1) = nI zk1 from rfl) (show n < 2 ^ 31 by omega) (show zk1 < 2 ^ 31 by omega)).mp zc10) (by omega)
    ·
      refine g_aload_n F 2 dX5_isThrottled_15 rfl rfl ?_
      refine g_getf (k := 10) (i := 0) (ci := 5) (C := RX5) (T := TX5) (N := 4) (fs := (cO ad σ)) (fk := 2) F hinX5 hC.1 rfl rfl (by decide) (by decide +kernel) rfl rfl dX5_isThrottled_16 ?_
      refine g_iload_n F 0 dX5_isThrottled_19 rfl rfl ?_
      refine q_callV F (C := RJx4a65c) (k := 15) (i := 0) (ci := 0) (T := TJx4a65c) (N := 3) (rest := []) [.int (nI zk1)] (cl_get0 l D A cs ad dm σ Lx cap mk ev zl tx mt tn tc w0 n tq hC zk1 hn40 hL hlo (by omega)) (cwV 1 F.1.2.2.2.2 gX5_isThrottled_Jx4a65c_get_915e3 rfl rfl rfl (by decide +kernel) ⟨Nat.le_of_ble_eq_true rfl, Nat.le_of_ble_eq_true rfl⟩) rfl (hC.2.2.2.2.2.1 0 (by omega)) rfl rfl rfl rfl (Nat.le_of_ble_eq_true rfl) dX5_isThrottled_20 ⟨Nat.le_of_ble_eq_true rfl, Nat.le_of_ble_eq_true rfl⟩ (fun _ _ _ _ zv11 => ?_)
      obtain ⟨rfl, rfl, rfl, rfl⟩ := zv11
      show GG p l e _ s m _ below meth c D A ad dm _ _ _ _ (cw D ad cs σ Lx cap mk ev zl tx mt tn tc w0) 23 _ [.ref (ad 17 zk1)]
      refine ca_castM (i := zk1) F hC (by omega) (by decide +kernel) dX5_isThrottled_23 ?_
      refine g_astore F (lv1 := [(4, .ref (ad 17 zk1)), (3, .int (nI zk1)), (2, .int (thH σ a zk1)), (0, .ref (ad 10 0)), (1, .ref (ad 13 a))]) dX5_isThrottled_26 (by decide) rfl ?_
      refine g_aload F 0 dX5_isThrottled_28 rfl ?_
      refine g_getf (k := 17) (i := zk1) (ci := 3) (C := RX3) (T := TX3) (N := 16) (fs := (cM ad σ mt zk1)) (fk := 1) F hinX3 (hC.2.2.2.2.2.2.2.1 zk1 (by omega)).1 rfl rfl (by decide) (by decide +kernel) rfl rfl dX5_isThrottled_30 ?_
      refine g_aload_n F 4 dX5_isThrottled_33 rfl rfl ?_
      refine ca_acmp_ne (hC.2.2.2.1 (ix (σ 12 zk1)) (hrg zk1 (by omega)).1) (hC.2.2.2.1 a (by omega)) F (tgt := 57) dX5_isThrottled_34 (by decide) (fun zc12 => ?_) (fun zc12 => ?_)
      ·
        refine g_iinc F (v := (nI (zk1 + 1))) (lv1 := [(3, .int (nI (zk1 + 1))), (4, .ref (ad 17 zk1)), (2, .int (thH σ a zk1)), (0, .ref (ad 10 0)), (1, .ref (ad 13 a))]) 1 dX5_isThrottled_57 rfl (nI_1 zk1) (by decide) rfl ?_
        refine g_goto F (tgt := 4) dX5_isThrottled_60 (by decide) ?_
        exact g_lv [0, 2, 3, 4] (by rw [thH_s, if_neg (fun q => zc12 q.1)]; rfl) zih2
      ·
        refine g_aload_n F 3 dX5_isThrottled_37 rfl rfl ?_
        refine g_getf (k := 10) (i := 0) (ci := 5) (C := RX5) (T := TX5) (N := 4) (fs := (cO ad σ)) (fk := 3) F hinX5 hC.1 rfl rfl (by decide) (by decide +kernel) rfl rfl dX5_isThrottled_38 ?_
        refine g_aload F 0 dX5_isThrottled_41 rfl ?_
        refine g_getf (k := 17) (i := zk1) (ci := 3) (C := RX3) (T := TX3) (N := 16) (fs := (cM ad σ mt zk1)) (fk := 9) F hinX3 (hC.2.2.2.2.2.2.2.1 zk1 (by omega)).1 rfl rfl (by decide) (by decide +kernel) rfl rfl dX5_isThrottled_43 ?_
        refine g_isub F dX5_isThrottled_46 ?_
        refine g_aload_n F 4 dX5_isThrottled_47 rfl rfl ?_
        refine g_getf (k := 13) (i := a) (ci := 1) (C := RX0) (T := TX0) (N := 7) (fs := (cA ad σ tx a)) (fk := 5) F hinX0 (hC.2.2.2.1 a (by omega)) rfl rfl (by decide) (by decide +kernel) rfl rfl dX5_isThrottled_48 ?_
        refine g_icmp_ge F (tgt := 57) dX5_isThrottled_51 (by decide) (fun zc13 => ?_) (fun zc13 => ?_)
        ·
          refine g_iinc F (v := (nI (zk1 + 1))) (lv1 := [(3, .int (nI (zk1 + 1))), (4, .ref (ad 17 zk1)), (2, .int (thH σ a zk1)), (0, .ref (ad 10 0)), (1, .ref (ad 13 a))]) 1 dX5_isThrottled_57 rfl (nI_1 zk1) (by decide) rfl ?_
          refine g_goto F (tgt := 4) dX5_isThrottled_60 (by decide) ?_
          exact g_lv [0, 2, 3, 4] (by rw [thH_s, if_neg (fun q => q.2 zc13)]; rfl) zih2
        ·
          refine g_iinc F (v := ((thH σ a zk1) + 1)) (lv1 := [(2, .int ((thH σ a zk1) + 1)), (4, .ref (ad 17 zk1)), (3, .int (nI zk1)), (0, .ref (ad 10 0)), (1, .ref (ad 13 a))]) 2 dX5_isThrottled_54 rfl rfl (by decide) rfl ?_
          refine g_iinc F (v := (nI (zk1 + 1))) (lv1 := [(3, .int (nI (zk1 + 1))), (2, .int ((thH σ a zk1) + 1)), (4, .ref (ad 17 zk1)), (0, .ref (ad 10 0)), (1, .ref (ad 13 a))]) 2 dX5_isThrottled_57 rfl (nI_1 zk1) (by decide) rfl ?_
          refine g_goto F (tgt := 4) dX5_isThrottled_60 (by decide) ?_
          exact g_lv [0, 1, 3, 4] (by rw [thH_s, if_pos ⟨zc12, zc13⟩]; rfl) zih2

