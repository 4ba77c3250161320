/-! the law's rows of numbers: cells (1, 0) to (7, 0): m l t w o a g -/
def llen (k : Nat) : Nat := if k = 1 ∨ k = 3 then 48 else if k = 2 ∨ k = 4 then 24 else if k = 5 then 18 else if k = 6 then 16 else 2
def lwd (cs : Nat → ClassId) (la : SG) (wz : CF) : CF := fun k i => if 1 ≤ k ∧ k ≤ 7 ∧ i = 0 then .inl (cs 0, llen k, .inl (la k)) else wz k i
theorem llen_le (k : Nat) : llen k ≤ 48 := by
  unfold llen
  split
  · exact Nat.le_refl _
  · split
    · decide
    · split
      · decide
      · split <;> decide
theorem lwd_up (cs : Nat → ClassId) (la : SG) (wz : CF) {k : Nat} (h1 : 1 ≤ k) (h2 : k ≤ 7) (j : Nat) (v : Int32) : up2 (lwd cs la wz) k 0 (.inl (cs 0, llen k, .inl (upd (la k) j v))) = lwd cs (up2 la k j v) wz := by
  funext a b
  by_cases h : a = k ∧ b = 0
  · obtain ⟨rfl, rfl⟩ := h
    rw [up2_self]
    unfold lwd
    rw [if_pos ⟨h1, h2, rfl⟩]
    have e : upd (la a) j v = up2 la a j v a := by
      funext x
      unfold upd
      by_cases hx : x = j
      · rw [hx, if_pos rfl, up2_self]
      · rw [if_neg hx, up2_ne _ _ (fun q => hx q.2)]
    rw [e]
  · rw [up2_ne _ _ h]
    unfold lwd
    by_cases g : 1 ≤ a ∧ a ≤ 7 ∧ b = 0
    · rw [if_pos g, if_pos g]
      have e : la a = up2 la k j v a := by
        funext x
        rw [up2_ne _ _ (fun q => h ⟨q.1, g.2.2⟩)]
      rw [e]
    · rw [if_neg g, if_neg g]
section LWR
variable {p : Program} {l : Launch} {e : Env} {R : Room} {s : State} {m : MethodId} {args : Array Value} {below : List Frame} {meth : Method} {c : Code} {cells slots : Nat} {Q : State → Prop} {cc : ByteArray} {nL : Nat} {Ts : List Cond} {own : String} {D : va_G} {A : Nat → Prop} {tys : List (ClassId × FieldType)} {cs : Nat → ClassId} {ad : Nat → Nat → Nat} {dm : Nat → Nat → Prop} {w : CF} {pc : Nat} {lv : List (Nat × Value)} {rest : List Value}
variable {σ : SG} {Lx : Nat → List Nat} {cap : Nat → Nat} {mk : Nat → Int32} {ev : SG} {zl tx mt tn : Nat → Nat} {tc : SG} {w0 : CF} {la : SG} {wz : CF} {n tq t : Nat}
theorem lw_at {K : Nat} (h : 1 ≤ K ∧ K ≤ 7) : (cw D ad cs σ Lx cap mk ev zl tx mt tn tc (lwd cs la wz)) K 0 = .inl (cs 0, llen K, .inl (la K)) := (cw_lo (by omega) 0).trans (if_pos ⟨h.1, h.2, rfl⟩)
theorem l_ld (F : FX p s m args c cc nL Ts own D A (tysG cs)) {K j : Nat} {x v : Int32} (hd : ∀ k, 1 ≤ k → k ≤ 7 → dm k 0) (h1 : 1 ≤ K ∧ K ≤ 7) (hx : x = nI j) (hj : j < llen K) (hv : la K j = v) (d : decode cc pc = .ok (.iaload, 1))
    (kk : GG p l e R s m args below meth c D A ad dm nL cells slots Q (cw D ad cs σ Lx cap mk ev zl tx mt tn tc (lwd cs la wz)) (pc + 1) lv (.int v :: rest)) : GG p l e R s m args below meth c D A ad dm nL cells slots Q (cw D ad cs σ Lx cap mk ev zl tx mt tn tc (lwd cs la wz)) pc lv (.int x :: .ref (ad K 0) :: rest) := by
  subst hx
  have hb := llen_le K
  refine g_iald F (k := K) (i := 0) (n := llen K) (f := la K) 0 (hd K h1.1 h1.2) (lw_at h1) rfl (vp_in_nI hj (by omega)) d ?_
  rw [nI_clamp (by omega), hv]
  exact kk
theorem l_st (F : FX p s m args c cc nL Ts own D A (tysG cs)) {K j : Nat} {x v : Int32} (hd : ∀ k, 1 ≤ k → k ≤ 7 → dm k 0) (h1 : 1 ≤ K ∧ K ≤ 7) (hx : x = nI j) (hj : j < llen K) (d : decode cc pc = .ok (.iastore, 1))
    (kk : GG p l e R s m args below meth c D A ad dm nL cells slots Q (cw D ad cs σ Lx cap mk ev zl tx mt tn tc (lwd cs (up2 la K j v) wz)) (pc + 1) lv rest) : GG p l e R s m args below meth c D A ad dm nL cells slots Q (cw D ad cs σ Lx cap mk ev zl tx mt tn tc (lwd cs la wz)) pc lv (.int v :: .int x :: .ref (ad K 0) :: rest) := by
  subst hx
  have hb := llen_le K
  refine g_iast F (k := K) (i := 0) (n := llen K) (f := la K) 0 (hd K h1.1 h1.2) (lw_at h1) rfl (vp_in_nI hj (by omega)) d ?_
  rw [nI_clamp (by omega), cw_u9 D ad cs σ Lx cap mk ev zl tx mt tn tc _ (by omega), lwd_up cs la wz h1.1 h1.2]
  exact kk
theorem g_lve {lv1 : List (Nat × Value)} (ee : lv1 = lv) (kk : GG p l e R s m args below meth c D A ad dm nL cells slots Q w pc lv1 rest) : GG p l e R s m args below meth c D A ad dm nL cells slots Q w pc lv rest := ee ▸ kk
theorem l_slen (F : FX p s m args c cc nL Ts own D A tys) {b L : Nat} {xs : Nat → Int32} (hX : va_X b L xs s s.heap) (hbl : b < s.heap.size) (hbA : ¬ A b) (d : decode cc pc = .ok (.arraylength, 1)) (kk : GG p l e R s m args below meth c D A ad dm nL cells slots Q w (pc + 1) lv (.int (nI L) :: rest)) : GG p l e R s m args below meth c D A ad dm nL cells slots Q w pc lv (.ref b :: rest) := fun H locs ls hw hS hl => va_slen F.1.1 F.1.2.1 hX hbl hbA hS d (kk H locs ls hw hS hl)
theorem l_sld (F : FX p s m args c cc nL Ts own D A tys) {b L j : Nat} {xs : Nat → Int32} (hX : va_X b L xs s s.heap) (hbl : b < s.heap.size) (hbA : ¬ A b) (hj : j < L) (hL : L ≤ 260) (d : decode cc pc = .ok (.iaload, 1)) (kk : GG p l e R s m args below meth c D A ad dm nL cells slots Q w (pc + 1) lv (.int (xs j) :: rest)) : GG p l e R s m args below meth c D A ad dm nL cells slots Q w pc lv (.int (nI j) :: .ref b :: rest) := by
  intro H locs ls hw hS hl
  refine va_sld F.1.1 F.1.2.1 hX hbl hbA hS (vp_in_nI hj (by omega)) d ?_
  rw [nI_clamp (by omega)]
  exact kk H locs ls hw hS hl
theorem g_fcmpE (F : FX p s m args c cc nL Ts own D A tys) {x y : UInt32} {op : CmpOp} (d : decode cc pc = .ok (.fcmp op, 1)) (he : Op.cmpValue (FP.fcmp x y) op = 0) (kk : GG p l e R s m args below meth c D A ad dm nL cells slots Q w (pc + 1) lv (.int 0 :: rest)) : GG p l e R s m args below meth c D A ad dm nL cells slots Q w pc lv (.float y :: .float x :: rest) := fun H locs ls hw hS hl => lv_fcmp F.1.1 F.1.2.1 d (by rw [he]; exact kk H locs ls hw hS hl)
theorem g_cutC {cells1 slots1 : Nat} {w2 : CF} {pc2 : Nat} {lv2 : List (Nat × Value)} {st2 : List Value} (hJ : GG p l e R s m args below meth c D A ad dm nL cells1 slots1 Q w2 pc2 lv2 st2) (kk : GG p l e R s m args below meth c D A ad dm nL cells1 slots1 Q w2 pc2 lv2 st2 → GG p l e R s m args below meth c D A ad dm nL cells slots Q w pc lv rest) : GG p l e R s m args below meth c D A ad dm nL cells slots Q w pc lv rest := kk hJ
end LWR
theorem sf_all : (List.range 41).all (fun a => (List.range 41).all (fun b => decide (Op.cmpValue (FP.fcmp (shV a b) (shV a b)) .l = 0))) = true := by decide +kernel
theorem sf_cmp {a b : Nat} (ha : a ≤ 40) (hb : b ≤ 40) : Op.cmpValue (FP.fcmp (shV a b) (shV a b)) .l = 0 := of_decide_eq_true (List.all_eq_true.mp (List.all_eq_true.mp sf_all a (List.mem_range.mpr (by omega))) b (List.mem_range.mpr (by omega)))
theorem mg_m1 (b : Int32) : ¬ inR (-1) 0 b := fun q => q.1 (by decide)
theorem mg_in {k n : Nat} (h : k < n) (hn : n ≤ 1000) : inR (nI k) 0 (nI n - 1) := (inR_n hn).mpr ⟨nI_pos (by omega), (nI_ltI (by omega) (by omega)).mpr h⟩
theorem mg_out {n : Nat} (hn : n ≤ 1000) : ¬ inR (nI n) 0 (nI n - 1) := fun q => Int32.lt_irrefl ((inR_n hn).mp q).2
theorem rc_in {r : Nat} (h : r < 6) : recP (nI r) := recP_n.mpr ⟨nI_pos (by omega), (nI_ltI (by omega) (by decide)).mpr h⟩
theorem ac_in {a : Nat} (h : a < 4) : accP (nI a) := accP_n.mpr ⟨nI_pos (by omega), (nI_ltI (by omega) (by decide)).mpr h⟩
theorem ac_4 : ¬ accP (nI 4) := by decide
theorem rc_6 : ¬ recP (nI 6) := by decide
theorem and_mx (x : Int32) : ∃ k, k < 2 ^ 31 ∧ x &&& 2147483647 = nI k := by
  refine ⟨(x &&& 2147483647).toBitVec.toNat, ?_, ?_⟩
  · have h : (x &&& 2147483647).toBitVec = x.toBitVec &&& 2147483647#32 := rfl
    rw [h, BitVec.toNat_and]
    exact Nat.lt_of_le_of_lt Nat.and_le_right (by decide)
  · apply Int32.toBitVec_inj.mp
    show (x &&& 2147483647).toBitVec = BitVec.ofNat 32 (x &&& 2147483647).toBitVec.toNat
    exact (BitVec.ofNat_toNat _ _ |>.trans (BitVec.setWidth_eq _)).symm
set_option maxHeartbeats 4000000 in
set_option maxRecDepth 100000 in
theorem lp_part (l : Launch) (D : va_G) (A : Nat → Prop) (cs : Nat → ClassId) (ad : Nat → Nat → Nat) (dm : Nat → Nat → Prop) (w : CF) {k d : Nat} (hk : k ≤ 1000) (hd : 0 < d ∧ d ≤ 10000) : Met l yL_part wsL_part ({ frames := 0, cells := 0, slots := 0, locals := 0 }) (va_Pc [.ref (D.2 100 40), .int (nI k), .int (nI d)] (PW D A (tysG cs) ad dm w)) (QW D A (tysG cs) (fun rz ad1 dm1 w1 => (∃ v, v < d ∧ rz = some (.int (nI v))) ∧ ad = ad1 ∧ dm = dm1 ∧ w = w1)) 0 0 A := by
  refine g_start (own := RL) [.ref (D.2 100 40), .int (nI k), .int (nI d)] (cc := cL_part) (maxL := 4) (ret := (some .int)) (lv0 := [(0, .ref (D.2 100 40)), (1, .int (nI k)), (2, .int (nI d))]) (by decide) rfl rfl (Nat.le_of_ble_eq_true rfl) rfl ?_
  intro p e s m below meth c F hr hlocks hno
  obtain ⟨L, xs, hL, hX, hbl, hbA⟩ := F.2.2.2.1.2.2.2.2.2
  have key : ∀ v : Int32, GG p l e ({ frames := 0, cells := 0, slots := 0, locals := 0 }) s m #[Value.ref (D.2 100 40), Value.int (nI k), Value.int (nI d)] below meth c D A ad dm 4 0 0 (MQ below (QW D A (tysG cs) (fun rz ad1 dm1 w1 => (∃ v, v < d ∧ rz = some (.int (nI v))) ∧ ad = ad1 ∧ dm = dm1 ∧ w = w1)) #[Value.ref (D.2 100 40), Value.int (nI k), Value.int (nI d)] s 0 0 A) w 25 [(0, .ref (D.2 100 40)), (1, .int (nI k)), (2, .int (nI d))] [.int v] := by
    intro v
    refine g_istore_n F (lv1 := [(3, .int v), (0, .ref (D.2 100 40)), (1, .int (nI k)), (2, .int (nI d))]) dL_part_25 rfl (by decide) rfl ?_
    refine g_iload_n F 0 dL_part_26 rfl rfl ?_
    refine g_ldc F (v := 2147483647) dL_part_27 (by decide +kernel) ?_
    refine g_iand F dL_part_29 ?_
    obtain ⟨y, hy, ey⟩ := and_mx v
    refine g_top ey.symm ?_
    refine g_iload_n F 3 dL_part_30 rfl rfl ?_
    refine g_irem F dL_part_31 (fun q => absurd ((nI_eqE (show nI d = nI d from rfl) (show (0 : Int32) = nI 0 by decide) (by omega) (by decide)).mp q) (by omega)) ?_
    refine g_top (pk_rem hy hd.1 (by omega)).symm ?_
    exact g_qi F hr hlocks (fun _ h => h) ⟨⟨y % d, Nat.mod_lt _ hd.1, rfl⟩, rfl, rfl, rfl⟩ (Nat.le_refl _) (Nat.le_refl _) dL_part_32
  refine g_iload_n F 1 dL_part_0 rfl rfl ?_
  refine g_aload_n F 0 dL_part_1 rfl rfl ?_
  refine l_slen F hX hbl hbA dL_part_2 ?_
  refine g_icmp_ge F (tgt := 12) dL_part_3 (by decide) (fun q => ?_) (fun q => ?_)
  · refine g_sipush F dL_part_12 (v := 337) (by decide) ?_
    refine g_iload_n F 1 dL_part_15 rfl rfl ?_
    refine g_imul F dL_part_16 ?_
    refine g_sipush F dL_part_17 (v := 199) (by decide) ?_
    refine g_iload_n F 1 dL_part_20 rfl rfl ?_
    refine g_imul F dL_part_21 ?_
    refine g_iload_n F 1 dL_part_22 rfl rfl ?_
    refine g_imul F dL_part_23 ?_
    refine g_iadd F dL_part_24 ?_
    exact key _
  · have hkL : k < L := by
      have h1 : ¬ nI L ≤ nI k := q
      rw [nI_leI (by omega) (by omega)] at h1
      omega
    refine g_aload_n F 0 dL_part_6 rfl rfl ?_
    refine g_iload_n F 1 dL_part_7 rfl rfl ?_
    refine l_sld F hX hbl hbA hkL hL dL_part_8 ?_
    refine g_goto F (tgt := 25) dL_part_9 (by decide) ?_
    exact key _
