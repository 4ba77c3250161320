section FL8
variable {p : Program} {l : Launch} {e : Env} {R : Room} {s : State} {m : MethodId} {args : Array Value} {below : List Frame} {meth : Method} {c : Code} {cells slots : Nat} {Q : State → Prop} {cc : ByteArray} {nL : Nat} {Ts : List Cond} {own : String} {D : va_G} {A : Nat → Prop} {tys : List (ClassId × FieldType)} {ad : Nat → Nat → Nat} {dm : Nat → Nat → Prop} {w : CF} {pc : Nat} {lv : List (Nat × Value)} {rest : List Value}
theorem g_fconst0 (F : FX p s m args c cc nL Ts own D A tys) (d : decode cc pc = .ok (.fconst 0, 1)) (kk : GG p l e R s m args below meth c D A ad dm nL cells slots Q w (pc + 1) lv (.float FP.fconst0 :: rest)) : GG p l e R s m args below meth c D A ad dm nL cells slots Q w pc lv rest := fun H locs ls hw hS hl => lv_fconst0 F.1.1 F.1.2.1 d (kk H locs ls hw hS hl)
theorem g_i2f (F : FX p s m args c cc nL Ts own D A tys) {x : Int32} (d : decode cc pc = .ok (.i2f, 1)) (kk : GG p l e R s m args below meth c D A ad dm nL cells slots Q w (pc + 1) lv (.float (FP.i2f x) :: rest)) : GG p l e R s m args below meth c D A ad dm nL cells slots Q w pc lv (.int x :: rest) := fun H locs ls hw hS hl => lv_i2f F.1.1 F.1.2.1 d (kk H locs ls hw hS hl)
theorem g_fdiv (F : FX p s m args c cc nL Ts own D A tys) {x y : UInt32} (d : decode cc pc = .ok (.fdiv, 1)) (hne : vf_n32 (FP.fdiv x y)) (kk : GG p l e R s m args below meth c D A ad dm nL cells slots Q w (pc + 1) lv (.float (FP.fdiv x y) :: rest)) : GG p l e R s m args below meth c D A ad dm nL cells slots Q w pc lv (.float y :: .float x :: rest) := fun H locs ls hw hS hl => lv_fdiv F.1.1 F.1.2.1 d hne (kk H locs ls hw hS hl)
theorem g_qf (F : FX p s m args c cc nL Ts own D A tys) {post : Option Value → (Nat → Nat → Nat) → (Nat → Nat → Prop) → CF → Prop} {cells1 slots1 : Nat} {v : UInt32} {w1 : CF} {ad1 : Nat → Nat → Nat} {dm1 : Nat → Nat → Prop} (hr : meth.sig.returnType = some .float) (hlocks : meth.locks = false) (hq : ∀ H : Heap, HW D A ad dm w H → HW D A ad1 dm1 w1 H) (hp : post (some (.float v)) ad1 dm1 w1) (hc : cells ≤ cells1) (hs : slots ≤ slots1) (d : decode cc pc = .ok (.freturn, 1)) : GG p l e R s m args below meth c D A ad dm nL cells slots (MQ below (QW D A tys post) args s cells1 slots1 A) w pc lv [.float v] := by
  intro H locs ls hw hS hl
  refine W.widen hc hs ?_
  exact W.fret F.1.1 F.1.2.1 hr (fun t ht hW => ⟨⟨_, ad1, dm1, w1, rfl, hp, F.PW (hq H hw) hS ht hW⟩, hS.F ht⟩) hS.2.2 d hlocks
end FL8
def edN (σ : SG) : Nat → Nat
  | 0 => 0
  | k + 1 => if (σ 23 k) = 0 then edN σ k else edN σ k + 1
def dvN (σ : SG) : Nat → Nat
  | 0 => 0
  | k + 1 => if (σ 23 k) = 1 then dvN σ k + 1 else dvN σ k
theorem edN_s (σ : SG) (k : Nat) : edN σ (k + 1) = if (σ 23 k) = 0 then edN σ k else edN σ k + 1 := rfl
theorem dvN_s (σ : SG) (k : Nat) : dvN σ (k + 1) = if (σ 23 k) = 1 then dvN σ k + 1 else dvN σ k := rfl
theorem edN_le (σ : SG) : ∀ k, edN σ k ≤ k
  | 0 => Nat.le_refl _
  | k + 1 => by
    have h := edN_le σ k
    rw [edN_s]
    split <;> omega
theorem dvN_le (σ : SG) : ∀ k, dvN σ k ≤ k
  | 0 => Nat.le_refl _
  | k + 1 => by
    have h := dvN_le σ k
    rw [dvN_s]
    split <;> omega
theorem edN_b (σ : SG) (k : Nat) : nI (edN σ k) + bi (¬ (σ 23 k) = 0) = nI (edN σ (k + 1)) := by
  rw [edN_s]
  by_cases h : (σ 23 k) = 0
  · rw [if_pos h, bi_f (fun q => q h)]; exact Int32.add_zero _
  · rw [if_neg h, bi_t h]; exact nI_1 _
theorem dvN_b (σ : SG) (k : Nat) : nI (dvN σ k) + bi ((σ 23 k) = 1) = nI (dvN σ (k + 1)) := by
  rw [dvN_s]
  by_cases h : (σ 23 k) = 1
  · rw [if_pos h, bi_t h]; exact nI_1 _
  · rw [if_neg h, bi_f h]; exact Int32.add_zero _
theorem edN_c {σ τ : SG} : ∀ (n : Nat), (∀ k, k < n → (σ 23 k) = (τ 23 k)) → edN σ n = edN τ n
  | 0, _ => rfl
  | k + 1, h => by rw [edN_s, edN_s, edN_c k (fun j hj => h j (by omega)), h k (by omega)]
theorem dvN_c {σ τ : SG} : ∀ (n : Nat), (∀ k, k < n → (σ 23 k) = (τ 23 k)) → dvN σ n = dvN τ n
  | 0, _ => rfl
  | k + 1, h => by rw [dvN_s, dvN_s, dvN_c k (fun j hj => h j (by omega)), h k (by omega)]
def shV (a b : Nat) : UInt32 := if b = 0 then FP.fconst0 else FP.fdiv (FP.i2f (nI a)) (FP.i2f (nI b))
theorem sh_0 {a b : Nat} (hb : b ≤ 40) (h : nI b = 0) : shV a b = FP.fconst0 := if_pos ((nI_eqE (b := 0) rfl (show (0 : Int32) = nI 0 by decide) (by omega) (by decide)).mp h)
theorem sh_1 {a b : Nat} (h : ¬ nI b = 0) : shV a b = FP.fdiv (FP.i2f (nI a)) (FP.i2f (nI b)) := if_neg (fun q => h (by rw [q]; decide))
theorem sh_all : (List.range 41).all (fun a => (List.range 41).all (fun b => b == 0 || decide (FP.fdiv (FP.i2f (nI a)) (FP.i2f (nI b)) &&& 0x7fffffff ≤ 0x7f800000))) = true := by decide +kernel
theorem sh_nn {a b : Nat} (ha : a ≤ 40) (hb : b ≤ 40) (h : ¬ nI b = 0) : vf_n32 (FP.fdiv (FP.i2f (nI a)) (FP.i2f (nI b))) := by
  have h1 := List.all_eq_true.mp sh_all a (List.mem_range.mpr (by omega))
  have h2 := List.all_eq_true.mp h1 b (List.mem_range.mpr (by omega))
  rcases Bool.or_eq_true _ _ |>.mp h2 with q | q
  · exact absurd (by rw [eq_of_beq q]; decide) h
  · unfold vf_n32; exact of_decide_eq_true q
set_option maxHeartbeats 4000000 in
set_option maxRecDepth 100000 in
theorem cc_share (l : Launch) (D : va_G) (A : Nat → Prop) (cs : Nat → ClassId) (ad : Nat → Nat → Nat) (dm : Nat → Nat → Prop) (σ : SG) (Lx : Nat → List Nat) (cap : Nat → Nat) (mk : Nat → Int32) (ev : SG) (zl tx mt tn : Nat → Nat) (tc : SG) (w0 : CF) (n tq : Nat) (hC : CD dm n cap tq)  (hn40 : n ≤ 40) (hL : Lx 0 = List.range n) (hlo : LO n Lx cap) : Met l yX5_share wsX5_share ({ frames := 3, cells := 0, slots := 0, locals := 64 }) (va_Pc [.ref (ad 10 0)] (PW D A (tysG cs) ad dm (cw D ad cs σ Lx cap mk ev zl tx mt tn tc w0))) (QW D A (tysG cs) (fun rz ad1 dm1 w1 => rz = some (.float (shV (dvN σ n) (edN σ n))) ∧ ad = ad1 ∧ dm = dm1 ∧ (cw D ad cs σ Lx cap mk ev zl tx mt tn tc w0) = w1)) 0 0 A := by
  refine g_start (own := RX5) [.ref (ad 10 0)] (cc := cX5_share) (maxL := 5) (ret := (some .float)) (lv0 := [(0, .ref (ad 10 0))]) (by decide) rfl rfl (Nat.le_of_ble_eq_true rfl) rfl ?_
  intro p e s m below meth c F hr hlocks hno
  have hinX3 : ∀ w ∈ wsX30, w ∈ wsX5_share := by decide +kernel
  have hinX5 : ∀ w ∈ wsX50, w ∈ wsX5_share := by decide +kernel
  refine g_iconst F dX5_share_0 (v := 0) (by decide) ?_
  refine g_istore_n F (lv1 := [(1, .int 0), (0, .ref (ad 10 0))]) dX5_share_1 rfl (by decide) rfl ?_
  refine g_iconst F dX5_share_2 (v := 0) (by decide) ?_
  refine g_istore_n F (lv1 := [(2, .int 0), (1, .int 0), (0, .ref (ad 10 0))]) dX5_share_3 rfl (by decide) rfl ?_
  refine g_iconst F dX5_share_4 (v := 0) (by decide) ?_
  refine g_istore_n F (lv1 := [(3, .int 0), (2, .int 0), (1, .int 0), (0, .ref (ad 10 0))]) dX5_share_5 rfl (by decide) rfl ?_
  refine g_loop n 0 (by omega) (fun zk1 => (cw D ad cs σ Lx cap mk ev zl tx mt tn tc w0)) (fun zk1 => [(3, .int (nI zk1)), (2, .int (nI (edN σ zk1))), (1, .int (nI (dvN σ zk1))), (0, .ref (ad 10 0))]) rfl rfl ?_ (fun zk1 zhk3 zhk4 zih2 => ?_)
  ·
    show GG p l e _ s m _ below meth c D A ad dm _ _ _ _ (cw D ad cs σ Lx cap mk ev zl tx mt tn tc w0) 6 [(3, .int (nI n)), (2, .int (nI (edN σ n))), (1, .int (nI (dvN σ n))), (0, .ref (ad 10 0))] []
    refine g_iload_n F 0 dX5_share_6 rfl rfl ?_
    refine g_aload_n F 3 dX5_share_7 rfl rfl ?_
    refine g_getf (k := 10) (i := 0) (ci := 5) (C := RX5) (T := TX5) (N := 4) (fs := (cO ad σ)) (fk := 2) F hinX5 hC.1 rfl rfl (by decide) (by decide +kernel) rfl rfl dX5_share_8 ?_
    refine q_callV F (C := RJx4a65c) (k := 15) (i := 0) (ci := 0) (T := TJx4a65c) (N := 3) (rest := [.int (nI n)]) [] (cl_size0 l D A cs ad dm σ Lx cap mk ev zl tx mt tn tc w0 n tq hC hn40 hL hlo) (cwV 0 F.1.2.2.2.2 gX5_share_Jx4a65c_size_8abf5 rfl rfl rfl (by decide +kernel) ⟨Nat.le_of_ble_eq_true rfl, Nat.le_of_ble_eq_true rfl⟩) rfl (hC.2.2.2.2.2.1 0 (by omega)) rfl rfl rfl rfl (Nat.le_of_ble_eq_true rfl) dX5_share_11 ⟨Nat.le_of_ble_eq_true rfl, Nat.le_of_ble_eq_true rfl⟩ (fun _ _ _ _ zv5 => ?_)
    obtain ⟨rfl, rfl, rfl, rfl⟩ := zv5
    show GG p l e _ s m _ below meth c D A ad dm _ _ _ _ (cw D ad cs σ Lx cap mk ev zl tx mt tn tc w0) 14 _ [.int (nI n), .int (nI n)]
    refine g_icmp_ge F (tgt := 56) dX5_share_14 (by decide) (fun zc6 => ?_) (fun zc6 => ?_)
    ·
      refine g_iload_n F 1 dX5_share_56 rfl rfl ?_
      refine g_if_ne F (tgt := 64) dX5_share_57 (by decide) (fun zc7 => ?_) (fun zc7 => ?_)
      ·
        refine g_iload_n F 2 dX5_share_64 rfl rfl ?_
        refine g_i2f F dX5_share_65 ?_
        refine g_iload_n F 1 dX5_share_66 rfl rfl ?_
        refine g_i2f F dX5_share_67 ?_
        refine g_fdiv F dX5_share_68 (sh_nn (Nat.le_trans (dvN_le σ n) hn40) (Nat.le_trans (edN_le σ n) hn40) zc7) ?_
        exact g_qf F hr hlocks (fun _ h => h) ⟨by rw [(sh_1 zc7)], rfl, rfl, rfl⟩ (by decide) (by decide) dX5_share_69
      ·
        refine g_fconst0 F dX5_share_60 ?_
        refine g_goto F (tgt := 69) dX5_share_61 (by decide) ?_
        exact g_qf F hr hlocks (fun _ h => h) ⟨by rw [(sh_0 (Nat.le_trans (edN_le σ n) hn40) zc7)], rfl, rfl, rfl⟩ (by decide) (by decide) dX5_share_69
    ·
      exact absurd ((nI_leE (show (nI n) = nI n from rfl) (show (nI n) = nI n from rfl) (show n < 2 ^ 31 by omega) (show n < 2 ^ 31 by omega)).mpr (by omega)) zc6
  ·
    replace zih2 : GG p l e _ s m _ below meth c D A ad dm _ _ _ _ (cw D ad cs σ Lx cap mk ev zl tx mt tn tc w0) 6 [(3, .int (nI (zk1 + 1))), (2, .int (nI (edN σ (zk1 + 1)))), (1, .int (nI (dvN σ (zk1 + 1)))), (0, .ref (ad 10 0))] [] := zih2
    show GG p l e _ s m _ below meth c D A ad dm _ _ _ _ (cw D ad cs σ Lx cap mk ev zl tx mt tn tc w0) 6 [(3, .int (nI zk1)), (2, .int (nI (edN σ zk1))), (1, .int (nI (dvN σ zk1))), (0, .ref (ad 10 0))] []
    refine g_iload_n F 0 dX5_share_6 rfl rfl ?_
    refine g_aload_n F 3 dX5_share_7 rfl rfl ?_
    refine g_getf (k := 10) (i := 0) (ci := 5) (C := RX5) (T := TX5) (N := 4) (fs := (cO ad σ)) (fk := 2) F hinX5 hC.1 rfl rfl (by decide) (by decide +kernel) rfl rfl dX5_share_8 ?_
    refine q_callV F (C := RJx4a65c) (k := 15) (i := 0) (ci := 0) (T := TJx4a65c) (N := 3) (rest := [.int (nI zk1)]) [] (cl_size0 l D A cs ad dm σ Lx cap mk ev zl tx mt tn tc w0 n tq hC hn40 hL hlo) (cwV 0 F.1.2.2.2.2 gX5_share_Jx4a65c_size_8abf5 rfl rfl rfl (by decide +kernel) ⟨Nat.le_of_ble_eq_true rfl, Nat.le_of_ble_eq_true rfl⟩) rfl (hC.2.2.2.2.2.1 0 (by omega)) rfl rfl rfl rfl (Nat.le_of_ble_eq_true rfl) dX5_share_11 ⟨Nat.le_of_ble_eq_true rfl, Nat.le_of_ble_eq_true rfl⟩ (fun _ _ _ _ zv8 => ?_)
    obtain ⟨rfl, rfl, rfl, rfl⟩ := zv8
    show GG p l e _ s m _ below meth c D A ad dm _ _ _ _ (cw D ad cs σ Lx cap mk ev zl tx mt tn tc w0) 14 _ [.int (nI n), .int (nI zk1)]
    refine g_icmp_ge F (tgt := 56) dX5_share_14 (by decide) (fun zc9 => ?_) (fun zc9 => ?_)
    ·
      exact absurd ((nI_leE (show (nI n) = nI n from rfl) (show (nI zk1) = nI zk1 from rfl) (show n < 2 ^ 31 by omega) (show zk1 < 2 ^ 31 by omega)).mp zc9) (by omega)
    ·
      refine g_aload_n F 3 dX5_share_17 rfl rfl ?_
      refine g_getf (k := 10) (i := 0) (ci := 5) (C := RX5) (T := TX5) (N := 4) (fs := (cO ad σ)) (fk := 2) F hinX5 hC.1 rfl rfl (by decide) (by decide +kernel) rfl rfl dX5_share_18 ?_
      refine g_iload_n F 0 dX5_share_21 rfl rfl ?_
      refine q_callV F (C := RJx4a65c) (k := 15) (i := 0) (ci := 0) (T := TJx4a65c) (N := 3) (rest := []) [.int (nI zk1)] (cl_get0 l D A cs ad dm σ Lx cap mk ev zl tx mt tn tc w0 n tq hC zk1 hn40 hL hlo (by omega)) (cwV 1 F.1.2.2.2.2 gX5_share_Jx4a65c_get_915e3 rfl rfl rfl (by decide +kernel) ⟨Nat.le_of_ble_eq_true rfl, Nat.le_of_ble_eq_true rfl⟩) rfl (hC.2.2.2.2.2.1 0 (by omega)) rfl rfl rfl rfl (Nat.le_of_ble_eq_true rfl) dX5_share_22 ⟨Nat.le_of_ble_eq_true rfl, Nat.le_of_ble_eq_true rfl⟩ (fun _ _ _ _ zv10 => ?_)
      obtain ⟨rfl, rfl, rfl, rfl⟩ := zv10
      show GG p l e _ s m _ below meth c D A ad dm _ _ _ _ (cw D ad cs σ Lx cap mk ev zl tx mt tn tc w0) 25 _ [.ref (ad 17 zk1)]
      refine ca_castM (i := zk1) F hC (by omega) (by decide +kernel) dX5_share_25 ?_
      refine g_getf (k := 17) (i := zk1) (ci := 3) (C := RX3) (T := TX3) (N := 16) (fs := (cM ad σ mt zk1)) (fk := 12) F hinX3 (hC.2.2.2.2.2.2.2.1 zk1 (by omega)).1 rfl rfl (by decide) (by decide +kernel) rfl rfl dX5_share_28 ?_
      refine g_istore F (lv1 := [(4, .int (σ 23 zk1)), (3, .int (nI zk1)), (2, .int (nI (edN σ zk1))), (1, .int (nI (dvN σ zk1))), (0, .ref (ad 10 0))]) dX5_share_31 (by decide) rfl ?_
      refine g_iload F 0 dX5_share_33 rfl ?_
      refine g_if_eq F (tgt := 41) dX5_share_35 (by decide) (fun zc11 => ?_) (fun zc11 => ?_)
      ·
        refine g_iload F 0 dX5_share_41 rfl ?_
        refine g_iconst F dX5_share_43 (v := 1) (by decide) ?_
        refine g_icmp_ne F (tgt := 50) dX5_share_44 (by decide) (fun zc12 => ?_) (fun zc12 => ?_)
        ·
          refine g_iinc F (v := (nI (zk1 + 1))) (lv1 := [(3, .int (nI (zk1 + 1))), (4, .int (σ 23 zk1)), (2, .int (nI (edN σ zk1))), (1, .int (nI (dvN σ zk1))), (0, .ref (ad 10 0))]) 1 dX5_share_50 rfl (nI_1 zk1) (by decide) rfl ?_
          refine g_goto F (tgt := 6) dX5_share_53 (by decide) ?_
          exact g_lv [0, 2, 3, 4] (by rw [edN_s, dvN_s, if_pos zc11, if_neg (fun q => zc12 q)]; rfl) zih2
        ·
          refine g_iinc F (v := (nI ((dvN σ zk1) + 1))) (lv1 := [(1, .int (nI ((dvN σ zk1) + 1))), (4, .int (σ 23 zk1)), (3, .int (nI zk1)), (2, .int (nI (edN σ zk1))), (0, .ref (ad 10 0))]) 3 dX5_share_47 rfl (nI_1 (dvN σ zk1)) (by decide) rfl ?_
          refine g_iinc F (v := (nI (zk1 + 1))) (lv1 := [(3, .int (nI (zk1 + 1))), (1, .int (nI ((dvN σ zk1) + 1))), (4, .int (σ 23 zk1)), (2, .int (nI (edN σ zk1))), (0, .ref (ad 10 0))]) 2 dX5_share_50 rfl (nI_1 zk1) (by decide) rfl ?_
          refine g_goto F (tgt := 6) dX5_share_53 (by decide) ?_
          exact g_lv [0, 3, 1, 4] (by rw [edN_s, dvN_s, if_pos zc11, if_pos zc12]; rfl) zih2
      ·
        refine g_iinc F (v := (nI ((edN σ zk1) + 1))) (lv1 := [(2, .int (nI ((edN σ zk1) + 1))), (4, .int (σ 23 zk1)), (3, .int (nI zk1)), (1, .int (nI (dvN σ zk1))), (0, .ref (ad 10 0))]) 2 dX5_share_38 rfl (nI_1 (edN σ zk1)) (by decide) rfl ?_
        refine g_iload F 1 dX5_share_41 rfl ?_
        refine g_iconst F dX5_share_43 (v := 1) (by decide) ?_
        refine g_icmp_ne F (tgt := 50) dX5_share_44 (by decide) (fun zc13 => ?_) (fun zc13 => ?_)
        ·
          refine g_iinc F (v := (nI (zk1 + 1))) (lv1 := [(3, .int (nI (zk1 + 1))), (2, .int (nI ((edN σ zk1) + 1))), (4, .int (σ 23 zk1)), (1, .int (nI (dvN σ zk1))), (0, .ref (ad 10 0))]) 2 dX5_share_50 rfl (nI_1 zk1) (by decide) rfl ?_
          refine g_goto F (tgt := 6) dX5_share_53 (by decide) ?_
          exact g_lv [0, 1, 3, 4] (by rw [edN_s, dvN_s, if_neg (fun q => zc11 q), if_neg (fun q => zc13 q)]; rfl) zih2
        ·
          refine g_iinc F (v := (nI ((dvN σ zk1) + 1))) (lv1 := [(1, .int (nI ((dvN σ zk1) + 1))), (2, .int (nI ((edN σ zk1) + 1))), (4, .int (σ 23 zk1)), (3, .int (nI zk1)), (0, .ref (ad 10 0))]) 3 dX5_share_47 rfl (nI_1 (dvN σ zk1)) (by decide) rfl ?_
          refine g_iinc F (v := (nI (zk1 + 1))) (lv1 := [(3, .int (nI (zk1 + 1))), (1, .int (nI ((dvN σ zk1) + 1))), (2, .int (nI ((edN σ zk1) + 1))), (4, .int (σ 23 zk1)), (0, .ref (ad 10 0))]) 3 dX5_share_50 rfl (nI_1 zk1) (by decide) rfl ?_
          refine g_goto F (tgt := 6) dX5_share_53 (by decide) ?_
          exact g_lv [0, 2, 1, 4] (by rw [edN_s, dvN_s, if_neg (fun q => zc11 q), if_pos zc13]; rfl) zih2
set_option maxHeartbeats 4000000 in
set_option maxRecDepth 100000 in
theorem cc_takeReceipt (l : Launch) (D : va_G) (A : Nat → Prop) (cs : Nat → ClassId) (ad : Nat → Nat → Nat) (dm : Nat → Nat → Prop) (σ : SG) (Lx : Nat → List Nat) (cap : Nat → Nat) (mk : Nat → Int32) (ev : SG) (zl tx mt tn : Nat → Nat) (tc : SG) (w0 : CF) (n tq : Nat) (hC : CD dm n cap tq) (v : Int32) (hlo : LO n Lx cap) (hfl : l.stackTraces = false) : vx_Met l yX5_takeReceipt wsX5_takeReceipt ({ frames := 7, cells := 2, slots := 12, locals := 111 }) (va_Pc [.ref (ad 10 0), .int v] (PW D A (tysG cs) ad dm (cw D ad cs σ Lx cap mk ev zl tx mt tn tc w0))) (QW D A (tysG cs) (fun rz ad1 dm1 w1 => (accP v ∧ ¬ nI (Lx (1 + (ix v))).length = 0) ∧ rz = some (.int ((10 * (nI ((Lx (1 + (ix v))).getD 0 0))) + (σ 23 ((Lx (1 + (ix v))).getD 0 0)))) ∧ ad = ad1 ∧ dm = dm1 ∧ (cw D ad cs σ (va_up Lx (1 + (ix v)) ((Lx (1 + (ix v))).eraseIdx 0)) cap (va_up mk (1 + (ix v)) ((mk (1 + (ix v))) + 1)) ev zl tx mt tn tc w0) = w1)) (XW D A (tysG cs) ad dm (cw D ad cs σ Lx cap mk ev zl tx mt tn tc w0) (fun E => (E = xIO ∧ ¬ accP v) ∨ (E = xIS ∧ accP v ∧ nI (Lx (1 + (ix v))).length = 0))) 2 12 A := by
  refine q_start (own := RX5) [.ref (ad 10 0), .int v] (cc := cX5_takeReceipt) (maxL := 4) (ret := (some .int)) (lv0 := [(0, .ref (ad 10 0)), (1, .int v)]) (by decide) rfl rfl (Nat.le_of_ble_eq_true rfl) rfl ?_
  intro p e s m below meth c F hr hlocks hno
  have hinX0 : ∀ w ∈ wsX00, w ∈ wsX5_takeReceipt := by decide +kernel
  have hinX3 : ∀ w ∈ wsX30, w ∈ wsX5_takeReceipt := by decide +kernel
  refine g_aload_n F 0 dX5_takeReceipt_0 rfl rfl ?_
  refine g_iload_n F 1 dX5_takeReceipt_1 rfl rfl ?_
  refine x_callV F (C := RX5) (k := 10) (i := 0) (ci := 5) (T := TX5) (N := 4) (rest := []) [.int v] (cc_accountAt l D A cs ad dm σ Lx cap mk ev zl tx mt tn tc w0 n tq hC v hfl) (cwV 1 F.1.2.2.2.2 gX5_takeReceipt_X5_accountAt rfl rfl rfl (by decide +kernel) ⟨Nat.le_of_ble_eq_true rfl, Nat.le_of_ble_eq_true rfl⟩) rfl hC.1 rfl rfl rfl rfl (Nat.le_of_ble_eq_true rfl) dX5_takeReceipt_2 ⟨Nat.le_of_ble_eq_true rfl, Nat.le_of_ble_eq_true rfl⟩ (x_prop F hno hlocks (fun _ h => .inl h) (Nat.le_of_ble_eq_true rfl) (Nat.le_of_ble_eq_true rfl)) (fun _ _ _ _ zv1 => ?_)
  obtain ⟨hc2, rfl, rfl, rfl, rfl⟩ := zv1
  have hb2 := (ix_acc hc2).2
  show GG p l e _ s m _ below meth c D A ad dm _ _ _ _ (cw D ad cs σ Lx cap mk ev zl tx mt tn tc w0) 5 _ [.ref (ad 13 (ix v))]
  refine g_getf (k := 13) (i := (ix v)) (ci := 1) (C := RX0) (T := TX0) (N := 7) (fs := (cA ad σ tx (ix v))) (fk := 6) F hinX0 (hC.2.2.2.1 (ix v) (by omega)) rfl rfl (by decide) (by decide +kernel) rfl rfl dX5_takeReceipt_5 ?_
  refine g_astore_n F (lv1 := [(2, .ref (ad 15 (1 + (ix v)))), (0, .ref (ad 10 0)), (1, .int v)]) dX5_takeReceipt_8 rfl (by decide) rfl ?_
  refine g_aload_n F 0 dX5_takeReceipt_9 rfl rfl ?_
  refine q_callV F (C := RJx4a65c) (k := 15) (i := (1 + (ix v))) (ci := 0) (T := TJx4a65c) (N := 3) (rest := []) [] (cl_isEmpty l D A cs ad dm σ Lx cap mk ev zl tx mt tn tc w0 n tq hC (1 + (ix v)) (by omega)) (cwV 0 F.1.2.2.2.2 gX5_takeReceipt_Jx4a65c_isEmpty_aae02 rfl rfl rfl (by decide +kernel) ⟨Nat.le_of_ble_eq_true rfl, Nat.le_of_ble_eq_true rfl⟩) rfl (hC.2.2.2.2.2.1 (1 + (ix v)) (by omega)) rfl rfl rfl rfl (Nat.le_of_ble_eq_true rfl) dX5_takeReceipt_10 ⟨Nat.le_of_ble_eq_true rfl, Nat.le_of_ble_eq_true rfl⟩ (fun _ _ _ _ zv2 => ?_)
  obtain ⟨rfl, rfl, rfl, rfl⟩ := zv2
  show GG p l e _ s m _ below meth c D A ad dm _ _ _ _ (cw D ad cs σ Lx cap mk ev zl tx mt tn tc w0) 13 _ [.int (bi (nI (Lx (1 + (ix v))).length = 0))]
  refine g_ifb_eq F (tgt := 26) dX5_takeReceipt_13 (by decide) (fun zc3 => ?_) (fun zc3 => ?_)
  ·
    have hlen : 0 < (Lx (1 + (ix v))).length := Nat.pos_of_ne_zero (fun q => zc3 (by rw [q]; decide))
    refine g_aload_n F 0 dX5_takeReceipt_26 rfl rfl ?_
    refine g_iconst F dX5_takeReceipt_27 (v := 0) (by decide) ?_
    refine q_callV F (C := RJx4a65c) (k := 15) (i := (1 + (ix v))) (ci := 0) (T := TJx4a65c) (N := 3) (rest := []) [.int 0] (cl_remove l D A cs ad dm σ Lx cap mk ev zl tx mt tn tc w0 n tq hC (1 + (ix v)) 0 (by omega) hlen (hlo (1 + (ix v)) (by omega)).1 (hlo (1 + (ix v)) (by omega)).2.1 (hlo (1 + (ix v)) (by omega)).2.2) (cwV 1 F.1.2.2.2.2 gX5_takeReceipt_Jx4a65c_remove_915e3 rfl rfl rfl (by decide +kernel) ⟨Nat.le_of_ble_eq_true rfl, Nat.le_of_ble_eq_true rfl⟩) rfl (hC.2.2.2.2.2.1 (1 + (ix v)) (by omega)) rfl rfl rfl rfl (Nat.le_of_ble_eq_true rfl) dX5_takeReceipt_28 ⟨Nat.le_of_ble_eq_true rfl, Nat.le_of_ble_eq_true rfl⟩ (fun _ _ _ _ zv4 => ?_)
    obtain ⟨rfl, rfl, rfl, rfl⟩ := zv4
    show GG p l e _ s m _ below meth c D A ad dm _ _ _ _ (cw D ad cs σ (va_up Lx (1 + (ix v)) ((Lx (1 + (ix v))).eraseIdx 0)) cap (va_up mk (1 + (ix v)) ((mk (1 + (ix v))) + 1)) ev zl tx mt tn tc w0) 31 _ [.ref (ad 17 ((Lx (1 + (ix v))).getD 0 0))]
    refine ca_castM (i := ((Lx (1 + (ix v))).getD 0 0)) F hC (hlo.get (i := (1 + (ix v))) (a := 0) (by omega) hlen) (by decide +kernel) dX5_takeReceipt_31 ?_
    refine g_astore_n F (lv1 := [(3, .ref (ad 17 ((Lx (1 + (ix v))).getD 0 0))), (2, .ref (ad 15 (1 + (ix v)))), (0, .ref (ad 10 0)), (1, .int v)]) dX5_takeReceipt_34 rfl (by decide) rfl ?_
    refine g_bipush F dX5_takeReceipt_35 (v := 10) (by decide) ?_
    refine g_aload_n F 0 dX5_takeReceipt_37 rfl rfl ?_
    refine g_getf (k := 17) (i := ((Lx (1 + (ix v))).getD 0 0)) (ci := 3) (C := RX3) (T := TX3) (N := 16) (fs := (cM ad σ mt ((Lx (1 + (ix v))).getD 0 0))) (fk := 0) F hinX3 (hC.2.2.2.2.2.2.2.1 ((Lx (1 + (ix v))).getD 0 0) (hlo.get (i := (1 + (ix v))) (a := 0) (by omega) hlen)).1 rfl rfl (by decide) (by decide +kernel) rfl rfl dX5_takeReceipt_38 ?_
    refine g_imul F dX5_takeReceipt_41 ?_
    refine g_aload_n F 0 dX5_takeReceipt_42 rfl rfl ?_
    refine g_getf (k := 17) (i := ((Lx (1 + (ix v))).getD 0 0)) (ci := 3) (C := RX3) (T := TX3) (N := 16) (fs := (cM ad σ mt ((Lx (1 + (ix v))).getD 0 0))) (fk := 12) F hinX3 (hC.2.2.2.2.2.2.2.1 ((Lx (1 + (ix v))).getD 0 0) (hlo.get (i := (1 + (ix v))) (a := 0) (by omega) hlen)).1 rfl rfl (by decide) (by decide +kernel) rfl rfl dX5_takeReceipt_43 ?_
    refine g_iadd F dX5_takeReceipt_46 ?_
    exact x_qi F hr hlocks (fun _ h => h) ⟨⟨hc2, zc3⟩, rfl, rfl, rfl, rfl⟩ (by decide) (by decide) dX5_takeReceipt_47
  ·
    exact x_throw_is F hfl (by decide +kernel) (by decide +kernel) (by decide +kernel) (is := 193) (sa := D.2 100 17) F.2.2.2.2.2.2.2.2.2.2.2.2 hno hlocks (.inr ⟨rfl, hc2, zc3⟩) dX5_takeReceipt_16 dX5_takeReceipt_19 dX5_takeReceipt_20 dX5_takeReceipt_22 dX5_takeReceipt_25 (Nat.le_of_ble_eq_true rfl) (Nat.le_of_ble_eq_true rfl) (Nat.le_of_ble_eq_true rfl) (Nat.le_of_ble_eq_true rfl) (Nat.le_of_ble_eq_true rfl) (Nat.le_of_ble_eq_true rfl)
theorem lt_ix {v : Int32} {n : Nat} (hn : n ≤ 1000) (h1 : ¬ v < 0) (h2 : ¬ nI n ≤ v) : v = nI (ix v) ∧ ix v < n := ix_mg hn ((inR_n hn).mpr ⟨h1, Int32.not_le.mp h2⟩)
