def DOK (n tq : Nat) (mt tn : Nat → Nat) (s : CSt) (j : Nat) : Prop := FIN n s.1 s.2.1 j ∧ s.2.2.2 j < elen s.1 j ∧ mt j < tq ∧ tn (mt j) ≤ 8
/-- waiting messages can end, and queues hold waiting messages alone -/
def WOK (n tq : Nat) (mt tn : Nat → Nat) (s : CSt) : Prop := (∀ j, j < n → s.1 23 j = 0 → DOK n tq mt tn s j) ∧ ∀ r, r < 6 → ∀ j ∈ s.2.1 (5 + r), j < n ∧ s.1 23 j = 0
theorem fiL_0 (σ : SG) (Lx : Nat → List Nat) (j : Nat) : fiL σ Lx j 0 = Lx 0 := by
  have h : fiQ σ Lx j 0 = Lx 0 := va_up_ne _ _ (by omega)
  unfold fiL
  split
  · exact h
  · rw [va_up_ne _ _ (by omega), h]
def exT (s : CSt) : Nat → CSt × Nat
  | 0 => (s, 0)
  | k + 1 => if exP (exT s k).1.1 k then (finT k 2 (exT s k).1, (exT s k).2 + 1) else exT s k
theorem exT_y {s : CSt} {k : Nat} (h : exP (exT s k).1.1 k) : exT s (k + 1) = (finT k 2 (exT s k).1, (exT s k).2 + 1) := if_pos h
theorem exT_n {s : CSt} {k : Nat} (h : ¬ exP (exT s k).1.1 k) : exT s (k + 1) = exT s k := if_neg h
theorem exT_L (s : CSt) : ∀ k, (exT s k).1.2.1 0 = s.2.1 0
  | 0 => rfl
  | k + 1 => by
    by_cases h : exP (exT s k).1.1 k
    · rw [exT_y h]; exact (fiL_0 _ _ _).trans (exT_L s k)
    · rw [exT_n h]; exact exT_L s k
theorem exT_s (s : CSt) (k : Nat) : (exT s k).2 ≤ (exT s (k + 1)).2 := by
  by_cases h : exP (exT s k).1.1 k
  · rw [exT_y h]; exact Nat.le_succ _
  · rw [exT_n h]; exact Nat.le_refl _
theorem exT_m (s : CSt) {k n : Nat} (h : k ≤ n) : (exT s k).2 ≤ (exT s n).2 := by
  induction h with
  | refl => exact Nat.le_refl _
  | step _ ih => exact Nat.le_trans ih (exT_s s _)
set_option maxHeartbeats 4000000 in
set_option maxRecDepth 100000 in
theorem cc_expire (l : Launch) (D : va_G) (A : Nat → Prop) (cs : Nat → ClassId) (ad : Nat → Nat → Nat) (dm : Nat → Nat → Prop) (σ : SG) (Lx : Nat → List Nat) (cap : Nat → Nat) (mk : Nat → Int32) (ev : SG) (zl tx mt tn : Nat → Nat) (tc : SG) (w0 : CF) (n tq : Nat) (hC : CD dm n cap tq)  (hn40 : n ≤ 40) (hL : Lx 0 = List.range n) (hlo : LO n Lx cap) (hn22 : ¬ dm 22 0) (hw : ∀ k, k < n → WOK n tq mt tn (exT (σ, Lx, ev, zl) k).1) : Met l yX5_expireMessages wsX5_expireMessages ({ frames := 8, cells := (exT (σ, Lx, ev, zl) n).2, slots := (60 * (exT (σ, Lx, ev, zl) n).2), locals := 262 }) (va_Pc [.ref (ad 10 0)] (PW D A (tysG cs) ad dm (cw D ad cs σ Lx cap mk ev zl tx mt tn tc w0))) (QW D A (tysG cs) (fun rz ad1 dm1 w1 => rz = none ∧ EXP D cs n tq ad dm (exT (σ, Lx, ev, zl) n).1.1 (exT (σ, Lx, ev, zl) n).1.2.1 (exT (σ, Lx, ev, zl) n).1.2.2.1 (exT (σ, Lx, ev, zl) n).1.2.2.2 tx mt tn tc w0 ad1 dm1 w1)) (exT (σ, Lx, ev, zl) n).2 (60 * (exT (σ, Lx, ev, zl) n).2) A := by
  refine g_start (own := RX5) [.ref (ad 10 0)] (cc := cX5_expireMessages) (maxL := 3) (ret := none) (lv0 := [(0, .ref (ad 10 0))]) (by decide) rfl rfl (Nat.le_of_ble_eq_true rfl) rfl ?_
  intro p e s m below meth c F hr hlocks hno
  have hinX3 : ∀ w ∈ wsX30, w ∈ wsX5_expireMessages := by decide +kernel
  have hinX5 : ∀ w ∈ wsX50, w ∈ wsX5_expireMessages := by decide +kernel
  refine g_iconst F dX5_expireMessages_0 (v := 0) (by decide) ?_
  refine g_istore_n F (lv1 := [(1, .int 0), (0, .ref (ad 10 0))]) dX5_expireMessages_1 rfl (by decide) rfl ?_
  refine g_loopP n 0 (Nat.zero_le _) (fun zk1 ad1 dm1 w1 lv1 => EXP D cs n tq ad dm (exT (σ, Lx, ev, zl) zk1).1.1 (exT (σ, Lx, ev, zl) zk1).1.2.1 (exT (σ, Lx, ev, zl) zk1).1.2.2.1 (exT (σ, Lx, ev, zl) zk1).1.2.2.2 tx mt tn tc w0 ad1 dm1 w1 ∧ lv1 = [(1, .int (nI zk1)), (0, .ref (ad 10 0))]) (fun zk1 => (exT (σ, Lx, ev, zl) zk1).2) (fun zk1 => 60 * ((exT (σ, Lx, ev, zl) zk1).2)) rfl rfl ⟨EXP.same hC hlo, rfl⟩ ?_ (fun zk1 zhk2 zhk3 zih4 => ?_)
  ·
    intro ad9 dm9 w9 lv9 h9
    obtain ⟨⟨gzk1N, dzk1N, cpzk1N, mqzk1N, rfl, rfl, hCzk1N, hlozk1N, rfl⟩, rfl⟩ := h9
    have hLzk1N : (exT (σ, Lx, ev, zl) n).1.2.1 0 = List.range n := (exT_L (σ, Lx, ev, zl) n).trans hL
    show GG p l e _ s m _ below meth c D A (r16 ad gzk1N) (r16 dm dzk1N) _ (exT (σ, Lx, ev, zl) n).2 (60 * ((exT (σ, Lx, ev, zl) n).2)) _ (cw D (r16 ad gzk1N) cs (exT (σ, Lx, ev, zl) n).1.1 (exT (σ, Lx, ev, zl) n).1.2.1 cpzk1N mqzk1N (exT (σ, Lx, ev, zl) n).1.2.2.1 (exT (σ, Lx, ev, zl) n).1.2.2.2 tx mt tn tc w0) 2 [(1, .int (nI n)), (0, .ref ((r16 ad gzk1N) 10 0))] []
    have hcs := Nat.le_refl (exT (σ, Lx, ev, zl) n).2
    refine g_iload_n F 0 dX5_expireMessages_2 rfl rfl ?_
    refine g_aload_n F 1 dX5_expireMessages_3 rfl rfl ?_
    refine g_getf (k := 10) (i := 0) (ci := 5) (C := RX5) (T := TX5) (N := 4) (fs := (cO (r16 ad gzk1N) (exT (σ, Lx, ev, zl) n).1.1)) (fk := 2) F hinX5 hCzk1N.1 rfl rfl (by decide) (by decide +kernel) rfl rfl dX5_expireMessages_4 ?_
    refine q_callV F (C := RJx4a65c) (k := 15) (i := 0) (ci := 0) (T := TJx4a65c) (N := 3) (rest := [.int (nI n)]) [] (cl_size0 l D A cs (r16 ad gzk1N) (r16 dm dzk1N) (exT (σ, Lx, ev, zl) n).1.1 (exT (σ, Lx, ev, zl) n).1.2.1 cpzk1N mqzk1N (exT (σ, Lx, ev, zl) n).1.2.2.1 (exT (σ, Lx, ev, zl) n).1.2.2.2 tx mt tn tc w0 n tq hCzk1N hn40 hLzk1N hlozk1N) (cwV 0 F.1.2.2.2.2 gX5_expireMessages_Jx4a65c_size_8abf5 rfl rfl rfl (by decide +kernel) ⟨Nat.le_of_ble_eq_true rfl, Nat.le_of_ble_eq_true rfl⟩) rfl (hCzk1N.2.2.2.2.2.1 0 (by omega)) rfl rfl rfl rfl (Nat.le_of_ble_eq_true rfl) dX5_expireMessages_7 ⟨by show (exT (σ, Lx, ev, zl) n).2 + 0 ≤ (exT (σ, Lx, ev, zl) n).2; omega, by show 60 * (exT (σ, Lx, ev, zl) n).2 + 0 ≤ 60 * (exT (σ, Lx, ev, zl) n).2; omega⟩ (fun _ _ _ _ zv5 => ?_)
    obtain ⟨rfl, rfl, rfl, rfl⟩ := zv5
    show GG p l e _ s m _ below meth c D A (r16 ad gzk1N) (r16 dm dzk1N) _ _ _ _ (cw D (r16 ad gzk1N) cs (exT (σ, Lx, ev, zl) n).1.1 (exT (σ, Lx, ev, zl) n).1.2.1 cpzk1N mqzk1N (exT (σ, Lx, ev, zl) n).1.2.2.1 (exT (σ, Lx, ev, zl) n).1.2.2.2 tx mt tn tc w0) 10 _ [.int (nI n), .int (nI n)]
    refine g_icmp_ge F (tgt := 59) dX5_expireMessages_10 (by decide) (fun zc6 => ?_) (fun zc6 => ?_)
    ·
      exact g_qv F hr hlocks (fun _ h => h) ⟨rfl, ⟨gzk1N, dzk1N, cpzk1N, mqzk1N, rfl, rfl, hCzk1N, hlozk1N, rfl⟩⟩ (Nat.le_refl _) (Nat.le_refl _) dX5_expireMessages_59
    ·
      exact absurd ((nI_leE (show (nI n) = nI n from rfl) (show (nI n) = nI n from rfl) (show n < 2 ^ 31 by omega) (show n < 2 ^ 31 by omega)).mpr (by omega)) zc6
  ·
    intro ad9 dm9 w9 lv9 h9
    obtain ⟨⟨gzk1, dzk1, cpzk1, mqzk1, rfl, rfl, hCzk1, hlozk1, rfl⟩, rfl⟩ := h9
    have hLzk1 : (exT (σ, Lx, ev, zl) zk1).1.2.1 0 = List.range n := (exT_L (σ, Lx, ev, zl) zk1).trans hL
    show GG p l e _ s m _ below meth c D A (r16 ad gzk1) (r16 dm dzk1) _ (exT (σ, Lx, ev, zl) zk1).2 (60 * ((exT (σ, Lx, ev, zl) zk1).2)) _ (cw D (r16 ad gzk1) cs (exT (σ, Lx, ev, zl) zk1).1.1 (exT (σ, Lx, ev, zl) zk1).1.2.1 cpzk1 mqzk1 (exT (σ, Lx, ev, zl) zk1).1.2.2.1 (exT (σ, Lx, ev, zl) zk1).1.2.2.2 tx mt tn tc w0) 2 [(1, .int (nI zk1)), (0, .ref ((r16 ad gzk1) 10 0))] []
    have hcs := exT_m (σ, Lx, ev, zl) (show zk1 + 1 ≤ n from zhk3)
    have hcs0 := exT_s (σ, Lx, ev, zl) zk1
    refine g_iload_n F 0 dX5_expireMessages_2 rfl rfl ?_
    refine g_aload_n F 1 dX5_expireMessages_3 rfl rfl ?_
    refine g_getf (k := 10) (i := 0) (ci := 5) (C := RX5) (T := TX5) (N := 4) (fs := (cO (r16 ad gzk1) (exT (σ, Lx, ev, zl) zk1).1.1)) (fk := 2) F hinX5 hCzk1.1 rfl rfl (by decide) (by decide +kernel) rfl rfl dX5_expireMessages_4 ?_
    refine q_callV F (C := RJx4a65c) (k := 15) (i := 0) (ci := 0) (T := TJx4a65c) (N := 3) (rest := [.int (nI zk1)]) [] (cl_size0 l D A cs (r16 ad gzk1) (r16 dm dzk1) (exT (σ, Lx, ev, zl) zk1).1.1 (exT (σ, Lx, ev, zl) zk1).1.2.1 cpzk1 mqzk1 (exT (σ, Lx, ev, zl) zk1).1.2.2.1 (exT (σ, Lx, ev, zl) zk1).1.2.2.2 tx mt tn tc w0 n tq hCzk1 hn40 hLzk1 hlozk1) (cwV 0 F.1.2.2.2.2 gX5_expireMessages_Jx4a65c_size_8abf5 rfl rfl rfl (by decide +kernel) ⟨Nat.le_of_ble_eq_true rfl, Nat.le_of_ble_eq_true rfl⟩) rfl (hCzk1.2.2.2.2.2.1 0 (by omega)) rfl rfl rfl rfl (Nat.le_of_ble_eq_true rfl) dX5_expireMessages_7 ⟨by show (exT (σ, Lx, ev, zl) zk1).2 + 0 ≤ (exT (σ, Lx, ev, zl) n).2; omega, by show 60 * (exT (σ, Lx, ev, zl) zk1).2 + 0 ≤ 60 * (exT (σ, Lx, ev, zl) n).2; omega⟩ (fun _ _ _ _ zv7 => ?_)
    obtain ⟨rfl, rfl, rfl, rfl⟩ := zv7
    show GG p l e _ s m _ below meth c D A (r16 ad gzk1) (r16 dm dzk1) _ _ _ _ (cw D (r16 ad gzk1) cs (exT (σ, Lx, ev, zl) zk1).1.1 (exT (σ, Lx, ev, zl) zk1).1.2.1 cpzk1 mqzk1 (exT (σ, Lx, ev, zl) zk1).1.2.2.1 (exT (σ, Lx, ev, zl) zk1).1.2.2.2 tx mt tn tc w0) 10 _ [.int (nI n), .int (nI zk1)]
    refine g_icmp_ge F (tgt := 59) dX5_expireMessages_10 (by decide) (fun zc8 => ?_) (fun zc8 => ?_)
    ·
      exact absurd ((nI_leE (show (nI n) = nI n from rfl) (show (nI zk1) = nI zk1 from rfl) (show n < 2 ^ 31 by omega) (show zk1 < 2 ^ 31 by omega)).mp zc8) (by omega)
    ·
      refine g_aload_n F 1 dX5_expireMessages_13 rfl rfl ?_
      refine g_getf (k := 10) (i := 0) (ci := 5) (C := RX5) (T := TX5) (N := 4) (fs := (cO (r16 ad gzk1) (exT (σ, Lx, ev, zl) zk1).1.1)) (fk := 2) F hinX5 hCzk1.1 rfl rfl (by decide) (by decide +kernel) rfl rfl dX5_expireMessages_14 ?_
      refine g_iload_n F 0 dX5_expireMessages_17 rfl rfl ?_
      refine q_callV F (C := RJx4a65c) (k := 15) (i := 0) (ci := 0) (T := TJx4a65c) (N := 3) (rest := []) [.int (nI zk1)] (cl_get0 l D A cs (r16 ad gzk1) (r16 dm dzk1) (exT (σ, Lx, ev, zl) zk1).1.1 (exT (σ, Lx, ev, zl) zk1).1.2.1 cpzk1 mqzk1 (exT (σ, Lx, ev, zl) zk1).1.2.2.1 (exT (σ, Lx, ev, zl) zk1).1.2.2.2 tx mt tn tc w0 n tq hCzk1 zk1 hn40 hLzk1 hlozk1 (by omega)) (cwV 1 F.1.2.2.2.2 gX5_expireMessages_Jx4a65c_get_915e3 rfl rfl rfl (by decide +kernel) ⟨Nat.le_of_ble_eq_true rfl, Nat.le_of_ble_eq_true rfl⟩) rfl (hCzk1.2.2.2.2.2.1 0 (by omega)) rfl rfl rfl rfl (Nat.le_of_ble_eq_true rfl) dX5_expireMessages_18 ⟨by show (exT (σ, Lx, ev, zl) zk1).2 + 0 ≤ (exT (σ, Lx, ev, zl) n).2; omega, by show 60 * (exT (σ, Lx, ev, zl) zk1).2 + 0 ≤ 60 * (exT (σ, Lx, ev, zl) n).2; omega⟩ (fun _ _ _ _ zv9 => ?_)
      obtain ⟨rfl, rfl, rfl, rfl⟩ := zv9
      show GG p l e _ s m _ below meth c D A (r16 ad gzk1) (r16 dm dzk1) _ _ _ _ (cw D (r16 ad gzk1) cs (exT (σ, Lx, ev, zl) zk1).1.1 (exT (σ, Lx, ev, zl) zk1).1.2.1 cpzk1 mqzk1 (exT (σ, Lx, ev, zl) zk1).1.2.2.1 (exT (σ, Lx, ev, zl) zk1).1.2.2.2 tx mt tn tc w0) 21 _ [.ref ((r16 ad gzk1) 17 zk1)]
      refine ca_castM (i := zk1) F hCzk1 (by omega) (by decide +kernel) dX5_expireMessages_21 ?_
      refine g_astore_n F (lv1 := [(2, .ref ((r16 ad gzk1) 17 zk1)), (1, .int (nI zk1)), (0, .ref ((r16 ad gzk1) 10 0))]) dX5_expireMessages_24 rfl (by decide) rfl ?_
      refine g_aload_n F 0 dX5_expireMessages_25 rfl rfl ?_
      refine g_getf (k := 17) (i := zk1) (ci := 3) (C := RX3) (T := TX3) (N := 16) (fs := (cM (r16 ad gzk1) (exT (σ, Lx, ev, zl) zk1).1.1 mt zk1)) (fk := 12) F hinX3 (hCzk1.2.2.2.2.2.2.2.1 zk1 (by omega)).1 rfl rfl (by decide) (by decide +kernel) rfl rfl dX5_expireMessages_26 ?_
      refine g_if_ne F (tgt := 53) dX5_expireMessages_29 (by decide) (fun zc10 => ?_) (fun zc10 => ?_)
      ·
        refine g_iinc F (v := (nI (zk1 + 1))) (lv1 := [(1, .int (nI (zk1 + 1))), (2, .ref ((r16 ad gzk1) 17 zk1)), (0, .ref ((r16 ad gzk1) 10 0))]) 1 dX5_expireMessages_53 rfl (nI_1 zk1) (by decide) rfl ?_
        refine g_goto F (tgt := 2) dX5_expireMessages_56 (by decide) ?_
        exact g_widen (by have q9 := congrArg Prod.snd (exT_n (s := (σ, Lx, ev, zl)) (fun q => zc10 q.1)); (try simp only at q9); show (exT (σ, Lx, ev, zl) zk1).2 + 0 ≤ (exT (σ, Lx, ev, zl) (zk1 + 1)).2; omega) (by have q9 := congrArg Prod.snd (exT_n (s := (σ, Lx, ev, zl)) (fun q => zc10 q.1)); (try simp only at q9); show 60 * (exT (σ, Lx, ev, zl) zk1).2 + 0 ≤ 60 * (exT (σ, Lx, ev, zl) (zk1 + 1)).2; omega) (g_lv [0, 2] rfl (zih4 _ _ _ _ ⟨by rw [(exT_n (s := (σ, Lx, ev, zl)) (fun q => zc10 q.1))]; exact ⟨gzk1, dzk1, cpzk1, mqzk1, rfl, rfl, hCzk1, hlozk1, rfl⟩, rfl⟩))
      ·
        refine g_aload_n F 2 dX5_expireMessages_32 rfl rfl ?_
        refine g_getf (k := 10) (i := 0) (ci := 5) (C := RX5) (T := TX5) (N := 4) (fs := (cO (r16 ad gzk1) (exT (σ, Lx, ev, zl) zk1).1.1)) (fk := 3) F hinX5 hCzk1.1 rfl rfl (by decide) (by decide +kernel) rfl rfl dX5_expireMessages_33 ?_
        refine g_aload_n F 0 dX5_expireMessages_36 rfl rfl ?_
        refine g_getf (k := 17) (i := zk1) (ci := 3) (C := RX3) (T := TX3) (N := 16) (fs := (cM (r16 ad gzk1) (exT (σ, Lx, ev, zl) zk1).1.1 mt zk1)) (fk := 9) F hinX3 (hCzk1.2.2.2.2.2.2.2.1 zk1 (by omega)).1 rfl rfl (by decide) (by decide +kernel) rfl rfl dX5_expireMessages_37 ?_
        refine g_isub F dX5_expireMessages_40 ?_
        refine g_aload_n F 0 dX5_expireMessages_41 rfl rfl ?_
        refine g_getf (k := 17) (i := zk1) (ci := 3) (C := RX3) (T := TX3) (N := 16) (fs := (cM (r16 ad gzk1) (exT (σ, Lx, ev, zl) zk1).1.1 mt zk1)) (fk := 8) F hinX3 (hCzk1.2.2.2.2.2.2.2.1 zk1 (by omega)).1 rfl rfl (by decide) (by decide +kernel) rfl rfl dX5_expireMessages_42 ?_
        refine g_icmp_lt F (tgt := 53) dX5_expireMessages_45 (by decide) (fun zc11 => ?_) (fun zc11 => ?_)
        ·
          refine g_iinc F (v := (nI (zk1 + 1))) (lv1 := [(1, .int (nI (zk1 + 1))), (2, .ref ((r16 ad gzk1) 17 zk1)), (0, .ref ((r16 ad gzk1) 10 0))]) 1 dX5_expireMessages_53 rfl (nI_1 zk1) (by decide) rfl ?_
          refine g_goto F (tgt := 2) dX5_expireMessages_56 (by decide) ?_
          exact g_widen (by have q9 := congrArg Prod.snd (exT_n (s := (σ, Lx, ev, zl)) (fun q => q.2 zc11)); (try simp only at q9); show (exT (σ, Lx, ev, zl) zk1).2 + 0 ≤ (exT (σ, Lx, ev, zl) (zk1 + 1)).2; omega) (by have q9 := congrArg Prod.snd (exT_n (s := (σ, Lx, ev, zl)) (fun q => q.2 zc11)); (try simp only at q9); show 60 * (exT (σ, Lx, ev, zl) zk1).2 + 0 ≤ 60 * (exT (σ, Lx, ev, zl) (zk1 + 1)).2; omega) (g_lv [0, 2] rfl (zih4 _ _ _ _ ⟨by rw [(exT_n (s := (σ, Lx, ev, zl)) (fun q => q.2 zc11))]; exact ⟨gzk1, dzk1, cpzk1, mqzk1, rfl, rfl, hCzk1, hlozk1, rfl⟩, rfl⟩))
        ·
          refine g_aload_n F 0 dX5_expireMessages_48 rfl rfl ?_
          refine g_iconst F dX5_expireMessages_49 (v := 2) (by decide) ?_
          refine q_callV F (C := RX3) (k := 17) (i := zk1) (ci := 3) (T := TX3) (N := 16) (rest := []) [.int 2] (cc_finish l D A cs (r16 ad gzk1) (r16 dm dzk1) (exT (σ, Lx, ev, zl) zk1).1.1 (exT (σ, Lx, ev, zl) zk1).1.2.1 cpzk1 mqzk1 (exT (σ, Lx, ev, zl) zk1).1.2.2.1 (exT (σ, Lx, ev, zl) zk1).1.2.2.2 tx mt tn tc w0 n tq hCzk1 zk1 2 hn22 hlozk1 (by omega) ((hw zk1 zhk3).1 zk1 zhk3 zc10).1 (fun _ => ((hw zk1 zhk3).1 zk1 zhk3 zc10).2.1)) (cwV 1 F.1.2.2.2.2 gX5_expireMessages_X3_finish rfl rfl rfl (by decide +kernel) ⟨Nat.le_of_ble_eq_true rfl, Nat.le_of_ble_eq_true rfl⟩) rfl (hCzk1.2.2.2.2.2.2.2.1 zk1 (by omega)).1 rfl rfl rfl rfl (Nat.le_of_ble_eq_true rfl) dX5_expireMessages_50 ⟨by have q9 := congrArg Prod.snd (exT_y (s := (σ, Lx, ev, zl)) (k := zk1) ⟨zc10, zc11⟩); show (exT (σ, Lx, ev, zl) zk1).2 + 1 ≤ (exT (σ, Lx, ev, zl) n).2; (try simp only at q9); omega, by have q9 := congrArg Prod.snd (exT_y (s := (σ, Lx, ev, zl)) (k := zk1) ⟨zc10, zc11⟩); show 60 * (exT (σ, Lx, ev, zl) zk1).2 + 60 ≤ 60 * (exT (σ, Lx, ev, zl) n).2; (try simp only at q9); omega⟩ (fun _ _ _ _ zv12 => ?_)
          obtain ⟨rfl, g50, d50, cp50, mq50, rfl, rfl, hC50, hlo50, rfl⟩ := zv12
          show GG p l e _ s m _ below meth c D A (r16 (r16 ad gzk1) g50) (r16 (r16 dm dzk1) d50) _ _ _ _ (cw D (r16 (r16 ad gzk1) g50) cs (finT zk1 2 ((exT (σ, Lx, ev, zl) zk1).1.1, (exT (σ, Lx, ev, zl) zk1).1.2.1, (exT (σ, Lx, ev, zl) zk1).1.2.2.1, (exT (σ, Lx, ev, zl) zk1).1.2.2.2)).1 (finT zk1 2 ((exT (σ, Lx, ev, zl) zk1).1.1, (exT (σ, Lx, ev, zl) zk1).1.2.1, (exT (σ, Lx, ev, zl) zk1).1.2.2.1, (exT (σ, Lx, ev, zl) zk1).1.2.2.2)).2.1 cp50 mq50 (finT zk1 2 ((exT (σ, Lx, ev, zl) zk1).1.1, (exT (σ, Lx, ev, zl) zk1).1.2.1, (exT (σ, Lx, ev, zl) zk1).1.2.2.1, (exT (σ, Lx, ev, zl) zk1).1.2.2.2)).2.2.1 (finT zk1 2 ((exT (σ, Lx, ev, zl) zk1).1.1, (exT (σ, Lx, ev, zl) zk1).1.2.1, (exT (σ, Lx, ev, zl) zk1).1.2.2.1, (exT (σ, Lx, ev, zl) zk1).1.2.2.2)).2.2.2 tx mt tn tc w0) 53 _ []
          refine g_iinc F (v := (nI (zk1 + 1))) (lv1 := [(1, .int (nI (zk1 + 1))), (2, .ref ((r16 (r16 ad gzk1) g50) 17 zk1)), (0, .ref ((r16 (r16 ad gzk1) g50) 10 0))]) 1 dX5_expireMessages_53 rfl (nI_1 zk1) (by decide) rfl ?_
          refine g_goto F (tgt := 2) dX5_expireMessages_56 (by decide) ?_
          exact g_widen (by have q9 := congrArg Prod.snd (exT_y (s := (σ, Lx, ev, zl)) ⟨zc10, zc11⟩); (try simp only at q9); show (exT (σ, Lx, ev, zl) zk1).2 + 1 ≤ (exT (σ, Lx, ev, zl) (zk1 + 1)).2; omega) (by have q9 := congrArg Prod.snd (exT_y (s := (σ, Lx, ev, zl)) ⟨zc10, zc11⟩); (try simp only at q9); show 60 * (exT (σ, Lx, ev, zl) zk1).2 + 60 ≤ 60 * (exT (σ, Lx, ev, zl) (zk1 + 1)).2; omega) (g_lv [0, 2] rfl (zih4 _ _ _ _ ⟨by rw [(exT_y (s := (σ, Lx, ev, zl)) ⟨zc10, zc11⟩)]; exact EXP.trans ⟨g50, d50, cp50, mq50, rfl, rfl, hC50, hlo50, rfl⟩, rfl⟩))
abbrev dqC (σ : SG) (j0 k : Nat) : Prop := (σ 23 k) = 0 ∧ (σ 24 k) = 0 ∧ (σ 20 k) = (σ 20 j0) ∧ (ix (σ 12 k) = ix (σ 12 j0) ∧ ix (σ 13 k) = ix (σ 13 j0))
def dqT (j0 : Nat) (s : CSt) : Nat → CSt × Nat
  | 0 => (s, 0)
  | k + 1 => if dqC (dqT j0 s k).1.1 j0 k then (finT k 3 (dqT j0 s k).1, (dqT j0 s k).2 + 1) else dqT j0 s k
theorem dqT_y {j0 : Nat} {s : CSt} {k : Nat} (h : dqC (dqT j0 s k).1.1 j0 k) : dqT j0 s (k + 1) = (finT k 3 (dqT j0 s k).1, (dqT j0 s k).2 + 1) := if_pos h
theorem dqT_n {j0 : Nat} {s : CSt} {k : Nat} (h : ¬ dqC (dqT j0 s k).1.1 j0 k) : dqT j0 s (k + 1) = dqT j0 s k := if_neg h
theorem dqT_L (j0 : Nat) (s : CSt) : ∀ k, (dqT j0 s k).1.2.1 0 = s.2.1 0
  | 0 => rfl
  | k + 1 => by
    by_cases h : dqC (dqT j0 s k).1.1 j0 k
    · rw [dqT_y h]; exact (fiL_0 _ _ _).trans (dqT_L j0 s k)
    · rw [dqT_n h]; exact dqT_L j0 s k
theorem dqT_f (j0 : Nat) (s : CSt) {f : Nat} (hf : f ≠ 23) (i : Nat) : ∀ k, (dqT j0 s k).1.1 f i = s.1 f i
  | 0 => rfl
  | k + 1 => by
    by_cases h : dqC (dqT j0 s k).1.1 j0 k
    · rw [dqT_y h]; exact (up2_ne _ _ (fun q => hf q.1)).trans (dqT_f j0 s hf i k)
    · rw [dqT_n h]; exact dqT_f j0 s hf i k
theorem dqT_s (j0 : Nat) (s : CSt) (k : Nat) : (dqT j0 s k).2 ≤ (dqT j0 s (k + 1)).2 := by
  by_cases h : dqC (dqT j0 s k).1.1 j0 k
  · rw [dqT_y h]; exact Nat.le_succ _
  · rw [dqT_n h]; exact Nat.le_refl _
theorem dqT_m (j0 : Nat) (s : CSt) {k n : Nat} (h : k ≤ n) : (dqT j0 s k).2 ≤ (dqT j0 s n).2 := by
  induction h with
  | refl => exact Nat.le_refl _
  | step _ ih => exact Nat.le_trans ih (dqT_s j0 s _)
def dqA (j0 : Nat) (s : CSt) : CSt × Nat := if s.1 20 j0 = 0 then (s, 0) else dqT j0 s j0
set_option maxHeartbeats 4000000 in
set_option maxRecDepth 100000 in
theorem cc_replaced (l : Launch) (D : va_G) (A : Nat → Prop) (cs : Nat → ClassId) (ad : Nat → Nat → Nat) (dm : Nat → Nat → Prop) (σ : SG) (Lx : Nat → List Nat) (cap : Nat → Nat) (mk : Nat → Int32) (ev : SG) (zl tx mt tn : Nat → Nat) (tc : SG) (w0 : CF) (n tq : Nat) (hC : CD dm n cap tq) (j0 : Nat) (hn40 : n ≤ 40) (hL : Lx 0 = List.range n) (hlo : LO n Lx cap) (hn22 : ¬ dm 22 0) (hrg : ∀ j, j < n → ix (σ 12 j) < 4 ∧ ix (σ 13 j) < 6) (hj0 : j0 < n) (hw : ∀ k, k < j0 → WOK n tq mt tn (dqT j0 (σ, Lx, ev, zl) k).1) : Met l yX5_deleteReplacedBy wsX5_deleteReplacedBy ({ frames := 8, cells := (dqA j0 (σ, Lx, ev, zl)).2, slots := (60 * (dqA j0 (σ, Lx, ev, zl)).2), locals := 262 }) (va_Pc [.ref (ad 10 0), .ref (ad 17 j0)] (PW D A (tysG cs) ad dm (cw D ad cs σ Lx cap mk ev zl tx mt tn tc w0))) (QW D A (tysG cs) (fun rz ad1 dm1 w1 => rz = none ∧ EXP D cs n tq ad dm (dqA j0 (σ, Lx, ev, zl)).1.1 (dqA j0 (σ, Lx, ev, zl)).1.2.1 (dqA j0 (σ, Lx, ev, zl)).1.2.2.1 (dqA j0 (σ, Lx, ev, zl)).1.2.2.2 tx mt tn tc w0 ad1 dm1 w1)) (dqA j0 (σ, Lx, ev, zl)).2 (60 * (dqA j0 (σ, Lx, ev, zl)).2) A := by
  refine g_start (own := RX5) [.ref (ad 10 0), .ref (ad 17 j0)] (cc := cX5_deleteReplacedBy) (maxL := 4) (ret := none) (lv0 := [(0, .ref (ad 10 0)), (1, .ref (ad 17 j0))]) (by decide) rfl rfl (Nat.le_of_ble_eq_true rfl) rfl ?_
  intro p e s m below meth c F hr hlocks hno
  have hinX3 : ∀ w ∈ wsX30, w ∈ wsX5_deleteReplacedBy := by decide +kernel
  have hinX5 : ∀ w ∈ wsX50, w ∈ wsX5_deleteReplacedBy := by decide +kernel
  refine g_aload_n F 1 dX5_deleteReplacedBy_0 rfl rfl ?_
  refine g_getf (k := 17) (i := j0) (ci := 3) (C := RX3) (T := TX3) (N := 16) (fs := (cM ad σ mt j0)) (fk := 4) F hinX3 (hC.2.2.2.2.2.2.2.1 j0 (by omega)).1 rfl rfl (by decide) (by decide +kernel) rfl rfl dX5_deleteReplacedBy_1 ?_
  refine g_if_ne F (tgt := 8) dX5_deleteReplacedBy_4 (by decide) (fun zc1 => ?_) (fun zc1 => ?_)
  ·
    refine g_iconst F dX5_deleteReplacedBy_8 (v := 0) (by decide) ?_
    refine g_istore_n F (lv1 := [(2, .int 0), (0, .ref (ad 10 0)), (1, .ref (ad 17 j0))]) dX5_deleteReplacedBy_9 rfl (by decide) rfl ?_
    refine g_loopP j0 0 (Nat.zero_le _) (fun zk2 ad1 dm1 w1 lv1 => EXP D cs n tq ad dm (dqT j0 (σ, Lx, ev, zl) zk2).1.1 (dqT j0 (σ, Lx, ev, zl) zk2).1.2.1 (dqT j0 (σ, Lx, ev, zl) zk2).1.2.2.1 (dqT j0 (σ, Lx, ev, zl) zk2).1.2.2.2 tx mt tn tc w0 ad1 dm1 w1 ∧ lv1 = [(2, .int (nI zk2)), (0, .ref (ad 10 0)), (1, .ref (ad 17 j0))]) (fun zk2 => (dqT j0 (σ, Lx, ev, zl) zk2).2) (fun zk2 => 60 * ((dqT j0 (σ, Lx, ev, zl) zk2).2)) rfl rfl ⟨EXP.same hC hlo, rfl⟩ ?_ (fun zk2 zhk3 zhk4 zih5 => ?_)
    ·
      intro ad9 dm9 w9 lv9 h9
      obtain ⟨⟨gzk2N, dzk2N, cpzk2N, mqzk2N, rfl, rfl, hCzk2N, hlozk2N, rfl⟩, rfl⟩ := h9
      have hLzk2N : (dqT j0 (σ, Lx, ev, zl) j0).1.2.1 0 = List.range n := (dqT_L j0 (σ, Lx, ev, zl) j0).trans hL
      show GG p l e _ s m _ below meth c D A (r16 ad gzk2N) (r16 dm dzk2N) _ (dqT j0 (σ, Lx, ev, zl) j0).2 (60 * ((dqT j0 (σ, Lx, ev, zl) j0).2)) _ (cw D (r16 ad gzk2N) cs (dqT j0 (σ, Lx, ev, zl) j0).1.1 (dqT j0 (σ, Lx, ev, zl) j0).1.2.1 cpzk2N mqzk2N (dqT j0 (σ, Lx, ev, zl) j0).1.2.2.1 (dqT j0 (σ, Lx, ev, zl) j0).1.2.2.2 tx mt tn tc w0) 10 [(2, .int (nI j0)), (0, .ref ((r16 ad gzk2N) 10 0)), (1, .ref ((r16 ad gzk2N) 17 j0))] []
      have hcs := Nat.le_refl (dqT j0 (σ, Lx, ev, zl) j0).2
      have hca := congrArg Prod.snd (show (dqA j0 (σ, Lx, ev, zl)) = _ from if_neg zc1)
      (try simp only at hca)
      refine g_iload_n F 0 dX5_deleteReplacedBy_10 rfl rfl ?_
      refine g_aload_n F 2 dX5_deleteReplacedBy_11 rfl rfl ?_
      refine g_getf (k := 17) (i := j0) (ci := 3) (C := RX3) (T := TX3) (N := 16) (fs := (cM (r16 ad gzk2N) (dqT j0 (σ, Lx, ev, zl) j0).1.1 mt j0)) (fk := 0) F hinX3 (hCzk2N.2.2.2.2.2.2.2.1 j0 (by omega)).1 rfl rfl (by decide) (by decide +kernel) rfl rfl dX5_deleteReplacedBy_12 ?_
      refine g_icmp_ge F (tgt := 92) dX5_deleteReplacedBy_15 (by decide) (fun zc6 => ?_) (fun zc6 => ?_)
      ·
        exact g_qv F hr hlocks (fun _ h => h) ⟨rfl, (by rw [(show (dqA j0 (σ, Lx, ev, zl)) = _ from if_neg zc1)]; exact ⟨gzk2N, dzk2N, cpzk2N, mqzk2N, rfl, rfl, hCzk2N, hlozk2N, rfl⟩)⟩ (by show (dqT j0 (σ, Lx, ev, zl) j0).2 + 0 ≤ (dqA j0 (σ, Lx, ev, zl)).2; omega) (by show 60 * (dqT j0 (σ, Lx, ev, zl) j0).2 + 0 ≤ 60 * (dqA j0 (σ, Lx, ev, zl)).2; omega) dX5_deleteReplacedBy_92
      ·
        exact absurd ((nI_leE (show (nI j0) = nI j0 from rfl) (show (nI j0) = nI j0 from rfl) (show j0 < 2 ^ 31 by omega) (show j0 < 2 ^ 31 by omega)).mpr (by omega)) zc6
    ·
      intro ad9 dm9 w9 lv9 h9
      obtain ⟨⟨gzk2, dzk2, cpzk2, mqzk2, rfl, rfl, hCzk2, hlozk2, rfl⟩, rfl⟩ := h9
      have hLzk2 : (dqT j0 (σ, Lx, ev, zl) zk2).1.2.1 0 = List.range n := (dqT_L j0 (σ, Lx, ev, zl) zk2).trans hL
      show GG p l e _ s m _ below meth c D A (r16 ad gzk2) (r16 dm dzk2) _ (dqT j0 (σ, Lx, ev, zl) zk2).2 (60 * ((dqT j0 (σ, Lx, ev, zl) zk2).2)) _ (cw D (r16 ad gzk2) cs (dqT j0 (σ, Lx, ev, zl) zk2).1.1 (dqT j0 (σ, Lx, ev, zl) zk2).1.2.1 cpzk2 mqzk2 (dqT j0 (σ, Lx, ev, zl) zk2).1.2.2.1 (dqT j0 (σ, Lx, ev, zl) zk2).1.2.2.2 tx mt tn tc w0) 10 [(2, .int (nI zk2)), (0, .ref ((r16 ad gzk2) 10 0)), (1, .ref ((r16 ad gzk2) 17 j0))] []
      have hcs := dqT_m j0 (σ, Lx, ev, zl) (show zk2 + 1 ≤ j0 from zhk4)
      have hcs0 := dqT_s j0 (σ, Lx, ev, zl) zk2
      have hca := congrArg Prod.snd (show (dqA j0 (σ, Lx, ev, zl)) = _ from if_neg zc1)
      (try simp only at hca)
      refine g_iload_n F 0 dX5_deleteReplacedBy_10 rfl rfl ?_
      refine g_aload_n F 2 dX5_deleteReplacedBy_11 rfl rfl ?_
      refine g_getf (k := 17) (i := j0) (ci := 3) (C := RX3) (T := TX3) (N := 16) (fs := (cM (r16 ad gzk2) (dqT j0 (σ, Lx, ev, zl) zk2).1.1 mt j0)) (fk := 0) F hinX3 (hCzk2.2.2.2.2.2.2.2.1 j0 (by omega)).1 rfl rfl (by decide) (by decide +kernel) rfl rfl dX5_deleteReplacedBy_12 ?_
      refine g_icmp_ge F (tgt := 92) dX5_deleteReplacedBy_15 (by decide) (fun zc7 => ?_) (fun zc7 => ?_)
      ·
        exact absurd ((nI_leE (show (nI j0) = nI j0 from rfl) (show (nI zk2) = nI zk2 from rfl) (show j0 < 2 ^ 31 by omega) (show zk2 < 2 ^ 31 by omega)).mp zc7) (by omega)
      ·
        refine g_iload_n F 0 dX5_deleteReplacedBy_18 rfl rfl ?_
        refine g_aload_n F 1 dX5_deleteReplacedBy_19 rfl rfl ?_
        refine g_getf (k := 10) (i := 0) (ci := 5) (C := RX5) (T := TX5) (N := 4) (fs := (cO (r16 ad gzk2) (dqT j0 (σ, Lx, ev, zl) zk2).1.1)) (fk := 2) F hinX5 hCzk2.1 rfl rfl (by decide) (by decide +kernel) rfl rfl dX5_deleteReplacedBy_20 ?_
        refine q_callV F (C := RJx4a65c) (k := 15) (i := 0) (ci := 0) (T := TJx4a65c) (N := 3) (rest := [.int (nI zk2)]) [] (cl_size0 l D A cs (r16 ad gzk2) (r16 dm dzk2) (dqT j0 (σ, Lx, ev, zl) zk2).1.1 (dqT j0 (σ, Lx, ev, zl) zk2).1.2.1 cpzk2 mqzk2 (dqT j0 (σ, Lx, ev, zl) zk2).1.2.2.1 (dqT j0 (σ, Lx, ev, zl) zk2).1.2.2.2 tx mt tn tc w0 n tq hCzk2 hn40 hLzk2 hlozk2) (cwV 0 F.1.2.2.2.2 gX5_deleteReplacedBy_Jx4a65c_size_8abf5 rfl rfl rfl (by decide +kernel) ⟨Nat.le_of_ble_eq_true rfl, Nat.le_of_ble_eq_true rfl⟩) rfl (hCzk2.2.2.2.2.2.1 0 (by omega)) rfl rfl rfl rfl (Nat.le_of_ble_eq_true rfl) dX5_deleteReplacedBy_23 ⟨by show (dqT j0 (σ, Lx, ev, zl) zk2).2 + 0 ≤ (dqA j0 (σ, Lx, ev, zl)).2; omega, by show 60 * (dqT j0 (σ, Lx, ev, zl) zk2).2 + 0 ≤ 60 * (dqA j0 (σ, Lx, ev, zl)).2; omega⟩ (fun _ _ _ _ zv8 => ?_)
        obtain ⟨rfl, rfl, rfl, rfl⟩ := zv8
        show GG p l e _ s m _ below meth c D A (r16 ad gzk2) (r16 dm dzk2) _ _ _ _ (cw D (r16 ad gzk2) cs (dqT j0 (σ, Lx, ev, zl) zk2).1.1 (dqT j0 (σ, Lx, ev, zl) zk2).1.2.1 cpzk2 mqzk2 (dqT j0 (σ, Lx, ev, zl) zk2).1.2.2.1 (dqT j0 (σ, Lx, ev, zl) zk2).1.2.2.2 tx mt tn tc w0) 26 _ [.int (nI n), .int (nI zk2)]
        refine g_icmp_ge F (tgt := 92) dX5_deleteReplacedBy_26 (by decide) (fun zc9 => ?_) (fun zc9 => ?_)
        ·
          exact absurd ((nI_leE (show (nI n) = nI n from rfl) (show (nI zk2) = nI zk2 from rfl) (show n < 2 ^ 31 by omega) (show zk2 < 2 ^ 31 by omega)).mp zc9) (by omega)
        ·
          refine g_aload_n F 1 dX5_deleteReplacedBy_29 rfl rfl ?_
          refine g_getf (k := 10) (i := 0) (ci := 5) (C := RX5) (T := TX5) (N := 4) (fs := (cO (r16 ad gzk2) (dqT j0 (σ, Lx, ev, zl) zk2).1.1)) (fk := 2) F hinX5 hCzk2.1 rfl rfl (by decide) (by decide +kernel) rfl rfl dX5_deleteReplacedBy_30 ?_
          refine g_iload_n F 0 dX5_deleteReplacedBy_33 rfl rfl ?_
          refine q_callV F (C := RJx4a65c) (k := 15) (i := 0) (ci := 0) (T := TJx4a65c) (N := 3) (rest := []) [.int (nI zk2)] (cl_get0 l D A cs (r16 ad gzk2) (r16 dm dzk2) (dqT j0 (σ, Lx, ev, zl) zk2).1.1 (dqT j0 (σ, Lx, ev, zl) zk2).1.2.1 cpzk2 mqzk2 (dqT j0 (σ, Lx, ev, zl) zk2).1.2.2.1 (dqT j0 (σ, Lx, ev, zl) zk2).1.2.2.2 tx mt tn tc w0 n tq hCzk2 zk2 hn40 hLzk2 hlozk2 (by omega)) (cwV 1 F.1.2.2.2.2 gX5_deleteReplacedBy_Jx4a65c_get_915e3 rfl rfl rfl (by decide +kernel) ⟨Nat.le_of_ble_eq_true rfl, Nat.le_of_ble_eq_true rfl⟩) rfl (hCzk2.2.2.2.2.2.1 0 (by omega)) rfl rfl rfl rfl (Nat.le_of_ble_eq_true rfl) dX5_deleteReplacedBy_34 ⟨by show (dqT j0 (σ, Lx, ev, zl) zk2).2 + 0 ≤ (dqA j0 (σ, Lx, ev, zl)).2; omega, by show 60 * (dqT j0 (σ, Lx, ev, zl) zk2).2 + 0 ≤ 60 * (dqA j0 (σ, Lx, ev, zl)).2; omega⟩ (fun _ _ _ _ zv10 => ?_)
          obtain ⟨rfl, rfl, rfl, rfl⟩ := zv10
          show GG p l e _ s m _ below meth c D A (r16 ad gzk2) (r16 dm dzk2) _ _ _ _ (cw D (r16 ad gzk2) cs (dqT j0 (σ, Lx, ev, zl) zk2).1.1 (dqT j0 (σ, Lx, ev, zl) zk2).1.2.1 cpzk2 mqzk2 (dqT j0 (σ, Lx, ev, zl) zk2).1.2.2.1 (dqT j0 (σ, Lx, ev, zl) zk2).1.2.2.2 tx mt tn tc w0) 37 _ [.ref ((r16 ad gzk2) 17 zk2)]
          refine ca_castM (i := zk2) F hCzk2 (by omega) (by decide +kernel) dX5_deleteReplacedBy_37 ?_
          refine g_astore_n F (lv1 := [(3, .ref ((r16 ad gzk2) 17 zk2)), (2, .int (nI zk2)), (0, .ref ((r16 ad gzk2) 10 0)), (1, .ref ((r16 ad gzk2) 17 j0))]) dX5_deleteReplacedBy_40 rfl (by decide) rfl ?_
          refine g_aload_n F 0 dX5_deleteReplacedBy_41 rfl rfl ?_
          refine g_getf (k := 17) (i := zk2) (ci := 3) (C := RX3) (T := TX3) (N := 16) (fs := (cM (r16 ad gzk2) (dqT j0 (σ, Lx, ev, zl) zk2).1.1 mt zk2)) (fk := 12) F hinX3 (hCzk2.2.2.2.2.2.2.2.1 zk2 (by omega)).1 rfl rfl (by decide) (by decide +kernel) rfl rfl dX5_deleteReplacedBy_42 ?_
          refine g_if_ne F (tgt := 86) dX5_deleteReplacedBy_45 (by decide) (fun zc11 => ?_) (fun zc11 => ?_)
          ·
            refine g_iinc F (v := (nI (zk2 + 1))) (lv1 := [(2, .int (nI (zk2 + 1))), (3, .ref ((r16 ad gzk2) 17 zk2)), (0, .ref ((r16 ad gzk2) 10 0)), (1, .ref ((r16 ad gzk2) 17 j0))]) 1 dX5_deleteReplacedBy_86 rfl (nI_1 zk2) (by decide) rfl ?_
            refine g_goto F (tgt := 10) dX5_deleteReplacedBy_89 (by decide) ?_
            exact g_widen (by have q9 := congrArg Prod.snd (dqT_n (j0 := j0) (s := (σ, Lx, ev, zl)) (k := zk2) (fun q => zc11 q.1)); (try simp only at q9); show (dqT j0 (σ, Lx, ev, zl) zk2).2 + 0 ≤ (dqT j0 (σ, Lx, ev, zl) (zk2 + 1)).2; omega) (by have q9 := congrArg Prod.snd (dqT_n (j0 := j0) (s := (σ, Lx, ev, zl)) (k := zk2) (fun q => zc11 q.1)); (try simp only at q9); show 60 * (dqT j0 (σ, Lx, ev, zl) zk2).2 + 0 ≤ 60 * (dqT j0 (σ, Lx, ev, zl) (zk2 + 1)).2; omega) (g_lv [0, 2, 3] rfl (zih5 _ _ _ _ ⟨by rw [(dqT_n (j0 := j0) (s := (σ, Lx, ev, zl)) (k := zk2) (fun q => zc11 q.1))]; exact ⟨gzk2, dzk2, cpzk2, mqzk2, rfl, rfl, hCzk2, hlozk2, rfl⟩, rfl⟩))
          ·
            refine g_aload_n F 0 dX5_deleteReplacedBy_48 rfl rfl ?_
            refine g_getf (k := 17) (i := zk2) (ci := 3) (C := RX3) (T := TX3) (N := 16) (fs := (cM (r16 ad gzk2) (dqT j0 (σ, Lx, ev, zl) zk2).1.1 mt zk2)) (fk := 15) F hinX3 (hCzk2.2.2.2.2.2.2.2.1 zk2 (by omega)).1 rfl rfl (by decide) (by decide +kernel) rfl rfl dX5_deleteReplacedBy_49 ?_
            refine g_if_ne F (tgt := 86) dX5_deleteReplacedBy_52 (by decide) (fun zc12 => ?_) (fun zc12 => ?_)
            ·
              refine g_iinc F (v := (nI (zk2 + 1))) (lv1 := [(2, .int (nI (zk2 + 1))), (3, .ref ((r16 ad gzk2) 17 zk2)), (0, .ref ((r16 ad gzk2) 10 0)), (1, .ref ((r16 ad gzk2) 17 j0))]) 1 dX5_deleteReplacedBy_86 rfl (nI_1 zk2) (by decide) rfl ?_
              refine g_goto F (tgt := 10) dX5_deleteReplacedBy_89 (by decide) ?_
              exact g_widen (by have q9 := congrArg Prod.snd (dqT_n (j0 := j0) (s := (σ, Lx, ev, zl)) (k := zk2) (fun q => zc12 q.2.1)); (try simp only at q9); show (dqT j0 (σ, Lx, ev, zl) zk2).2 + 0 ≤ (dqT j0 (σ, Lx, ev, zl) (zk2 + 1)).2; omega) (by have q9 := congrArg Prod.snd (dqT_n (j0 := j0) (s := (σ, Lx, ev, zl)) (k := zk2) (fun q => zc12 q.2.1)); (try simp only at q9); show 60 * (dqT j0 (σ, Lx, ev, zl) zk2).2 + 0 ≤ 60 * (dqT j0 (σ, Lx, ev, zl) (zk2 + 1)).2; omega) (g_lv [0, 2, 3] rfl (zih5 _ _ _ _ ⟨by rw [(dqT_n (j0 := j0) (s := (σ, Lx, ev, zl)) (k := zk2) (fun q => zc12 q.2.1))]; exact ⟨gzk2, dzk2, cpzk2, mqzk2, rfl, rfl, hCzk2, hlozk2, rfl⟩, rfl⟩))
            ·
              refine g_aload_n F 0 dX5_deleteReplacedBy_55 rfl rfl ?_
              refine g_getf (k := 17) (i := zk2) (ci := 3) (C := RX3) (T := TX3) (N := 16) (fs := (cM (r16 ad gzk2) (dqT j0 (σ, Lx, ev, zl) zk2).1.1 mt zk2)) (fk := 4) F hinX3 (hCzk2.2.2.2.2.2.2.2.1 zk2 (by omega)).1 rfl rfl (by decide) (by decide +kernel) rfl rfl dX5_deleteReplacedBy_56 ?_
              refine g_aload_n F 3 dX5_deleteReplacedBy_59 rfl rfl ?_
              refine g_getf (k := 17) (i := j0) (ci := 3) (C := RX3) (T := TX3) (N := 16) (fs := (cM (r16 ad gzk2) (dqT j0 (σ, Lx, ev, zl) zk2).1.1 mt j0)) (fk := 4) F hinX3 (hCzk2.2.2.2.2.2.2.2.1 j0 (by omega)).1 rfl rfl (by decide) (by decide +kernel) rfl rfl dX5_deleteReplacedBy_60 ?_
              refine g_icmp_ne F (tgt := 86) dX5_deleteReplacedBy_63 (by decide) (fun zc13 => ?_) (fun zc13 => ?_)
              ·
                refine g_iinc F (v := (nI (zk2 + 1))) (lv1 := [(2, .int (nI (zk2 + 1))), (3, .ref ((r16 ad gzk2) 17 zk2)), (0, .ref ((r16 ad gzk2) 10 0)), (1, .ref ((r16 ad gzk2) 17 j0))]) 1 dX5_deleteReplacedBy_86 rfl (nI_1 zk2) (by decide) rfl ?_
                refine g_goto F (tgt := 10) dX5_deleteReplacedBy_89 (by decide) ?_
                exact g_widen (by have q9 := congrArg Prod.snd (dqT_n (j0 := j0) (s := (σ, Lx, ev, zl)) (k := zk2) (fun q => zc13 q.2.2.1)); (try simp only at q9); show (dqT j0 (σ, Lx, ev, zl) zk2).2 + 0 ≤ (dqT j0 (σ, Lx, ev, zl) (zk2 + 1)).2; omega) (by have q9 := congrArg Prod.snd (dqT_n (j0 := j0) (s := (σ, Lx, ev, zl)) (k := zk2) (fun q => zc13 q.2.2.1)); (try simp only at q9); show 60 * (dqT j0 (σ, Lx, ev, zl) zk2).2 + 0 ≤ 60 * (dqT j0 (σ, Lx, ev, zl) (zk2 + 1)).2; omega) (g_lv [0, 2, 3] rfl (zih5 _ _ _ _ ⟨by rw [(dqT_n (j0 := j0) (s := (σ, Lx, ev, zl)) (k := zk2) (fun q => zc13 q.2.2.1))]; exact ⟨gzk2, dzk2, cpzk2, mqzk2, rfl, rfl, hCzk2, hlozk2, rfl⟩, rfl⟩))
              ·
                refine g_aload_n F 0 dX5_deleteReplacedBy_66 rfl rfl ?_
                refine g_aload_n F 3 dX5_deleteReplacedBy_67 rfl rfl ?_
                refine g_getf (k := 17) (i := j0) (ci := 3) (C := RX3) (T := TX3) (N := 16) (fs := (cM (r16 ad gzk2) (dqT j0 (σ, Lx, ev, zl) zk2).1.1 mt j0)) (fk := 1) F hinX3 (hCzk2.2.2.2.2.2.2.2.1 j0 (by omega)).1 rfl rfl (by decide) (by decide +kernel) rfl (congrArg (fun z : Int32 => some (Value.ref ((r16 ad gzk2) 13 (ix z)))) (dqT_f j0 (σ, Lx, ev, zl) (f := 12) (by decide) j0 zk2)) dX5_deleteReplacedBy_68 ?_
                refine g_aload_n F 3 dX5_deleteReplacedBy_71 rfl rfl ?_
                refine g_getf (k := 17) (i := j0) (ci := 3) (C := RX3) (T := TX3) (N := 16) (fs := (cM (r16 ad gzk2) (dqT j0 (σ, Lx, ev, zl) zk2).1.1 mt j0)) (fk := 2) F hinX3 (hCzk2.2.2.2.2.2.2.2.1 j0 (by omega)).1 rfl rfl (by decide) (by decide +kernel) rfl (congrArg (fun z : Int32 => some (Value.ref ((r16 ad gzk2) 14 (ix z)))) (dqT_f j0 (σ, Lx, ev, zl) (f := 13) (by decide) j0 zk2)) dX5_deleteReplacedBy_72 ?_
                refine q_callV F (C := RX3) (k := 17) (i := zk2) (ci := 3) (T := TX3) (N := 16) (rest := []) [.ref ((r16 ad gzk2) 13 (ix (σ 12 j0))), .ref ((r16 ad gzk2) 14 (ix (σ 13 j0)))] (cc_between l D A cs (r16 ad gzk2) (r16 dm dzk2) (dqT j0 (σ, Lx, ev, zl) zk2).1.1 (dqT j0 (σ, Lx, ev, zl) zk2).1.2.1 cpzk2 mqzk2 (dqT j0 (σ, Lx, ev, zl) zk2).1.2.2.1 (dqT j0 (σ, Lx, ev, zl) zk2).1.2.2.2 tx mt tn tc w0 n tq hCzk2 zk2 (ix (σ 12 j0)) (ix (σ 13 j0)) (by omega) (hrg j0 hj0).1 (hrg j0 hj0).2 (by show ix ((dqT j0 (σ, Lx, ev, zl) zk2).1.1 12 zk2) < _; rw [dqT_f j0 (σ, Lx, ev, zl) (f := 12) (by decide) zk2 zk2]; exact (hrg zk2 (by omega)).1) (by show ix ((dqT j0 (σ, Lx, ev, zl) zk2).1.1 13 zk2) < _; rw [dqT_f j0 (σ, Lx, ev, zl) (f := 13) (by decide) zk2 zk2]; exact (hrg zk2 (by omega)).2)) (cwV 2 F.1.2.2.2.2 gX5_deleteReplacedBy_X3_goesBetween rfl rfl rfl (by decide +kernel) ⟨Nat.le_of_ble_eq_true rfl, Nat.le_of_ble_eq_true rfl⟩) rfl (hCzk2.2.2.2.2.2.2.2.1 zk2 (by omega)).1 rfl rfl rfl rfl (Nat.le_of_ble_eq_true rfl) dX5_deleteReplacedBy_75 ⟨by show (dqT j0 (σ, Lx, ev, zl) zk2).2 + 0 ≤ (dqA j0 (σ, Lx, ev, zl)).2; omega, by show 60 * (dqT j0 (σ, Lx, ev, zl) zk2).2 + 0 ≤ 60 * (dqA j0 (σ, Lx, ev, zl)).2; omega⟩ (fun _ _ _ _ zv14 => ?_)
                obtain ⟨rfl, rfl, rfl, rfl⟩ := zv14
                show GG p l e _ s m _ below meth c D A (r16 ad gzk2) (r16 dm dzk2) _ _ _ _ (cw D (r16 ad gzk2) cs (dqT j0 (σ, Lx, ev, zl) zk2).1.1 (dqT j0 (σ, Lx, ev, zl) zk2).1.2.1 cpzk2 mqzk2 (dqT j0 (σ, Lx, ev, zl) zk2).1.2.2.1 (dqT j0 (σ, Lx, ev, zl) zk2).1.2.2.2 tx mt tn tc w0) 78 _ [.int (bi (ix ((dqT j0 (σ, Lx, ev, zl) zk2).1.1 12 zk2) = (ix (σ 12 j0)) ∧ ix ((dqT j0 (σ, Lx, ev, zl) zk2).1.1 13 zk2) = (ix (σ 13 j0))))]
                refine g_ifb_eq F (tgt := 86) dX5_deleteReplacedBy_78 (by decide) (fun zc15 => ?_) (fun zc15 => ?_)
                ·
                  refine g_iinc F (v := (nI (zk2 + 1))) (lv1 := [(2, .int (nI (zk2 + 1))), (3, .ref ((r16 ad gzk2) 17 zk2)), (0, .ref ((r16 ad gzk2) 10 0)), (1, .ref ((r16 ad gzk2) 17 j0))]) 1 dX5_deleteReplacedBy_86 rfl (nI_1 zk2) (by decide) rfl ?_
                  refine g_goto F (tgt := 10) dX5_deleteReplacedBy_89 (by decide) ?_
                  exact g_widen (by have q9 := congrArg Prod.snd (dqT_n (j0 := j0) (s := (σ, Lx, ev, zl)) (k := zk2) (fun q => zc15 ((show (ix ((dqT j0 (σ, Lx, ev, zl) zk2).1.1 12 zk2) = ix (σ 12 j0) ∧ ix ((dqT j0 (σ, Lx, ev, zl) zk2).1.1 13 zk2) = ix (σ 13 j0)) ↔ (ix ((dqT j0 (σ, Lx, ev, zl) zk2).1.1 12 zk2) = ix ((dqT j0 (σ, Lx, ev, zl) zk2).1.1 12 j0) ∧ ix ((dqT j0 (σ, Lx, ev, zl) zk2).1.1 13 zk2) = ix ((dqT j0 (σ, Lx, ev, zl) zk2).1.1 13 j0)) from by rw [dqT_f j0 (σ, Lx, ev, zl) (f := 12) (by decide) j0 zk2, dqT_f j0 (σ, Lx, ev, zl) (f := 13) (by decide) j0 zk2]).mpr q.2.2.2))); (try simp only at q9); show (dqT j0 (σ, Lx, ev, zl) zk2).2 + 0 ≤ (dqT j0 (σ, Lx, ev, zl) (zk2 + 1)).2; omega) (by have q9 := congrArg Prod.snd (dqT_n (j0 := j0) (s := (σ, Lx, ev, zl)) (k := zk2) (fun q => zc15 ((show (ix ((dqT j0 (σ, Lx, ev, zl) zk2).1.1 12 zk2) = ix (σ 12 j0) ∧ ix ((dqT j0 (σ, Lx, ev, zl) zk2).1.1 13 zk2) = ix (σ 13 j0)) ↔ (ix ((dqT j0 (σ, Lx, ev, zl) zk2).1.1 12 zk2) = ix ((dqT j0 (σ, Lx, ev, zl) zk2).1.1 12 j0) ∧ ix ((dqT j0 (σ, Lx, ev, zl) zk2).1.1 13 zk2) = ix ((dqT j0 (σ, Lx, ev, zl) zk2).1.1 13 j0)) from by rw [dqT_f j0 (σ, Lx, ev, zl) (f := 12) (by decide) j0 zk2, dqT_f j0 (σ, Lx, ev, zl) (f := 13) (by decide) j0 zk2]).mpr q.2.2.2))); (try simp only at q9); show 60 * (dqT j0 (σ, Lx, ev, zl) zk2).2 + 0 ≤ 60 * (dqT j0 (σ, Lx, ev, zl) (zk2 + 1)).2; omega) (g_lv [0, 2, 3] rfl (zih5 _ _ _ _ ⟨by rw [(dqT_n (j0 := j0) (s := (σ, Lx, ev, zl)) (k := zk2) (fun q => zc15 ((show (ix ((dqT j0 (σ, Lx, ev, zl) zk2).1.1 12 zk2) = ix (σ 12 j0) ∧ ix ((dqT j0 (σ, Lx, ev, zl) zk2).1.1 13 zk2) = ix (σ 13 j0)) ↔ (ix ((dqT j0 (σ, Lx, ev, zl) zk2).1.1 12 zk2) = ix ((dqT j0 (σ, Lx, ev, zl) zk2).1.1 12 j0) ∧ ix ((dqT j0 (σ, Lx, ev, zl) zk2).1.1 13 zk2) = ix ((dqT j0 (σ, Lx, ev, zl) zk2).1.1 13 j0)) from by rw [dqT_f j0 (σ, Lx, ev, zl) (f := 12) (by decide) j0 zk2, dqT_f j0 (σ, Lx, ev, zl) (f := 13) (by decide) j0 zk2]).mpr q.2.2.2)))]; exact ⟨gzk2, dzk2, cpzk2, mqzk2, rfl, rfl, hCzk2, hlozk2, rfl⟩, rfl⟩))
                ·
                  refine g_aload_n F 0 dX5_deleteReplacedBy_81 rfl rfl ?_
                  refine g_iconst F dX5_deleteReplacedBy_82 (v := 3) (by decide) ?_
                  refine q_callV F (C := RX3) (k := 17) (i := zk2) (ci := 3) (T := TX3) (N := 16) (rest := []) [.int 3] (cc_finish l D A cs (r16 ad gzk2) (r16 dm dzk2) (dqT j0 (σ, Lx, ev, zl) zk2).1.1 (dqT j0 (σ, Lx, ev, zl) zk2).1.2.1 cpzk2 mqzk2 (dqT j0 (σ, Lx, ev, zl) zk2).1.2.2.1 (dqT j0 (σ, Lx, ev, zl) zk2).1.2.2.2 tx mt tn tc w0 n tq hCzk2 zk2 3 hn22 hlozk2 (by omega) ((hw zk2 zhk4).1 zk2 (by omega) zc11).1 (fun _ => ((hw zk2 zhk4).1 zk2 (by omega) zc11).2.1)) (cwV 1 F.1.2.2.2.2 gX5_deleteReplacedBy_X3_finish rfl rfl rfl (by decide +kernel) ⟨Nat.le_of_ble_eq_true rfl, Nat.le_of_ble_eq_true rfl⟩) rfl (hCzk2.2.2.2.2.2.2.2.1 zk2 (by omega)).1 rfl rfl rfl rfl (Nat.le_of_ble_eq_true rfl) dX5_deleteReplacedBy_83 ⟨by have q9 := congrArg Prod.snd (dqT_y (j0 := j0) (s := (σ, Lx, ev, zl)) (k := zk2) ⟨zc11, zc12, zc13, (show (ix ((dqT j0 (σ, Lx, ev, zl) zk2).1.1 12 zk2) = ix (σ 12 j0) ∧ ix ((dqT j0 (σ, Lx, ev, zl) zk2).1.1 13 zk2) = ix (σ 13 j0)) ↔ (ix ((dqT j0 (σ, Lx, ev, zl) zk2).1.1 12 zk2) = ix ((dqT j0 (σ, Lx, ev, zl) zk2).1.1 12 j0) ∧ ix ((dqT j0 (σ, Lx, ev, zl) zk2).1.1 13 zk2) = ix ((dqT j0 (σ, Lx, ev, zl) zk2).1.1 13 j0)) from by rw [dqT_f j0 (σ, Lx, ev, zl) (f := 12) (by decide) j0 zk2, dqT_f j0 (σ, Lx, ev, zl) (f := 13) (by decide) j0 zk2]).mp zc15⟩); show (dqT j0 (σ, Lx, ev, zl) zk2).2 + 1 ≤ (dqA j0 (σ, Lx, ev, zl)).2; (try simp only at q9); omega, by have q9 := congrArg Prod.snd (dqT_y (j0 := j0) (s := (σ, Lx, ev, zl)) (k := zk2) ⟨zc11, zc12, zc13, (show (ix ((dqT j0 (σ, Lx, ev, zl) zk2).1.1 12 zk2) = ix (σ 12 j0) ∧ ix ((dqT j0 (σ, Lx, ev, zl) zk2).1.1 13 zk2) = ix (σ 13 j0)) ↔ (ix ((dqT j0 (σ, Lx, ev, zl) zk2).1.1 12 zk2) = ix ((dqT j0 (σ, Lx, ev, zl) zk2).1.1 12 j0) ∧ ix ((dqT j0 (σ, Lx, ev, zl) zk2).1.1 13 zk2) = ix ((dqT j0 (σ, Lx, ev, zl) zk2).1.1 13 j0)) from by rw [dqT_f j0 (σ, Lx, ev, zl) (f := 12) (by decide) j0 zk2, dqT_f j0 (σ, Lx, ev, zl) (f := 13) (by decide) j0 zk2]).mp zc15⟩); show 60 * (dqT j0 (σ, Lx, ev, zl) zk2).2 + 60 ≤ 60 * (dqA j0 (σ, Lx, ev, zl)).2; (try simp only at q9); omega⟩ (fun _ _ _ _ zv16 => ?_)
                  obtain ⟨rfl, g83, d83, cp83, mq83, rfl, rfl, hC83, hlo83, rfl⟩ := zv16
                  show GG p l e _ s m _ below meth c D A (r16 (r16 ad gzk2) g83) (r16 (r16 dm dzk2) d83) _ _ _ _ (cw D (r16 (r16 ad gzk2) g83) cs (finT zk2 3 ((dqT j0 (σ, Lx, ev, zl) zk2).1.1, (dqT j0 (σ, Lx, ev, zl) zk2).1.2.1, (dqT j0 (σ, Lx, ev, zl) zk2).1.2.2.1, (dqT j0 (σ, Lx, ev, zl) zk2).1.2.2.2)).1 (finT zk2 3 ((dqT j0 (σ, Lx, ev, zl) zk2).1.1, (dqT j0 (σ, Lx, ev, zl) zk2).1.2.1, (dqT j0 (σ, Lx, ev, zl) zk2).1.2.2.1, (dqT j0 (σ, Lx, ev, zl) zk2).1.2.2.2)).2.1 cp83 mq83 (finT zk2 3 ((dqT j0 (σ, Lx, ev, zl) zk2).1.1, (dqT j0 (σ, Lx, ev, zl) zk2).1.2.1, (dqT j0 (σ, Lx, ev, zl) zk2).1.2.2.1, (dqT j0 (σ, Lx, ev, zl) zk2).1.2.2.2)).2.2.1 (finT zk2 3 ((dqT j0 (σ, Lx, ev, zl) zk2).1.1, (dqT j0 (σ, Lx, ev, zl) zk2).1.2.1, (dqT j0 (σ, Lx, ev, zl) zk2).1.2.2.1, (dqT j0 (σ, Lx, ev, zl) zk2).1.2.2.2)).2.2.2 tx mt tn tc w0) 86 _ []
                  refine g_iinc F (v := (nI (zk2 + 1))) (lv1 := [(2, .int (nI (zk2 + 1))), (3, .ref ((r16 (r16 ad gzk2) g83) 17 zk2)), (0, .ref ((r16 (r16 ad gzk2) g83) 10 0)), (1, .ref ((r16 (r16 ad gzk2) g83) 17 j0))]) 1 dX5_deleteReplacedBy_86 rfl (nI_1 zk2) (by decide) rfl ?_
                  refine g_goto F (tgt := 10) dX5_deleteReplacedBy_89 (by decide) ?_
                  exact g_widen (by have q9 := congrArg Prod.snd (dqT_y (j0 := j0) (s := (σ, Lx, ev, zl)) (k := zk2) ⟨zc11, zc12, zc13, (show (ix ((dqT j0 (σ, Lx, ev, zl) zk2).1.1 12 zk2) = ix (σ 12 j0) ∧ ix ((dqT j0 (σ, Lx, ev, zl) zk2).1.1 13 zk2) = ix (σ 13 j0)) ↔ (ix ((dqT j0 (σ, Lx, ev, zl) zk2).1.1 12 zk2) = ix ((dqT j0 (σ, Lx, ev, zl) zk2).1.1 12 j0) ∧ ix ((dqT j0 (σ, Lx, ev, zl) zk2).1.1 13 zk2) = ix ((dqT j0 (σ, Lx, ev, zl) zk2).1.1 13 j0)) from by rw [dqT_f j0 (σ, Lx, ev, zl) (f := 12) (by decide) j0 zk2, dqT_f j0 (σ, Lx, ev, zl) (f := 13) (by decide) j0 zk2]).mp zc15⟩); (try simp only at q9); show (dqT j0 (σ, Lx, ev, zl) zk2).2 + 1 ≤ (dqT j0 (σ, Lx, ev, zl) (zk2 + 1)).2; omega) (by have q9 := congrArg Prod.snd (dqT_y (j0 := j0) (s := (σ, Lx, ev, zl)) (k := zk2) ⟨zc11, zc12, zc13, (show (ix ((dqT j0 (σ, Lx, ev, zl) zk2).1.1 12 zk2) = ix (σ 12 j0) ∧ ix ((dqT j0 (σ, Lx, ev, zl) zk2).1.1 13 zk2) = ix (σ 13 j0)) ↔ (ix ((dqT j0 (σ, Lx, ev, zl) zk2).1.1 12 zk2) = ix ((dqT j0 (σ, Lx, ev, zl) zk2).1.1 12 j0) ∧ ix ((dqT j0 (σ, Lx, ev, zl) zk2).1.1 13 zk2) = ix ((dqT j0 (σ, Lx, ev, zl) zk2).1.1 13 j0)) from by rw [dqT_f j0 (σ, Lx, ev, zl) (f := 12) (by decide) j0 zk2, dqT_f j0 (σ, Lx, ev, zl) (f := 13) (by decide) j0 zk2]).mp zc15⟩); (try simp only at q9); show 60 * (dqT j0 (σ, Lx, ev, zl) zk2).2 + 60 ≤ 60 * (dqT j0 (σ, Lx, ev, zl) (zk2 + 1)).2; omega) (g_lv [0, 2, 3] rfl (zih5 _ _ _ _ ⟨by rw [(dqT_y (j0 := j0) (s := (σ, Lx, ev, zl)) (k := zk2) ⟨zc11, zc12, zc13, (show (ix ((dqT j0 (σ, Lx, ev, zl) zk2).1.1 12 zk2) = ix (σ 12 j0) ∧ ix ((dqT j0 (σ, Lx, ev, zl) zk2).1.1 13 zk2) = ix (σ 13 j0)) ↔ (ix ((dqT j0 (σ, Lx, ev, zl) zk2).1.1 12 zk2) = ix ((dqT j0 (σ, Lx, ev, zl) zk2).1.1 12 j0) ∧ ix ((dqT j0 (σ, Lx, ev, zl) zk2).1.1 13 zk2) = ix ((dqT j0 (σ, Lx, ev, zl) zk2).1.1 13 j0)) from by rw [dqT_f j0 (σ, Lx, ev, zl) (f := 12) (by decide) j0 zk2, dqT_f j0 (σ, Lx, ev, zl) (f := 13) (by decide) j0 zk2]).mp zc15⟩)]; exact EXP.trans ⟨g83, d83, cp83, mq83, rfl, rfl, hC83, hlo83, rfl⟩, rfl⟩))
  ·
    exact g_qv F hr hlocks (fun _ h => h) ⟨rfl, (by rw [(show (dqA j0 (σ, Lx, ev, zl)) = _ from if_pos zc1)]; exact EXP.same hC hlo)⟩ (Nat.zero_le _) (Nat.zero_le _) dX5_deleteReplacedBy_7

