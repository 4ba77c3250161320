def tkT (s : CSt) : CSt := (up2 s.1 0 0 (s.1 0 0 + 1), s.2)
def atR (p : Nat → Int32) (x : Int32) (s : CSt) : Nat → CSt × Nat × Int32
  | 0 => (s, 0, x)
  | r + 1 => ((att p r (atR p x s r).1).1, (atR p x s r).2.1 + (att p r (atR p x s r).1).2.1, (atR p x s r).2.2 + (att p r (atR p x s r).1).2.2)
def psT (p : Nat → Int32) (n : Nat) (s : CSt) : Nat → CSt × Nat × Int32
  | 0 => (s, 0, 0)
  | t + 1 => ((atR p (psT p n s t).2.2 (exT (tkT (psT p n s t).1) n).1 6).1, (psT p n s t).2.1 + (exT (tkT (psT p n s t).1) n).2 + (atR p (psT p n s t).2.2 (exT (tkT (psT p n s t).1) n).1 6).2.1, (atR p (psT p n s t).2.2 (exT (tkT (psT p n s t).1) n).1 6).2.2)
theorem arrT_L (p : Int32) (j : Nat) (t : Int32) (s : CSt) : (arrT p j t s).2.1 0 = s.2.1 0 := by
  unfold arrT
  split
  · rfl
  · exact fiL_0 _ _ _
theorem att_L (p : Nat → Int32) (r : Nat) (s : CSt) : (att p r s).1.2.1 0 = s.2.1 0 := by
  rcases h : frL s.1 (s.1 0 0) (s.2.1 (5 + r)) with _ | j
  · rw [att_0 h]
  · by_cases hb : s.1 28 r = 3
    · rw [att_1 h hb]; exact fiL_0 _ _ _
    · rcases hc : caF s.1 r with _ | i
      · rw [att_2 h hb hc]; exact arrT_L _ _ _ _
      · rw [att_3 h hb hc]; rfl
theorem atR_L (p : Nat → Int32) (x : Int32) (s : CSt) : ∀ r, (atR p x s r).1.2.1 0 = s.2.1 0
  | 0 => rfl
  | r + 1 => (att_L p r _).trans (atR_L p x s r)
theorem psT_L (p : Nat → Int32) (n : Nat) (s : CSt) : ∀ t, (psT p n s t).1.2.1 0 = s.2.1 0
  | 0 => rfl
  | t + 1 => (atR_L p _ _ 6).trans ((exT_L _ n).trans (psT_L p n s t))
theorem atR_m (p : Nat → Int32) (x : Int32) (s : CSt) {k n : Nat} (h : k ≤ n) : (atR p x s k).2.1 ≤ (atR p x s n).2.1 := by
  induction h with
  | refl => exact Nat.le_refl _
  | step _ ih => exact Nat.le_trans ih (Nat.le_add_right _ _)
theorem psT_m (p : Nat → Int32) (m : Nat) (s : CSt) {k n : Nat} (h : k ≤ n) : (psT p m s k).2.1 ≤ (psT p m s n).2.1 := by
  induction h with
  | refl => exact Nat.le_refl _
  | step _ ih => exact Nat.le_trans ih (Nat.le_trans (Nat.le_add_right _ _) (Nat.le_add_right _ _))
theorem ps_b1 {c e a N y : Nat} (h : c + e + a ≤ N) : y + c + e ≤ y + N := by omega
theorem ps_b2 {c e a N y : Nat} (h : c + e + a ≤ N) : y + 60 * c + 60 * e ≤ y + 60 * N := by omega
theorem ps_b3 {c e a N y r b : Nat} (h : c + e + a ≤ N) (h2 : r + b ≤ a) : y + c + e + r + b ≤ y + N := by omega
theorem ps_b4 {c e a N y r b : Nat} (h : c + e + a ≤ N) (h2 : r + b ≤ a) : y + 60 * c + 60 * e + 60 * r + 60 * b ≤ y + 60 * N := by omega
theorem ps_b5 {c e a y N : Nat} (h : c + e + a = N) : y + c + e + a ≤ y + N := by omega
theorem ps_b6 {c e a y N : Nat} (h : c + e + a = N) : y + 60 * c + 60 * e + 60 * a ≤ y + 60 * N := by omega
theorem ps_b7 {x r b N : Nat} (h : r + b = N) : x + r + b ≤ x + N := by omega
theorem ps_b8 {x r b N : Nat} (h : r + b = N) : x + 60 * r + 60 * b ≤ x + 60 * N := by omega
set_option maxHeartbeats 4000000 in
set_option maxRecDepth 100000 in
theorem cc_pass (l : Launch) (D : va_G) (A : Nat → Prop) (cs : Nat → ClassId) (ad : Nat → Nat → Nat) (dm : Nat → Nat → Prop) (σ : SG) (Lx : Nat → List Nat) (cap : Nat → Nat) (mk : Nat → Int32) (ev : SG) (zl tx mt tn : Nat → Nat) (tc : SG) (w0 : CF) (n tq : Nat) (hC : CD dm n cap tq) (u : Int32) (hn40 : n ≤ 40) (hL : Lx 0 = List.range n) (hlo : LO n Lx cap) (hn22 : ¬ dm 22 0) (hwE : ∀ t, t < (ix u) → ∀ k, k < n → WOK n tq mt tn (exT (tkT (psT (fun j => nI (tn (mt j))) n (σ, Lx, ev, zl) t).1) k).1) (hwA : ∀ t, t < (ix u) → ∀ r, r < 6 → WOK n tq mt tn (atR (fun j => nI (tn (mt j))) (psT (fun j => nI (tn (mt j))) n (σ, Lx, ev, zl) t).2.2 (exT (tkT (psT (fun j => nI (tn (mt j))) n (σ, Lx, ev, zl) t).1) n).1 r).1) (hfl : l.stackTraces = false) : vx_Met l yX5_pass wsX5_pass ({ frames := 10, cells := (1 + (psT (fun j => nI (tn (mt j))) n (σ, Lx, ev, zl) (ix u)).2.1), slots := (6 + 60 * (psT (fun j => nI (tn (mt j))) n (σ, Lx, ev, zl) (ix u)).2.1), locals := 306 }) (va_Pc [.ref (ad 10 0), .int u] (PW D A (tysG cs) ad dm (cw D ad cs σ Lx cap mk ev zl tx mt tn tc w0))) (QW D A (tysG cs) (fun rz ad1 dm1 w1 => (inR u 1 100) ∧ rz = some (.int (psT (fun j => nI (tn (mt j))) n (σ, Lx, ev, zl) (ix u)).2.2) ∧ EXP D cs n tq ad dm (psT (fun j => nI (tn (mt j))) n (σ, Lx, ev, zl) (ix u)).1.1 (psT (fun j => nI (tn (mt j))) n (σ, Lx, ev, zl) (ix u)).1.2.1 (psT (fun j => nI (tn (mt j))) n (σ, Lx, ev, zl) (ix u)).1.2.2.1 (psT (fun j => nI (tn (mt j))) n (σ, Lx, ev, zl) (ix u)).1.2.2.2 tx mt tn tc w0 ad1 dm1 w1)) (XW D A (tysG cs) ad dm (cw D ad cs σ Lx cap mk ev zl tx mt tn tc w0) (fun E => E = xIA ∧ ¬ inR u 1 100)) (1 + (psT (fun j => nI (tn (mt j))) n (σ, Lx, ev, zl) (ix u)).2.1) (6 + 60 * (psT (fun j => nI (tn (mt j))) n (σ, Lx, ev, zl) (ix u)).2.1) A := by
  refine q_start (own := RX5) [.ref (ad 10 0), .int u] (cc := cX5_pass) (maxL := 5) (ret := (some .int)) (lv0 := [(0, .ref (ad 10 0)), (1, .int u)]) (by decide) rfl rfl (Nat.le_of_ble_eq_true rfl) rfl ?_
  intro p e s m below meth c F hr hlocks hno
  have hinX5 : ∀ w ∈ wsX50, w ∈ wsX5_pass := by decide +kernel
  refine g_iload_n F 1 dX5_pass_0 rfl rfl ?_
  refine g_iconst F dX5_pass_1 (v := 1) (by decide) ?_
  refine g_bipush F dX5_pass_2 (v := 100) (by decide) ?_
  refine x_callS F (rest := []) [.int u, .int 1, .int 100] (cc_require l D A cs ad dm σ Lx cap mk ev zl tx mt tn tc w0 n tq hC u 1 100 hfl) (va_cwS 3 F.1.2.2.2.2 gX5_pass_X5_requireInRange rfl rfl rfl (by decide +kernel) ⟨Nat.le_of_ble_eq_true rfl, Nat.le_of_ble_eq_true rfl⟩) rfl rfl (Nat.le_of_ble_eq_true rfl) dX5_pass_4 ⟨Nat.le_add_right _ _, Nat.le_add_right _ _⟩ (x_prop F hno hlocks (fun E h => h) (Nat.le_add_right _ _) (Nat.le_add_right _ _)) (fun _ _ _ _ zv1 => ?_)
  obtain ⟨hc4, rfl, rfl, rfl, rfl⟩ := zv1
  show GG p l e _ s m _ below meth c D A ad dm _ _ _ _ (cw D ad cs σ Lx cap mk ev zl tx mt tn tc w0) 7 _ []
  obtain ⟨hia, hia4⟩ := ix_in (n := 100) rfl (show inR u 0 100 from ⟨fun q => hc4.1 (Int32.lt_trans q (by decide)), hc4.2⟩)
  refine g_iconst F dX5_pass_7 (v := 0) (by decide) ?_
  refine g_istore_n F (lv1 := [(2, .int 0), (0, .ref (ad 10 0)), (1, .int u)]) dX5_pass_8 rfl (by decide) rfl ?_
  refine g_iconst F dX5_pass_9 (v := 0) (by decide) ?_
  refine g_istore_n F (lv1 := [(3, .int 0), (2, .int 0), (0, .ref (ad 10 0)), (1, .int u)]) dX5_pass_10 rfl (by decide) rfl ?_
  refine g_loopP (ix u) 0 (Nat.zero_le _) (fun zk2 ad1 dm1 w1 lv1 => EXP D cs n tq ad dm (psT (fun j => nI (tn (mt j))) n (σ, Lx, ev, zl) zk2).1.1 (psT (fun j => nI (tn (mt j))) n (σ, Lx, ev, zl) zk2).1.2.1 (psT (fun j => nI (tn (mt j))) n (σ, Lx, ev, zl) zk2).1.2.2.1 (psT (fun j => nI (tn (mt j))) n (σ, Lx, ev, zl) zk2).1.2.2.2 tx mt tn tc w0 ad1 dm1 w1 ∧ lv1 = [(3, .int (nI zk2)), (2, .int (psT (fun j => nI (tn (mt j))) n (σ, Lx, ev, zl) zk2).2.2), (0, .ref (ad 10 0)), (1, .int u)]) (fun zk2 => 1 + (psT (fun j => nI (tn (mt j))) n (σ, Lx, ev, zl) zk2).2.1) (fun zk2 => (6 + 60 * (psT (fun j => nI (tn (mt j))) n (σ, Lx, ev, zl) zk2).2.1)) rfl rfl ⟨EXP.same hC hlo, rfl⟩ ?_ (fun zk2 zhk3 zhk4 zih5 => ?_)
  ·
    intro ad9 dm9 w9 lv9 h9
    obtain ⟨⟨gzk2N, dzk2N, cpzk2N, mqzk2N, rfl, rfl, hCzk2N, hlozk2N, rfl⟩, rfl⟩ := h9
    have hLzk2N : (psT (fun j => nI (tn (mt j))) n (σ, Lx, ev, zl) (ix u)).1.2.1 0 = List.range n := (psT_L (fun j => nI (tn (mt j))) n (σ, Lx, ev, zl) (ix u)).trans hL
    show GG p l e _ s m _ below meth c D A (r16 ad gzk2N) (r16 dm dzk2N) _ (1 + (psT (fun j => nI (tn (mt j))) n (σ, Lx, ev, zl) (ix u)).2.1) (6 + 60 * (psT (fun j => nI (tn (mt j))) n (σ, Lx, ev, zl) (ix u)).2.1) _ (cw D (r16 ad gzk2N) cs (psT (fun j => nI (tn (mt j))) n (σ, Lx, ev, zl) (ix u)).1.1 (psT (fun j => nI (tn (mt j))) n (σ, Lx, ev, zl) (ix u)).1.2.1 cpzk2N mqzk2N (psT (fun j => nI (tn (mt j))) n (σ, Lx, ev, zl) (ix u)).1.2.2.1 (psT (fun j => nI (tn (mt j))) n (σ, Lx, ev, zl) (ix u)).1.2.2.2 tx mt tn tc w0) 11 [(3, .int (nI (ix u))), (2, .int (psT (fun j => nI (tn (mt j))) n (σ, Lx, ev, zl) (ix u)).2.2), (0, .ref ((r16 ad gzk2N) 10 0)), (1, .int u)] []
    refine g_iload_n F 0 dX5_pass_11 rfl rfl ?_
    refine g_iload_n F 3 dX5_pass_12 rfl rfl ?_
    refine g_icmp_ge F (tgt := 69) dX5_pass_13 (by decide) (fun zc6 => ?_) (fun zc6 => ?_)
    ·
      refine g_iload_n F 1 dX5_pass_69 rfl rfl ?_
      exact x_qi F hr hlocks (fun _ h => h) ⟨hc4, rfl, ⟨gzk2N, dzk2N, cpzk2N, mqzk2N, rfl, rfl, hCzk2N, hlozk2N, rfl⟩⟩ (Nat.le_refl _) (Nat.le_refl _) dX5_pass_70
    ·
      exact absurd ((nI_leE (show u = nI (ix u) from hia) (show (nI (ix u)) = nI (ix u) from rfl) (show (ix u) < 2 ^ 31 by omega) (show (ix u) < 2 ^ 31 by omega)).mpr (by omega)) zc6
  ·
    intro ad9 dm9 w9 lv9 h9
    obtain ⟨⟨gzk2, dzk2, cpzk2, mqzk2, rfl, rfl, hCzk2, hlozk2, rfl⟩, rfl⟩ := h9
    have hLzk2 : (psT (fun j => nI (tn (mt j))) n (σ, Lx, ev, zl) zk2).1.2.1 0 = List.range n := (psT_L (fun j => nI (tn (mt j))) n (σ, Lx, ev, zl) zk2).trans hL
    show GG p l e _ s m _ below meth c D A (r16 ad gzk2) (r16 dm dzk2) _ (1 + (psT (fun j => nI (tn (mt j))) n (σ, Lx, ev, zl) zk2).2.1) (6 + 60 * (psT (fun j => nI (tn (mt j))) n (σ, Lx, ev, zl) zk2).2.1) _ (cw D (r16 ad gzk2) cs (psT (fun j => nI (tn (mt j))) n (σ, Lx, ev, zl) zk2).1.1 (psT (fun j => nI (tn (mt j))) n (σ, Lx, ev, zl) zk2).1.2.1 cpzk2 mqzk2 (psT (fun j => nI (tn (mt j))) n (σ, Lx, ev, zl) zk2).1.2.2.1 (psT (fun j => nI (tn (mt j))) n (σ, Lx, ev, zl) zk2).1.2.2.2 tx mt tn tc w0) 11 [(3, .int (nI zk2)), (2, .int (psT (fun j => nI (tn (mt j))) n (σ, Lx, ev, zl) zk2).2.2), (0, .ref ((r16 ad gzk2) 10 0)), (1, .int u)] []
    have hcs : (psT (fun j => nI (tn (mt j))) n (σ, Lx, ev, zl) zk2).2.1 + (exT (tkT (psT (fun j => nI (tn (mt j))) n (σ, Lx, ev, zl) zk2).1) n).2 + (atR (fun j => nI (tn (mt j))) (psT (fun j => nI (tn (mt j))) n (σ, Lx, ev, zl) zk2).2.2 (exT (tkT (psT (fun j => nI (tn (mt j))) n (σ, Lx, ev, zl) zk2).1) n).1 6).2.1 ≤ (psT (fun j => nI (tn (mt j))) n (σ, Lx, ev, zl) (ix u)).2.1 := psT_m (fun j => nI (tn (mt j))) n (σ, Lx, ev, zl) (show zk2 + 1 ≤ (ix u) from zhk4)
    refine g_iload_n F 0 dX5_pass_11 rfl rfl ?_
    refine g_iload_n F 3 dX5_pass_12 rfl rfl ?_
    refine g_icmp_ge F (tgt := 69) dX5_pass_13 (by decide) (fun zc7 => ?_) (fun zc7 => ?_)
    ·
      exact absurd ((nI_leE (show u = nI (ix u) from hia) (show (nI zk2) = nI zk2 from rfl) (show (ix u) < 2 ^ 31 by omega) (show zk2 < 2 ^ 31 by omega)).mp zc7) (by omega)
    ·
      refine g_aload_n F 2 dX5_pass_16 rfl rfl ?_
      refine g_dup F dX5_pass_17 rfl ?_
      refine g_getf (k := 10) (i := 0) (ci := 5) (C := RX5) (T := TX5) (N := 4) (fs := (cO (r16 ad gzk2) (psT (fun j => nI (tn (mt j))) n (σ, Lx, ev, zl) zk2).1.1)) (fk := 3) F hinX5 hCzk2.1 rfl rfl (by decide) (by decide +kernel) rfl rfl dX5_pass_18 ?_
      refine g_iconst F dX5_pass_21 (v := 1) (by decide) ?_
      refine g_iadd F dX5_pass_22 ?_
      refine g_putf (k := 10) (i := 0) (ci := 5) (C := RX5) (T := TX5) (N := 4) (fs := (cO (r16 ad gzk2) (psT (fun j => nI (tn (mt j))) n (σ, Lx, ev, zl) zk2).1.1)) (fk := 3) (v := .int (((psT (fun j => nI (tn (mt j))) n (σ, Lx, ev, zl) zk2).1.1 0 0) + 1)) (ty := .int) (tf := tyX5) F hinX5 tyX5_ok nmX5 hCzk2.1 rfl rfl (by decide) (by decide +kernel) rfl rfl (by decide +kernel) rfl rfl (show 3 < 4 by decide) dX5_pass_23 ?_
      refine g_w (w1 := (cw D (r16 ad gzk2) cs (up2 (psT (fun j => nI (tn (mt j))) n (σ, Lx, ev, zl) zk2).1.1 0 0 (((psT (fun j => nI (tn (mt j))) n (σ, Lx, ev, zl) zk2).1.1 0 0) + 1)) (psT (fun j => nI (tn (mt j))) n (σ, Lx, ev, zl) zk2).1.2.1 cpzk2 mqzk2 (psT (fun j => nI (tn (mt j))) n (σ, Lx, ev, zl) zk2).1.2.2.1 (psT (fun j => nI (tn (mt j))) n (σ, Lx, ev, zl) zk2).1.2.2.2 tx mt tn tc w0)) (cp_0 (((psT (fun j => nI (tn (mt j))) n (σ, Lx, ev, zl) zk2).1.1 0 0) + 1)).symm ?_
      refine g_aload_n F 2 dX5_pass_26 rfl rfl ?_
      refine q_callV F (C := RX5) (k := 10) (i := 0) (ci := 5) (T := TX5) (N := 4) (rest := []) [] (cc_expire l D A cs (r16 ad gzk2) (r16 dm dzk2) (up2 (psT (fun j => nI (tn (mt j))) n (σ, Lx, ev, zl) zk2).1.1 0 0 (((psT (fun j => nI (tn (mt j))) n (σ, Lx, ev, zl) zk2).1.1 0 0) + 1)) (psT (fun j => nI (tn (mt j))) n (σ, Lx, ev, zl) zk2).1.2.1 cpzk2 mqzk2 (psT (fun j => nI (tn (mt j))) n (σ, Lx, ev, zl) zk2).1.2.2.1 (psT (fun j => nI (tn (mt j))) n (σ, Lx, ev, zl) zk2).1.2.2.2 tx mt tn tc w0 n tq hCzk2 hn40 hLzk2 hlozk2 hn22 (hwE zk2 zhk4)) (cwV 0 F.1.2.2.2.2 gX5_pass_X5_expireMessages rfl rfl rfl (by decide +kernel) ⟨Nat.le_of_ble_eq_true rfl, Nat.le_of_ble_eq_true rfl⟩) rfl hCzk2.1 rfl rfl rfl rfl (Nat.le_of_ble_eq_true rfl) dX5_pass_27 ⟨ps_b1 hcs, ps_b2 hcs⟩ (fun _ _ _ _ zv8 => ?_)
      obtain ⟨rfl, g27, d27, cp27, mq27, rfl, rfl, hC27, hlo27, rfl⟩ := zv8
      show GG p l e _ s m _ below meth c D A (r16 (r16 ad gzk2) g27) (r16 (r16 dm dzk2) d27) _ _ _ _ (cw D (r16 (r16 ad gzk2) g27) cs (exT (tkT (psT (fun j => nI (tn (mt j))) n (σ, Lx, ev, zl) zk2).1) n).1.1 (exT (tkT (psT (fun j => nI (tn (mt j))) n (σ, Lx, ev, zl) zk2).1) n).1.2.1 cp27 mq27 (exT (tkT (psT (fun j => nI (tn (mt j))) n (σ, Lx, ev, zl) zk2).1) n).1.2.2.1 (exT (tkT (psT (fun j => nI (tn (mt j))) n (σ, Lx, ev, zl) zk2).1) n).1.2.2.2 tx mt tn tc w0) 30 _ []
      refine g_iconst F dX5_pass_30 (v := 0) (by decide) ?_
      refine g_istore F (lv1 := [(4, .int 0), (3, .int (nI zk2)), (2, .int (psT (fun j => nI (tn (mt j))) n (σ, Lx, ev, zl) zk2).2.2), (0, .ref ((r16 (r16 ad gzk2) g27) 10 0)), (1, .int u)]) dX5_pass_31 (by decide) rfl ?_
      refine g_loopP 6 0 (Nat.zero_le _) (fun zk9 ad1 dm1 w1 lv1 => EXP D cs n tq (r16 (r16 ad gzk2) g27) (r16 (r16 dm dzk2) d27) (atR (fun j => nI (tn (mt j))) (psT (fun j => nI (tn (mt j))) n (σ, Lx, ev, zl) zk2).2.2 (exT (tkT (psT (fun j => nI (tn (mt j))) n (σ, Lx, ev, zl) zk2).1) n).1 zk9).1.1 (atR (fun j => nI (tn (mt j))) (psT (fun j => nI (tn (mt j))) n (σ, Lx, ev, zl) zk2).2.2 (exT (tkT (psT (fun j => nI (tn (mt j))) n (σ, Lx, ev, zl) zk2).1) n).1 zk9).1.2.1 (atR (fun j => nI (tn (mt j))) (psT (fun j => nI (tn (mt j))) n (σ, Lx, ev, zl) zk2).2.2 (exT (tkT (psT (fun j => nI (tn (mt j))) n (σ, Lx, ev, zl) zk2).1) n).1 zk9).1.2.2.1 (atR (fun j => nI (tn (mt j))) (psT (fun j => nI (tn (mt j))) n (σ, Lx, ev, zl) zk2).2.2 (exT (tkT (psT (fun j => nI (tn (mt j))) n (σ, Lx, ev, zl) zk2).1) n).1 zk9).1.2.2.2 tx mt tn tc w0 ad1 dm1 w1 ∧ lv1 = [(4, .int (nI zk9)), (3, .int (nI zk2)), (2, .int (atR (fun j => nI (tn (mt j))) (psT (fun j => nI (tn (mt j))) n (σ, Lx, ev, zl) zk2).2.2 (exT (tkT (psT (fun j => nI (tn (mt j))) n (σ, Lx, ev, zl) zk2).1) n).1 zk9).2.2), (0, .ref ((r16 (r16 ad gzk2) g27) 10 0)), (1, .int u)]) (fun zk9 => 1 + (psT (fun j => nI (tn (mt j))) n (σ, Lx, ev, zl) zk2).2.1 + (exT (tkT (psT (fun j => nI (tn (mt j))) n (σ, Lx, ev, zl) zk2).1) n).2 + (atR (fun j => nI (tn (mt j))) (psT (fun j => nI (tn (mt j))) n (σ, Lx, ev, zl) zk2).2.2 (exT (tkT (psT (fun j => nI (tn (mt j))) n (σ, Lx, ev, zl) zk2).1) n).1 zk9).2.1) (fun zk9 => (6 + 60 * (psT (fun j => nI (tn (mt j))) n (σ, Lx, ev, zl) zk2).2.1 + 60 * (exT (tkT (psT (fun j => nI (tn (mt j))) n (σ, Lx, ev, zl) zk2).1) n).2 + 60 * (atR (fun j => nI (tn (mt j))) (psT (fun j => nI (tn (mt j))) n (σ, Lx, ev, zl) zk2).2.2 (exT (tkT (psT (fun j => nI (tn (mt j))) n (σ, Lx, ev, zl) zk2).1) n).1 zk9).2.1)) rfl rfl ⟨EXP.same hC27 hlo27, rfl⟩ ?_ (fun zk9 zhk10 zhk11 zih12 => ?_)
      ·
        intro ad9 dm9 w9 lv9 h9
        obtain ⟨⟨gzk9N, dzk9N, cpzk9N, mqzk9N, rfl, rfl, hCzk9N, hlozk9N, rfl⟩, rfl⟩ := h9
        show GG p l e _ s m _ below meth c D A (r16 (r16 (r16 ad gzk2) g27) gzk9N) (r16 (r16 (r16 dm dzk2) d27) dzk9N) _ (1 + (psT (fun j => nI (tn (mt j))) n (σ, Lx, ev, zl) zk2).2.1 + (exT (tkT (psT (fun j => nI (tn (mt j))) n (σ, Lx, ev, zl) zk2).1) n).2 + (atR (fun j => nI (tn (mt j))) (psT (fun j => nI (tn (mt j))) n (σ, Lx, ev, zl) zk2).2.2 (exT (tkT (psT (fun j => nI (tn (mt j))) n (σ, Lx, ev, zl) zk2).1) n).1 6).2.1) (6 + 60 * (psT (fun j => nI (tn (mt j))) n (σ, Lx, ev, zl) zk2).2.1 + 60 * (exT (tkT (psT (fun j => nI (tn (mt j))) n (σ, Lx, ev, zl) zk2).1) n).2 + 60 * (atR (fun j => nI (tn (mt j))) (psT (fun j => nI (tn (mt j))) n (σ, Lx, ev, zl) zk2).2.2 (exT (tkT (psT (fun j => nI (tn (mt j))) n (σ, Lx, ev, zl) zk2).1) n).1 6).2.1) _ (cw D (r16 (r16 (r16 ad gzk2) g27) gzk9N) cs (atR (fun j => nI (tn (mt j))) (psT (fun j => nI (tn (mt j))) n (σ, Lx, ev, zl) zk2).2.2 (exT (tkT (psT (fun j => nI (tn (mt j))) n (σ, Lx, ev, zl) zk2).1) n).1 6).1.1 (atR (fun j => nI (tn (mt j))) (psT (fun j => nI (tn (mt j))) n (σ, Lx, ev, zl) zk2).2.2 (exT (tkT (psT (fun j => nI (tn (mt j))) n (σ, Lx, ev, zl) zk2).1) n).1 6).1.2.1 cpzk9N mqzk9N (atR (fun j => nI (tn (mt j))) (psT (fun j => nI (tn (mt j))) n (σ, Lx, ev, zl) zk2).2.2 (exT (tkT (psT (fun j => nI (tn (mt j))) n (σ, Lx, ev, zl) zk2).1) n).1 6).1.2.2.1 (atR (fun j => nI (tn (mt j))) (psT (fun j => nI (tn (mt j))) n (σ, Lx, ev, zl) zk2).2.2 (exT (tkT (psT (fun j => nI (tn (mt j))) n (σ, Lx, ev, zl) zk2).1) n).1 6).1.2.2.2 tx mt tn tc w0) 33 [(4, .int (nI 6)), (3, .int (nI zk2)), (2, .int (atR (fun j => nI (tn (mt j))) (psT (fun j => nI (tn (mt j))) n (σ, Lx, ev, zl) zk2).2.2 (exT (tkT (psT (fun j => nI (tn (mt j))) n (σ, Lx, ev, zl) zk2).1) n).1 6).2.2), (0, .ref ((r16 (r16 (r16 ad gzk2) g27) gzk9N) 10 0)), (1, .int u)] []
        refine g_iload F 0 dX5_pass_33 rfl ?_
        refine g_aload_n F 3 dX5_pass_35 rfl rfl ?_
        refine g_getf (k := 10) (i := 0) (ci := 5) (C := RX5) (T := TX5) (N := 4) (fs := (cO (r16 (r16 (r16 ad gzk2) g27) gzk9N) (atR (fun j => nI (tn (mt j))) (psT (fun j => nI (tn (mt j))) n (σ, Lx, ev, zl) zk2).2.2 (exT (tkT (psT (fun j => nI (tn (mt j))) n (σ, Lx, ev, zl) zk2).1) n).1 6).1.1)) (fk := 1) F hinX5 hCzk9N.1 rfl rfl (by decide) (by decide +kernel) rfl rfl dX5_pass_36 ?_
        refine g_alen (t0 := 4) (k := 12) (i := 0) (v := (nI 6)) F hCzk9N.2.2.1 rfl rfl rfl dX5_pass_39 ?_
        refine g_icmp_ge F (tgt := 63) dX5_pass_40 (by decide) (fun zc13 => ?_) (fun zc13 => ?_)
        ·
          refine g_iinc F (v := (nI (zk2 + 1))) (lv1 := [(3, .int (nI (zk2 + 1))), (4, .int (nI 6)), (2, .int (atR (fun j => nI (tn (mt j))) (psT (fun j => nI (tn (mt j))) n (σ, Lx, ev, zl) zk2).2.2 (exT (tkT (psT (fun j => nI (tn (mt j))) n (σ, Lx, ev, zl) zk2).1) n).1 6).2.2), (0, .ref ((r16 (r16 (r16 ad gzk2) g27) gzk9N) 10 0)), (1, .int u)]) 1 dX5_pass_63 rfl (nI_1 zk2) (by decide) rfl ?_
          refine g_goto F (tgt := 11) dX5_pass_66 (by decide) ?_
          exact g_widen (ps_b5 rfl) (ps_b6 rfl) (g_lv [0, 2, 3, 4] rfl (zih5 _ _ _ _ ⟨EXP.trans (EXP.trans ⟨gzk9N, dzk9N, cpzk9N, mqzk9N, rfl, rfl, hCzk9N, hlozk9N, rfl⟩), rfl⟩))
        ·
          exact absurd ((nI_leE (show (nI 6) = nI 6 from rfl) (show (nI 6) = nI 6 from rfl) (show 6 < 2 ^ 31 by omega) (show 6 < 2 ^ 31 by omega)).mpr (by omega)) zc13
      ·
        intro ad9 dm9 w9 lv9 h9
        obtain ⟨⟨gzk9, dzk9, cpzk9, mqzk9, rfl, rfl, hCzk9, hlozk9, rfl⟩, rfl⟩ := h9
        show GG p l e _ s m _ below meth c D A (r16 (r16 (r16 ad gzk2) g27) gzk9) (r16 (r16 (r16 dm dzk2) d27) dzk9) _ (1 + (psT (fun j => nI (tn (mt j))) n (σ, Lx, ev, zl) zk2).2.1 + (exT (tkT (psT (fun j => nI (tn (mt j))) n (σ, Lx, ev, zl) zk2).1) n).2 + (atR (fun j => nI (tn (mt j))) (psT (fun j => nI (tn (mt j))) n (σ, Lx, ev, zl) zk2).2.2 (exT (tkT (psT (fun j => nI (tn (mt j))) n (σ, Lx, ev, zl) zk2).1) n).1 zk9).2.1) (6 + 60 * (psT (fun j => nI (tn (mt j))) n (σ, Lx, ev, zl) zk2).2.1 + 60 * (exT (tkT (psT (fun j => nI (tn (mt j))) n (σ, Lx, ev, zl) zk2).1) n).2 + 60 * (atR (fun j => nI (tn (mt j))) (psT (fun j => nI (tn (mt j))) n (σ, Lx, ev, zl) zk2).2.2 (exT (tkT (psT (fun j => nI (tn (mt j))) n (σ, Lx, ev, zl) zk2).1) n).1 zk9).2.1) _ (cw D (r16 (r16 (r16 ad gzk2) g27) gzk9) cs (atR (fun j => nI (tn (mt j))) (psT (fun j => nI (tn (mt j))) n (σ, Lx, ev, zl) zk2).2.2 (exT (tkT (psT (fun j => nI (tn (mt j))) n (σ, Lx, ev, zl) zk2).1) n).1 zk9).1.1 (atR (fun j => nI (tn (mt j))) (psT (fun j => nI (tn (mt j))) n (σ, Lx, ev, zl) zk2).2.2 (exT (tkT (psT (fun j => nI (tn (mt j))) n (σ, Lx, ev, zl) zk2).1) n).1 zk9).1.2.1 cpzk9 mqzk9 (atR (fun j => nI (tn (mt j))) (psT (fun j => nI (tn (mt j))) n (σ, Lx, ev, zl) zk2).2.2 (exT (tkT (psT (fun j => nI (tn (mt j))) n (σ, Lx, ev, zl) zk2).1) n).1 zk9).1.2.2.1 (atR (fun j => nI (tn (mt j))) (psT (fun j => nI (tn (mt j))) n (σ, Lx, ev, zl) zk2).2.2 (exT (tkT (psT (fun j => nI (tn (mt j))) n (σ, Lx, ev, zl) zk2).1) n).1 zk9).1.2.2.2 tx mt tn tc w0) 33 [(4, .int (nI zk9)), (3, .int (nI zk2)), (2, .int (atR (fun j => nI (tn (mt j))) (psT (fun j => nI (tn (mt j))) n (σ, Lx, ev, zl) zk2).2.2 (exT (tkT (psT (fun j => nI (tn (mt j))) n (σ, Lx, ev, zl) zk2).1) n).1 zk9).2.2), (0, .ref ((r16 (r16 (r16 ad gzk2) g27) gzk9) 10 0)), (1, .int u)] []
        have hcr : (atR (fun j => nI (tn (mt j))) (psT (fun j => nI (tn (mt j))) n (σ, Lx, ev, zl) zk2).2.2 (exT (tkT (psT (fun j => nI (tn (mt j))) n (σ, Lx, ev, zl) zk2).1) n).1 zk9).2.1 + (att (fun j => nI (tn (mt j))) zk9 (atR (fun j => nI (tn (mt j))) (psT (fun j => nI (tn (mt j))) n (σ, Lx, ev, zl) zk2).2.2 (exT (tkT (psT (fun j => nI (tn (mt j))) n (σ, Lx, ev, zl) zk2).1) n).1 zk9).1).2.1 ≤ (atR (fun j => nI (tn (mt j))) (psT (fun j => nI (tn (mt j))) n (σ, Lx, ev, zl) zk2).2.2 (exT (tkT (psT (fun j => nI (tn (mt j))) n (σ, Lx, ev, zl) zk2).1) n).1 6).2.1 := atR_m (fun j => nI (tn (mt j))) _ _ (show zk9 + 1 ≤ 6 from zhk11)
        refine g_iload F 0 dX5_pass_33 rfl ?_
        refine g_aload_n F 3 dX5_pass_35 rfl rfl ?_
        refine g_getf (k := 10) (i := 0) (ci := 5) (C := RX5) (T := TX5) (N := 4) (fs := (cO (r16 (r16 (r16 ad gzk2) g27) gzk9) (atR (fun j => nI (tn (mt j))) (psT (fun j => nI (tn (mt j))) n (σ, Lx, ev, zl) zk2).2.2 (exT (tkT (psT (fun j => nI (tn (mt j))) n (σ, Lx, ev, zl) zk2).1) n).1 zk9).1.1)) (fk := 1) F hinX5 hCzk9.1 rfl rfl (by decide) (by decide +kernel) rfl rfl dX5_pass_36 ?_
        refine g_alen (t0 := 4) (k := 12) (i := 0) (v := (nI 6)) F hCzk9.2.2.1 rfl rfl rfl dX5_pass_39 ?_
        refine g_icmp_ge F (tgt := 63) dX5_pass_40 (by decide) (fun zc14 => ?_) (fun zc14 => ?_)
        ·
          exact absurd ((nI_leE (show (nI 6) = nI 6 from rfl) (show (nI zk9) = nI zk9 from rfl) (show 6 < 2 ^ 31 by omega) (show zk9 < 2 ^ 31 by omega)).mp zc14) (by omega)
        ·
          refine g_iload_n F 2 dX5_pass_43 rfl rfl ?_
          refine g_aload_n F 3 dX5_pass_44 rfl rfl ?_
          refine g_aload_n F 3 dX5_pass_45 rfl rfl ?_
          refine g_getf (k := 10) (i := 0) (ci := 5) (C := RX5) (T := TX5) (N := 4) (fs := (cO (r16 (r16 (r16 ad gzk2) g27) gzk9) (atR (fun j => nI (tn (mt j))) (psT (fun j => nI (tn (mt j))) n (σ, Lx, ev, zl) zk2).2.2 (exT (tkT (psT (fun j => nI (tn (mt j))) n (σ, Lx, ev, zl) zk2).1) n).1 zk9).1.1)) (fk := 1) F hinX5 hCzk9.1 rfl rfl (by decide) (by decide +kernel) rfl rfl dX5_pass_46 ?_
          refine g_iload F 0 dX5_pass_49 rfl ?_
          refine ca_aald (k := 12) (i := 0) (n := 6) (f := (fun q => if q < 6 then some ((r16 (r16 (r16 ad gzk2) g27) gzk9) 14 q) else none)) (C := "MessageCentre$Recipient") (t0 := 4) F hCzk9.2.2.1 rfl rfl rfl ⟨show zk9 < 6 by omega, by decide⟩ (x := ((r16 (r16 (r16 ad gzk2) g27) gzk9) 14 zk9)) (by simp only [if_pos (show zk9 < 6 by omega)]) dX5_pass_51 ?_
          refine q_callV F (C := RX5) (k := 10) (i := 0) (ci := 5) (T := TX5) (N := 4) (rest := [.int (atR (fun j => nI (tn (mt j))) (psT (fun j => nI (tn (mt j))) n (σ, Lx, ev, zl) zk2).2.2 (exT (tkT (psT (fun j => nI (tn (mt j))) n (σ, Lx, ev, zl) zk2).1) n).1 zk9).2.2]) [.ref ((r16 (r16 (r16 ad gzk2) g27) gzk9) 14 zk9)] (cc_attempt l D A cs (r16 (r16 (r16 ad gzk2) g27) gzk9) (r16 (r16 (r16 dm dzk2) d27) dzk9) (atR (fun j => nI (tn (mt j))) (psT (fun j => nI (tn (mt j))) n (σ, Lx, ev, zl) zk2).2.2 (exT (tkT (psT (fun j => nI (tn (mt j))) n (σ, Lx, ev, zl) zk2).1) n).1 zk9).1.1 (atR (fun j => nI (tn (mt j))) (psT (fun j => nI (tn (mt j))) n (σ, Lx, ev, zl) zk2).2.2 (exT (tkT (psT (fun j => nI (tn (mt j))) n (σ, Lx, ev, zl) zk2).1) n).1 zk9).1.2.1 cpzk9 mqzk9 (atR (fun j => nI (tn (mt j))) (psT (fun j => nI (tn (mt j))) n (σ, Lx, ev, zl) zk2).2.2 (exT (tkT (psT (fun j => nI (tn (mt j))) n (σ, Lx, ev, zl) zk2).1) n).1 zk9).1.2.2.1 (atR (fun j => nI (tn (mt j))) (psT (fun j => nI (tn (mt j))) n (σ, Lx, ev, zl) zk2).2.2 (exT (tkT (psT (fun j => nI (tn (mt j))) n (σ, Lx, ev, zl) zk2).1) n).1 zk9).1.2.2.2 tx mt tn tc w0 n tq hCzk9 zk9 (by omega) hlozk9 hn22 (fun j hj => ⟨((hwA zk2 zhk4 zk9 zhk11).2 zk9 (by omega) j hj).2, (hwA zk2 zhk4 zk9 zhk11).1 j ((hwA zk2 zhk4 zk9 zhk11).2 zk9 (by omega) j hj).1 ((hwA zk2 zhk4 zk9 zhk11).2 zk9 (by omega) j hj).2⟩)) (cwV 1 F.1.2.2.2.2 gX5_pass_X5_attemptFor rfl rfl rfl (by decide +kernel) ⟨Nat.le_of_ble_eq_true rfl, Nat.le_of_ble_eq_true rfl⟩) rfl hCzk9.1 rfl rfl rfl rfl (Nat.le_of_ble_eq_true rfl) dX5_pass_52 ⟨ps_b3 hcs hcr, ps_b4 hcs hcr⟩ (fun _ _ _ _ zv15 => ?_)
          obtain ⟨rfl, g52, d52, cp52, mq52, rfl, rfl, hC52, hlo52, rfl⟩ := zv15
          show GG p l e _ s m _ below meth c D A (r16 (r16 (r16 (r16 ad gzk2) g27) gzk9) g52) (r16 (r16 (r16 (r16 dm dzk2) d27) dzk9) d52) _ _ _ _ (cw D (r16 (r16 (r16 (r16 ad gzk2) g27) gzk9) g52) cs (att (fun j => nI (tn (mt j))) zk9 (atR (fun j => nI (tn (mt j))) (psT (fun j => nI (tn (mt j))) n (σ, Lx, ev, zl) zk2).2.2 (exT (tkT (psT (fun j => nI (tn (mt j))) n (σ, Lx, ev, zl) zk2).1) n).1 zk9).1).1.1 (att (fun j => nI (tn (mt j))) zk9 (atR (fun j => nI (tn (mt j))) (psT (fun j => nI (tn (mt j))) n (σ, Lx, ev, zl) zk2).2.2 (exT (tkT (psT (fun j => nI (tn (mt j))) n (σ, Lx, ev, zl) zk2).1) n).1 zk9).1).1.2.1 cp52 mq52 (att (fun j => nI (tn (mt j))) zk9 (atR (fun j => nI (tn (mt j))) (psT (fun j => nI (tn (mt j))) n (σ, Lx, ev, zl) zk2).2.2 (exT (tkT (psT (fun j => nI (tn (mt j))) n (σ, Lx, ev, zl) zk2).1) n).1 zk9).1).1.2.2.1 (att (fun j => nI (tn (mt j))) zk9 (atR (fun j => nI (tn (mt j))) (psT (fun j => nI (tn (mt j))) n (σ, Lx, ev, zl) zk2).2.2 (exT (tkT (psT (fun j => nI (tn (mt j))) n (σ, Lx, ev, zl) zk2).1) n).1 zk9).1).1.2.2.2 tx mt tn tc w0) 55 _ [.int (att (fun j => nI (tn (mt j))) zk9 (atR (fun j => nI (tn (mt j))) (psT (fun j => nI (tn (mt j))) n (σ, Lx, ev, zl) zk2).2.2 (exT (tkT (psT (fun j => nI (tn (mt j))) n (σ, Lx, ev, zl) zk2).1) n).1 zk9).1).2.2, .int (atR (fun j => nI (tn (mt j))) (psT (fun j => nI (tn (mt j))) n (σ, Lx, ev, zl) zk2).2.2 (exT (tkT (psT (fun j => nI (tn (mt j))) n (σ, Lx, ev, zl) zk2).1) n).1 zk9).2.2]
          refine g_iadd F dX5_pass_55 ?_
          refine g_istore_n F (lv1 := [(2, .int ((atR (fun j => nI (tn (mt j))) (psT (fun j => nI (tn (mt j))) n (σ, Lx, ev, zl) zk2).2.2 (exT (tkT (psT (fun j => nI (tn (mt j))) n (σ, Lx, ev, zl) zk2).1) n).1 zk9).2.2 + (att (fun j => nI (tn (mt j))) zk9 (atR (fun j => nI (tn (mt j))) (psT (fun j => nI (tn (mt j))) n (σ, Lx, ev, zl) zk2).2.2 (exT (tkT (psT (fun j => nI (tn (mt j))) n (σ, Lx, ev, zl) zk2).1) n).1 zk9).1).2.2)), (4, .int (nI zk9)), (3, .int (nI zk2)), (0, .ref ((r16 (r16 (r16 (r16 ad gzk2) g27) gzk9) g52) 10 0)), (1, .int u)]) dX5_pass_56 rfl (by decide) rfl ?_
          refine g_iinc F (v := (nI (zk9 + 1))) (lv1 := [(4, .int (nI (zk9 + 1))), (2, .int ((atR (fun j => nI (tn (mt j))) (psT (fun j => nI (tn (mt j))) n (σ, Lx, ev, zl) zk2).2.2 (exT (tkT (psT (fun j => nI (tn (mt j))) n (σ, Lx, ev, zl) zk2).1) n).1 zk9).2.2 + (att (fun j => nI (tn (mt j))) zk9 (atR (fun j => nI (tn (mt j))) (psT (fun j => nI (tn (mt j))) n (σ, Lx, ev, zl) zk2).2.2 (exT (tkT (psT (fun j => nI (tn (mt j))) n (σ, Lx, ev, zl) zk2).1) n).1 zk9).1).2.2)), (3, .int (nI zk2)), (0, .ref ((r16 (r16 (r16 (r16 ad gzk2) g27) gzk9) g52) 10 0)), (1, .int u)]) 1 dX5_pass_57 rfl (nI_1 zk9) (by decide) rfl ?_
          refine g_goto F (tgt := 33) dX5_pass_60 (by decide) ?_
          exact g_widen (ps_b7 rfl) (ps_b8 rfl) (g_lv [0, 2, 1, 3, 4] rfl (zih12 _ _ _ _ ⟨EXP.trans ⟨g52, d52, cp52, mq52, rfl, rfl, hC52, hlo52, rfl⟩, rfl⟩))

