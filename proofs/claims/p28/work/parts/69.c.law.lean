set_option maxHeartbeats 8000000 in
set_option maxRecDepth 100000 in
theorem law_first {p : Program} {l : Launch} {e : Env} {s : State} {m : MethodId} {args : Array Value} {below : List Frame} {meth : Method} {c : Code} {cells slots : Nat} {Q : State → Prop} {D : va_G} {A : Nat → Prop} {cs : Nat → ClassId} {ad : Nat → Nat → Nat} {dm : Nat → Nat → Prop} (F : FX p s m args c cL_law 11 wsL_law RL D A (tysG cs)) (hfl : l.stackTraces = false) {xd : Nat → Nat} {w : CF} (hPS : PS D cs xd 0 ad dm w) (hc : cells ≤ 1000 ∧ slots ≤ 2000) (hret : ∀ (ad : Nat → Nat → Nat) (dm : Nat → Nat → Prop) (w : CF) (lv : List (Nat × Value)), GG p l e room_1 s m args below meth c D A ad dm 11 600104 7301314 Q w 386 lv [.int 1]) : GG p l e room_1 s m args below meth c D A ad dm 11 cells slots Q w 103 [(9, .int (nI 4)), (0, .ref (D.2 100 40)), (1, .ref (xd 10)), (2, .ref (xd 1)), (3, .ref (xd 2)), (4, .ref (xd 3)), (5, .ref (xd 4)), (6, .ref (xd 5)), (7, .ref (xd 6)), (8, .ref (xd 7))] [] := by
  obtain ⟨hc1, hc2⟩ := hc
  obtain ⟨n, tq, t, σ, Lx, cap, mk, ev, zl, tx, mt, tn, tc, la, wz, kt, rd, hx, ht, hC, hd7, hlo, hI, hJ, rfl⟩ := hPS
  refine g_aload_n F 2 dL_law_103 rfl rfl ?_
  refine g_aload_n F 3 dL_law_104 rfl rfl ?_
  refine g_aload_n F 4 dL_law_105 rfl rfl ?_
  refine g_aload F 5 dL_law_106 rfl ?_
  refine g_aload F 6 dL_law_108 rfl ?_
  refine g_aload F 8 dL_law_110 rfl ?_
  refine g_aload F 9 dL_law_112 rfl ?_
  refine g_st (st1 := [.ref (ad 7 0), .ref (ad 6 0), .ref (ad 4 0), .ref (ad 3 0), .ref (ad 2 0), .ref (ad 1 0), .ref (ad 10 0)]) (by rw [hx 10 (by decide), hx 1 (by decide), hx 2 (by decide), hx 3 (by decide), hx 4 (by decide), hx 6 (by decide), hx 7 (by decide)]) ?_
  refine q_callS F (rest := []) [.ref (ad 10 0), .ref (ad 1 0), .ref (ad 2 0), .ref (ad 3 0), .ref (ad 4 0), .ref (ad 6 0), .ref (ad 7 0)] (lw_areMessages l D A cs ad dm σ Lx cap mk ev zl tx mt tn tc la wz n tq t kt rd hC hd7 hlo hI hJ (by omega) hfl) (va_cwS 7 F.1.2.2.2.2 gL_law_L_areMessages rfl rfl rfl (by decide +kernel) ⟨Nat.le_of_ble_eq_true rfl, Nat.le_of_ble_eq_true rfl⟩) rfl rfl (Nat.le_of_ble_eq_true rfl) dL_law_114 ⟨show cells + 1500 ≤ 600104 by omega, show slots + 9000 ≤ 7301314 by omega⟩ (fun _ _ _ _ hv => ?_)
  obtain ⟨rfl, rfl, rfl, lb, rfl, hJb, hTb⟩ := hv
  refine g_st (st1 := [.int 1]) rfl ?_
  refine g_if_eq F (tgt := 138) dL_law_117 (by decide) (fun zc1 => ?_) (fun zc1 => ?_)
  ·
    exact absurd zc1 (by decide)
  ·
    refine g_aload_n F 2 dL_law_120 rfl rfl ?_
    refine g_aload_n F 3 dL_law_121 rfl rfl ?_
    refine g_aload F 5 dL_law_122 rfl ?_
    refine g_aload F 7 dL_law_124 rfl ?_
    refine g_aload F 9 dL_law_126 rfl ?_
    refine g_st (st1 := [.ref (ad 7 0), .ref (ad 5 0), .ref (ad 3 0), .ref (ad 1 0), .ref (ad 10 0)]) (by rw [hx 10 (by decide), hx 1 (by decide), hx 3 (by decide), hx 5 (by decide), hx 7 (by decide)]) ?_
    refine q_callS F (rest := []) [.ref (ad 10 0), .ref (ad 1 0), .ref (ad 3 0), .ref (ad 5 0), .ref (ad 7 0)] (lw_areRecipients l D A cs ad dm σ Lx cap mk ev zl tx mt tn tc lb wz n tq t kt rd hC hd7 hlo hI hJb (by omega) hfl hTb) (va_cwS 5 F.1.2.2.2.2 gL_law_L_areRecipients rfl rfl rfl (by decide +kernel) ⟨Nat.le_of_ble_eq_true rfl, Nat.le_of_ble_eq_true rfl⟩) rfl rfl (Nat.le_of_ble_eq_true rfl) dL_law_128 ⟨show (cells + 1500) + 60 ≤ 600104 by omega, show (slots + 9000) + 360 ≤ 7301314 by omega⟩ (fun _ _ _ _ hv => ?_)
    obtain ⟨rfl, rfl, rfl, rfl⟩ := hv
    refine g_st (st1 := [.int 1]) rfl ?_
    refine g_if_eq F (tgt := 138) dL_law_131 (by decide) (fun zc2 => ?_) (fun zc2 => ?_)
    ·
      exact absurd zc2 (by decide)
    ·
      refine g_iconst F dL_law_134 (v := 1) (by decide) ?_
      refine g_goto F (tgt := 139) dL_law_135 (by decide) ?_
      refine g_istore F (lv1 := [(9, .int 1), (0, .ref (D.2 100 40)), (1, .ref (xd 10)), (2, .ref (xd 1)), (3, .ref (xd 2)), (4, .ref (xd 3)), (5, .ref (xd 4)), (6, .ref (xd 5)), (7, .ref (xd 6)), (8, .ref (xd 7))]) dL_law_139 (by decide) rfl ?_
      refine g_iconst F dL_law_141 (v := 0) (by decide) ?_
      refine g_istore F (lv1 := [(10, .int 0), (9, .int 1), (0, .ref (D.2 100 40)), (1, .ref (xd 10)), (2, .ref (xd 1)), (3, .ref (xd 2)), (4, .ref (xd 3)), (5, .ref (xd 4)), (6, .ref (xd 5)), (7, .ref (xd 6)), (8, .ref (xd 7))]) dL_law_142 (by decide) rfl ?_
      refine g_lv (lv1 := [(0, .ref (D.2 100 40)), (1, .ref (xd 10)), (2, .ref (xd 1)), (3, .ref (xd 2)), (4, .ref (xd 3)), (5, .ref (xd 4)), (6, .ref (xd 5)), (7, .ref (xd 6)), (8, .ref (xd 7)), (9, .int 1), (10, .int 0)]) [2, 3, 4, 5, 6, 7, 8, 9, 10, 1, 0] rfl ?_
      exact law_loop F hfl ⟨n, tq, t, σ, Lx, cap, mk, ev, zl, tx, mt, tn, tc, lb, wz, kt, rd, hx, by omega, hC, hd7, hlo, hI, hJb, hTb, rfl⟩ ⟨show ((cells + 1500) + 60) ≤ 10000 by omega, show ((slots + 9000) + 360) ≤ 100000 by omega⟩ hret
/-! the law's rows as they are filled -/
def laO (k : Nat) : SG := fun f j => if f = 5 ∧ 6 ≤ j ∧ j < 6 + k then 10 else 0
def laA (k : Nat) : SG := fun f j => if f = 5 ∧ 6 ≤ j ∧ j < 12 then 10 else if f = 6 ∧ j < 4 ∧ j < k then 1 else if f = 6 ∧ 4 ≤ j ∧ j < 4 + k then 20 else 0
theorem laO_0 : laO 0 = fun _ _ => 0 := by
  funext f j
  unfold laO
  rw [if_neg (by omega)]
theorem laO_s (k : Nat) : up2 (laO k) 5 (6 + k) 10 = laO (k + 1) := by
  funext f j
  unfold up2 laO
  by_cases h : f = 5 ∧ j = 6 + k
  · rw [if_pos h, if_pos (by omega)]
  · rw [if_neg h]
    by_cases g : f = 5 ∧ 6 ≤ j ∧ j < 6 + k
    · rw [if_pos g, if_pos (by omega)]
    · rw [if_neg g, if_neg (by omega)]
theorem laA_0 : laA 0 = laO 6 := by
  funext f j
  unfold laA laO
  by_cases g : f = 5 ∧ 6 ≤ j ∧ j < 12
  · rw [if_pos g, if_pos (by omega)]
  · rw [if_neg g, if_neg (by omega), if_neg (by omega), if_neg (by omega)]
theorem laA_s {k : Nat} (hk : k < 4) : up2 (up2 (laA k) 6 k 1) 6 (4 + k) 20 = laA (k + 1) := by
  funext f j
  unfold up2 laA
  by_cases h : f = 6 ∧ j = 4 + k
  · rw [if_pos h, if_neg (by omega), if_neg (by omega), if_pos (by omega)]
  · rw [if_neg h]
    by_cases g : f = 6 ∧ j = k
    · rw [if_pos g, if_neg (by omega), if_pos (by omega)]
    · rw [if_neg g]
      by_cases a1 : f = 5 ∧ 6 ≤ j ∧ j < 12
      · rw [if_pos a1, if_pos a1]
      · rw [if_neg a1, if_neg a1]
        by_cases a2 : f = 6 ∧ j < 4 ∧ j < k
        · rw [if_pos a2, if_pos (by omega)]
        · rw [if_neg a2, if_neg (show ¬ (f = 6 ∧ j < 4 ∧ j < k + 1) by omega)]
          by_cases a3 : f = 6 ∧ 4 ≤ j ∧ j < 4 + k
          · rw [if_pos a3, if_pos (by omega)]
          · rw [if_neg a3, if_neg (by omega)]
theorem laA_at (f j : Nat) : laA 4 f j = if f = 5 ∧ 6 ≤ j ∧ j < 12 then 10 else if f = 6 ∧ j < 4 ∧ j < 4 then 1 else if f = 6 ∧ 4 ≤ j ∧ j < 8 then 20 else 0 := rfl
theorem LJ_start : LJ 0 0 sgI (laA 4) (fun _ => []) (fun _ => 0) (fun _ => 0) := by
  refine ⟨by decide, rfl, rfl, fun j hj => absurd hj (Nat.not_lt_zero j), fun r hr => ⟨?_, ?_, ?_⟩, fun a ha => ⟨?_, ?_, ?_, ⟨20, by decide, rfl⟩, 0, ?_, rfl⟩, fun j hj => absurd hj (Nat.not_lt_zero j), fun r hr => ⟨0, 10, 0, by decide, by decide, by decide, rfl, rfl, rfl, fun q => absurd q (by decide), fun q => absurd q (by decide), rfl⟩, fun a ha => ⟨rfl, fun j hj => absurd hj List.not_mem_nil⟩⟩
  · rw [laA_at, if_neg (by omega), if_neg (by omega), if_neg (by omega)]; rfl
  · rw [laA_at, if_pos (by omega)]; rfl
  · rw [laA_at, if_neg (by omega), if_neg (by omega), if_neg (by omega)]; rfl
  · rw [laA_at, if_neg (by omega), if_pos (by omega)]; rfl
  · rw [laA_at, if_neg (by omega), if_neg (by omega), if_pos (by omega)]; rfl
  · rw [laA_at, if_neg (by omega), if_neg (by omega), if_neg (by omega)]; rfl
  · rw [laA_at, if_neg (by omega), if_neg (by omega), if_neg (by omega)]; rfl
theorem cw_adE {D : va_G} {ad ae : Nat → Nat → Nat} {cs : Nat → ClassId} {σ : SG} {Lx : Nat → List Nat} {cap : Nat → Nat} {mk : Nat → Int32} {ev : SG} {zl tx mt tn : Nat → Nat} {tc : SG} {w0 : CF} (h : ∀ k, 10 ≤ k → ∀ i, ae k i = ad k i) : cw D ae cs σ Lx cap mk ev zl tx mt tn tc w0 = cw D ad cs σ Lx cap mk ev zl tx mt tn tc w0 := by
  have e17 : ae 17 = ad 17 := funext (h 17 (by decide))
  funext k i
  unfold cw cO cA cR cL cM cX cE
  simp only [e17, h 11 (by decide), h 12 (by decide), h 13 (by decide), h 14 (by decide), h 15 (by decide), h 16 (by decide), h 17 (by decide), h 18 (by decide), h 19 (by decide), h 20 (by decide), h 21 (by decide)]
def dS : Nat → Nat → Prop := fun a b => dI (fun a b => False ∨ (a = 10 ∧ b = 0)) 4 6 True True a b ∨ (1 ≤ a ∧ a ≤ 7 ∧ b = 0)
theorem dS_iff (a b : Nat) : dS a b ↔ ((a = 10 ∧ b = 0) ∨ (a = 11 ∧ b = 0) ∨ (a = 12 ∧ b = 0) ∨ (a = 13 ∧ b < 4) ∨ (a = 14 ∧ b < 6) ∨ (a = 15 ∧ ((1 ≤ b ∧ b < 1 + 4) ∨ (5 ≤ b ∧ b < 5 + 6) ∨ (b = 0))) ∨ (a = 21 ∧ b < 4)) ∨ (1 ≤ a ∧ a ≤ 7 ∧ b = 0) := by
  unfold dS dI
  simp only [and_true, false_or]
theorem PS_start {D : va_G} {cs : Nat → ClassId} {ae : Nat → Nat → Nat} {wz : CF} : PS D cs (fun k => ae k 0) 0 ae dS (cw D ae cs sgI (fun _ => []) (fun _ => 0) (fun _ => 0) (fun _ _ => 0) (fun _ => 0) (fun i => i) (fun _ => 0) (fun _ => 1) (fun _ => upd (fun _ => 0) 0 1) (lwd cs (laA 4) wz)) := by
  refine ⟨0, 4, 0, sgI, (fun _ => []), (fun _ => 0), (fun _ => 0), (fun _ _ => 0), (fun _ => 0), (fun i => i), (fun _ => 0), (fun _ => 1), (fun _ => upd (fun _ => 0) 0 1), laA 4, wz, (fun _ => 0), (fun _ => 0), fun _ _ => rfl, Nat.le_refl _, ⟨?_, ?_, ?_, fun i hi => ?_, fun i hi => ?_, fun i hi => ?_, fun i hi hc => absurd hc (Nat.lt_irrefl 0), fun j hj => absurd hj (Nat.not_lt_zero j), fun t ht => ?_⟩, fun k h1 h2 => ?_, fun i hi => ⟨Nat.le_refl _, Nat.zero_le _, fun j hj => absurd hj List.not_mem_nil⟩, INV.start, LJ_start, rfl⟩ <;> rw [dS_iff]
  all_goals omega
theorem lawW_0 : Cond.classLink RL 9 RX5 ∈ wsL_law := by decide +kernel
theorem lawW_1 : Cond.instantiable RX5 4 ∈ wsL_law := by decide +kernel
theorem lawW_2 : Cond.initialized RX5 ∈ wsL_law := by decide +kernel
theorem lawW_3 : Cond.methodLink RL 136 yX5_init ∈ wsL_law := by decide +kernel
theorem lawW_4 : Cond.instanceMethod yX5_init ∈ wsL_law := by decide +kernel
theorem lawW_5 : Cond.arrayClass .int ∈ wsL_law := by decide +kernel
set_option maxHeartbeats 8000000 in
set_option maxRecDepth 100000 in
theorem law_start {p : Program} {l : Launch} {e : Env} {s : State} {m : MethodId} {args : Array Value} {below : List Frame} {meth : Method} {c : Code} {cells slots : Nat} {Q : State → Prop} {D : va_G} {A : Nat → Prop} {cs : Nat → ClassId} (F : FX p s m args c cL_law 11 wsL_law RL D A (tysG cs)) (hfl : l.stackTraces = false) (hret : ∀ (ad : Nat → Nat → Nat) (dm : Nat → Nat → Prop) (w : CF) (lv : List (Nat × Value)), GG p l e room_1 s m args below meth c D A ad dm 11 600104 7301314 Q w 386 lv [.int 1]) : GG p l e room_1 s m args below meth c D A (fun _ _ => 0) (fun _ _ => False) 11 0 0 Q (fun _ _ => .inr (0, [])) 0 [(0, .ref (D.2 100 40))] [] := by
  refine g_new (ci := 5) (C := RX5) (T := TX5) (N := 4) (tf := tyX5) (fs := [.null, .null, .null, .int 0]) F 10 0 (fun q => q) inlX5 tyX5_ok lawW_0 lawW_1 lawW_2 rfl (fun j hj => by rcases (show j = 0 ∨ j = 1 ∨ j = 2 ∨ j = 3 by omega) with rfl | rfl | rfl | rfl <;> rfl) (Nat.le_of_ble_eq_true rfl) (Nat.le_of_ble_eq_true rfl) dL_law_0 (fun q0 => ?_)
  refine g_dup F dL_law_3 rfl ?_
  refine q_callI F (ret := none) (rest := [.ref q0]) (b := (up2 (fun _ _ => 0) 10 0 q0) 10 0) [] (ci_class l D A cs (up2 (fun _ _ => 0) 10 0 q0) (fun a b => False ∨ (a = 10 ∧ b = 0)) (up2 (fun _ _ => .inr (0, [])) 10 0 (.inr (5, [.null, .null, .null, .int 0]))) (fun a b h => .inr (h.elim False.elim id)) (.inr ⟨rfl, rfl⟩) (up2_self _ _ _ _)) (n_cwI 0 F.1.2.2.2.2 gL_law_X5_init rfl rfl rfl lawW_3 lawW_2 lawW_4 rfl (by decide +kernel) ⟨Nat.le_of_ble_eq_true rfl, Nat.le_of_ble_eq_true rfl⟩) rfl rfl (Nat.le_of_ble_eq_true rfl) dL_law_4 ⟨Nat.le_of_ble_eq_true rfl, Nat.le_of_ble_eq_true rfl⟩ (fun rz ad2 dm2 w2 hv => ?_)
  obtain ⟨rfl, hd2, rfl, rfl⟩ := hv
  have e10 : ad2 10 0 = q0 := (hd2 10 0 (.inr ⟨rfl, rfl⟩)).trans (up2_self _ _ _ _)
  refine g_st (st1 := [.ref q0]) rfl ?_
  refine g_astore_n F (lv1 := [(1, .ref q0), (0, .ref (D.2 100 40))]) dL_law_7 rfl (by decide) rfl ?_
  refine g_bipush F dL_law_8 (v := 48) (by decide) ?_
  refine g_newi F 1 0 0 (N' := 48) (by unfold dI; simp) rfl lawW_5 (by decide) (by decide) (Nat.le_of_ble_eq_true rfl) (Nat.le_of_ble_eq_true rfl) dL_law_10 (fun q1 => ?_)
  refine g_astore_n F (lv1 := [(2, .ref q1), (1, .ref q0), (0, .ref (D.2 100 40))]) dL_law_12 rfl (by decide) rfl ?_
  refine g_bipush F dL_law_13 (v := 24) (by decide) ?_
  refine g_newi F 2 0 0 (N' := 24) (by unfold dI; simp) rfl lawW_5 (by decide) (by decide) (Nat.le_of_ble_eq_true rfl) (Nat.le_of_ble_eq_true rfl) dL_law_15 (fun q2 => ?_)
  refine g_astore_n F (lv1 := [(3, .ref q2), (2, .ref q1), (1, .ref q0), (0, .ref (D.2 100 40))]) dL_law_17 rfl (by decide) rfl ?_
  refine g_bipush F dL_law_18 (v := 48) (by decide) ?_
  refine g_newi F 3 0 0 (N' := 48) (by unfold dI; simp) rfl lawW_5 (by decide) (by decide) (Nat.le_of_ble_eq_true rfl) (Nat.le_of_ble_eq_true rfl) dL_law_20 (fun q3 => ?_)
  refine g_astore F (lv1 := [(4, .ref q3), (3, .ref q2), (2, .ref q1), (1, .ref q0), (0, .ref (D.2 100 40))]) dL_law_22 (by decide) rfl ?_
  refine g_bipush F dL_law_24 (v := 24) (by decide) ?_
  refine g_newi F 4 0 0 (N' := 24) (by unfold dI; simp) rfl lawW_5 (by decide) (by decide) (Nat.le_of_ble_eq_true rfl) (Nat.le_of_ble_eq_true rfl) dL_law_26 (fun q4 => ?_)
  refine g_astore F (lv1 := [(5, .ref q4), (4, .ref q3), (3, .ref q2), (2, .ref q1), (1, .ref q0), (0, .ref (D.2 100 40))]) dL_law_28 (by decide) rfl ?_
  refine g_bipush F dL_law_30 (v := 18) (by decide) ?_
  refine g_newi F 5 0 0 (N' := 18) (by unfold dI; simp) rfl lawW_5 (by decide) (by decide) (Nat.le_of_ble_eq_true rfl) (Nat.le_of_ble_eq_true rfl) dL_law_32 (fun q5 => ?_)
  refine g_astore F (lv1 := [(6, .ref q5), (5, .ref q4), (4, .ref q3), (3, .ref q2), (2, .ref q1), (1, .ref q0), (0, .ref (D.2 100 40))]) dL_law_34 (by decide) rfl ?_
  refine g_bipush F dL_law_36 (v := 16) (by decide) ?_
  refine g_newi F 6 0 0 (N' := 16) (by unfold dI; simp) rfl lawW_5 (by decide) (by decide) (Nat.le_of_ble_eq_true rfl) (Nat.le_of_ble_eq_true rfl) dL_law_38 (fun q6 => ?_)
  refine g_astore F (lv1 := [(7, .ref q6), (6, .ref q5), (5, .ref q4), (4, .ref q3), (3, .ref q2), (2, .ref q1), (1, .ref q0), (0, .ref (D.2 100 40))]) dL_law_40 (by decide) rfl ?_
  refine g_iconst F dL_law_42 (v := 2) (by decide) ?_
  refine g_newi F 7 0 0 (N' := 2) (by unfold dI; simp) rfl lawW_5 (by decide) (by decide) (Nat.le_of_ble_eq_true rfl) (Nat.le_of_ble_eq_true rfl) dL_law_43 (fun q7 => ?_)
  refine g_astore F (lv1 := [(8, .ref q7), (7, .ref q6), (6, .ref q5), (5, .ref q4), (4, .ref q3), (3, .ref q2), (2, .ref q1), (1, .ref q0), (0, .ref (D.2 100 40))]) dL_law_45 (by decide) rfl ?_
  refine g_iconst F dL_law_47 (v := 0) (by decide) ?_
  refine g_istore F (lv1 := [(9, .int 0), (8, .ref q7), (7, .ref q6), (6, .ref q5), (5, .ref q4), (4, .ref q3), (3, .ref q2), (2, .ref q1), (1, .ref q0), (0, .ref (D.2 100 40))]) dL_law_48 (by decide) rfl ?_
  obtain ⟨ae, hae⟩ : ∃ ae : Nat → Nat → Nat, ae = (up2 (up2 (up2 (up2 (up2 (up2 (up2 ad2 1 0 q1) 2 0 q2) 3 0 q3) 4 0 q4) 5 0 q5) 6 0 q6) 7 0 q7) := ⟨_, rfl⟩
  have a1 : ae 1 0 = q1 := by rw [hae]; rfl
  have a2 : ae 2 0 = q2 := by rw [hae]; rfl
  have a3 : ae 3 0 = q3 := by rw [hae]; rfl
  have a4 : ae 4 0 = q4 := by rw [hae]; rfl
  have a5 : ae 5 0 = q5 := by rw [hae]; rfl
  have a6 : ae 6 0 = q6 := by rw [hae]; rfl
  have a7 : ae 7 0 = q7 := by rw [hae]; rfl
  have hae2 : ∀ k, 10 ≤ k → ∀ i, ae k i = ad2 k i := fun k hk i => by rw [hae, up2_k (by omega), up2_k (by omega), up2_k (by omega), up2_k (by omega), up2_k (by omega), up2_k (by omega), up2_k (by omega)]
  have a10 : ae 10 0 = q0 := (hae2 10 (by decide) 0).trans e10
  refine g_forget (dm1 := dS) (ad1 := ae) (w1 := (cw D ae cs sgI (fun _ => []) (fun _ => 0) (fun _ => 0) (fun _ _ => 0) (fun _ => 0) (fun i => i) (fun _ => 0) (fun _ => 1) (fun _ => upd (fun _ => 0) 0 1) (lwd cs (fun _ _ => 0) (fun _ _ => .inr (0, []))))) (fun a b h => ?_) (fun a b h => by rw [hae]) (fun a b h => ?_) ?_
  · rcases h with h | h
    · exact .inl (.inl (.inl (.inl (.inl (.inl (.inl h))))))
    · rcases (show a = 1 ∨ a = 2 ∨ a = 3 ∨ a = 4 ∨ a = 5 ∨ a = 6 ∨ a = 7 by omega) with rfl | rfl | rfl | rfl | rfl | rfl | rfl
      · exact .inl (.inl (.inl (.inl (.inl (.inl (.inr ⟨rfl, h.2.2⟩))))))
      · exact .inl (.inl (.inl (.inl (.inl (.inr ⟨rfl, h.2.2⟩)))))
      · exact .inl (.inl (.inl (.inl (.inr ⟨rfl, h.2.2⟩))))
      · exact .inl (.inl (.inl (.inr ⟨rfl, h.2.2⟩)))
      · exact .inl (.inl (.inr ⟨rfl, h.2.2⟩))
      · exact .inl (.inr ⟨rfl, h.2.2⟩)
      · exact .inr ⟨rfl, h.2.2⟩
  · rcases (dS_iff a b).mp h with h | h
    · have h10 : 10 ≤ a := by omega
      rw [up2_ne _ _ (fun q => absurd q.1 (by omega)), up2_ne _ _ (fun q => absurd q.1 (by omega)), up2_ne _ _ (fun q => absurd q.1 (by omega)), up2_ne _ _ (fun q => absurd q.1 (by omega)), up2_ne _ _ (fun q => absurd q.1 (by omega)), up2_ne _ _ (fun q => absurd q.1 (by omega)), up2_ne _ _ (fun q => absurd q.1 (by omega)), cw_adE hae2]
      unfold cwZ
      have hk : (a = 10 ∧ b = 0) ∨ a = 11 ∨ a = 12 ∨ a = 13 ∨ a = 14 ∨ a = 15 ∨ a = 21 := by omega
      rcases hk with ⟨rfl, rfl⟩ | rfl | rfl | rfl | rfl | rfl | rfl <;> rfl
    · obtain ⟨h1, h7, rfl⟩ := h
      rcases (show a = 1 ∨ a = 2 ∨ a = 3 ∨ a = 4 ∨ a = 5 ∨ a = 6 ∨ a = 7 by omega) with rfl | rfl | rfl | rfl | rfl | rfl | rfl <;> exact (lw_at ⟨by decide, by decide⟩).trans rfl
  refine g_lv (lv1 := [(9, .int 0), (0, .ref (D.2 100 40)), (1, .ref q0), (2, .ref q1), (3, .ref q2), (4, .ref q3), (5, .ref q4), (6, .ref q5), (7, .ref q6), (8, .ref q7)]) [0, 9, 8, 7, 6, 5, 4, 3, 2, 1] rfl ?_
  refine g_lve (lv1 := [(9, .int (nI 0)), (0, .ref (D.2 100 40)), (1, .ref (ae 10 0)), (2, .ref (ae 1 0)), (3, .ref (ae 2 0)), (4, .ref (ae 3 0)), (5, .ref (ae 4 0)), (6, .ref (ae 5 0)), (7, .ref (ae 6 0)), (8, .ref (ae 7 0))]) (by rw [a10, a1, a2, a3, a4, a5, a6, a7]; rfl) ?_
  have hd7 : ∀ k, 1 ≤ k → k ≤ 7 → dS k 0 := fun k h1 h2 => .inr ⟨h1, h2, rfl⟩
  refine g_w (w1 := (cw D ae cs sgI (fun _ => []) (fun _ => 0) (fun _ => 0) (fun _ _ => 0) (fun _ => 0) (fun i => i) (fun _ => 0) (fun _ => 1) (fun _ => upd (fun _ => 0) 0 1) (lwd cs (laO 0) (fun _ _ => .inr (0, []))))) (by rw [laO_0]) ?_
  refine g_loop 6 0 (Nat.zero_le _) (fun k => (cw D ae cs sgI (fun _ => []) (fun _ => 0) (fun _ => 0) (fun _ _ => 0) (fun _ => 0) (fun i => i) (fun _ => 0) (fun _ => 1) (fun _ => upd (fun _ => 0) 0 1) (lwd cs (laO k) (fun _ _ => .inr (0, []))))) (fun k => [(9, .int (nI k)), (0, .ref (D.2 100 40)), (1, .ref (ae 10 0)), (2, .ref (ae 1 0)), (3, .ref (ae 2 0)), (4, .ref (ae 3 0)), (5, .ref (ae 4 0)), (6, .ref (ae 5 0)), (7, .ref (ae 6 0)), (8, .ref (ae 7 0))]) rfl rfl ?_ (fun k _ hk ih => ?_)
  · refine g_iload F 0 dL_law_50 rfl ?_
    refine g_bipush F dL_law_52 (v := 6) (by decide) ?_
    refine g_icmp_ge F (tgt := 73) dL_law_54 (by decide) (fun _ => ?_) (fun q => absurd (show (6 : Int32) ≤ nI 6 by decide) q)
    refine g_iconst F dL_law_73 (v := 0) (by decide) ?_
    refine g_istore F (lv1 := [(9, .int (nI 0)), (0, .ref (D.2 100 40)), (1, .ref (ae 10 0)), (2, .ref (ae 1 0)), (3, .ref (ae 2 0)), (4, .ref (ae 3 0)), (5, .ref (ae 4 0)), (6, .ref (ae 5 0)), (7, .ref (ae 6 0)), (8, .ref (ae 7 0))]) dL_law_74 (by decide) rfl ?_
    refine g_w (w1 := (cw D ae cs sgI (fun _ => []) (fun _ => 0) (fun _ => 0) (fun _ _ => 0) (fun _ => 0) (fun i => i) (fun _ => 0) (fun _ => 1) (fun _ => upd (fun _ => 0) 0 1) (lwd cs (laA 0) (fun _ _ => .inr (0, []))))) (by rw [laA_0]) ?_
    refine g_loop 4 0 (Nat.zero_le _) (fun k => (cw D ae cs sgI (fun _ => []) (fun _ => 0) (fun _ => 0) (fun _ _ => 0) (fun _ => 0) (fun i => i) (fun _ => 0) (fun _ => 1) (fun _ => upd (fun _ => 0) 0 1) (lwd cs (laA k) (fun _ _ => .inr (0, []))))) (fun k => [(9, .int (nI k)), (0, .ref (D.2 100 40)), (1, .ref (ae 10 0)), (2, .ref (ae 1 0)), (3, .ref (ae 2 0)), (4, .ref (ae 3 0)), (5, .ref (ae 4 0)), (6, .ref (ae 5 0)), (7, .ref (ae 6 0)), (8, .ref (ae 7 0))]) rfl rfl ?_ (fun k _ hk ih => ?_)
    · refine g_iload F 0 dL_law_76 rfl ?_
      refine g_iconst F dL_law_78 (v := 4) (by decide) ?_
      refine g_icmp_ge F (tgt := 103) dL_law_79 (by decide) (fun _ => ?_) (fun q => absurd (show (4 : Int32) ≤ nI 4 by decide) q)
      exact law_first F hfl (xd := fun k => ae k 0) PS_start ⟨Nat.le_of_ble_eq_true rfl, Nat.le_of_ble_eq_true rfl⟩ hret
    · refine g_iload F 0 dL_law_76 rfl ?_
      refine g_iconst F dL_law_78 (v := 4) (by decide) ?_
      refine g_icmp_ge F (tgt := 103) dL_law_79 (by decide) (fun q => absurd ((nI_leE (show (4 : Int32) = nI 4 from rfl) (show nI k = nI k from rfl) (by decide) (by omega)).mp q) (by omega)) (fun _ => ?_)
      refine g_aload F 8 dL_law_82 rfl ?_
      refine g_iload F 0 dL_law_84 rfl ?_
      refine g_iconst F dL_law_86 (v := 1) (by decide) ?_
      refine l_st F (K := 6) (j := k) hd7 ⟨by decide, by decide⟩ rfl (show k < 16 by omega) dL_law_87 ?_
      refine g_aload F 8 dL_law_88 rfl ?_
      refine g_iconst F dL_law_90 (v := 4) (by decide) ?_
      refine g_iload F 0 dL_law_91 rfl ?_
      refine g_iadd F dL_law_93 ?_
      refine g_top (y := nI (4 + k)) (nI_add 4 k).symm ?_
      refine g_bipush F dL_law_94 (v := 20) (by decide) ?_
      refine l_st F (K := 6) (j := 4 + k) hd7 ⟨by decide, by decide⟩ rfl (show 4 + k < 16 by omega) dL_law_96 ?_
      refine g_iinc F (v := nI (k + 1)) (lv1 := [(9, .int (nI (k + 1))), (0, .ref (D.2 100 40)), (1, .ref (ae 10 0)), (2, .ref (ae 1 0)), (3, .ref (ae 2 0)), (4, .ref (ae 3 0)), (5, .ref (ae 4 0)), (6, .ref (ae 5 0)), (7, .ref (ae 6 0)), (8, .ref (ae 7 0))]) 0 dL_law_97 rfl (nI_1 k) (by decide) rfl ?_
      refine g_goto F (tgt := 76) dL_law_100 (by decide) ?_
      exact g_w (w1 := (cw D ae cs sgI (fun _ => []) (fun _ => 0) (fun _ => 0) (fun _ _ => 0) (fun _ => 0) (fun i => i) (fun _ => 0) (fun _ => 1) (fun _ => upd (fun _ => 0) 0 1) (lwd cs (laA (k + 1)) (fun _ _ => .inr (0, []))))) (by rw [laA_s hk]) ih
  · refine g_iload F 0 dL_law_50 rfl ?_
    refine g_bipush F dL_law_52 (v := 6) (by decide) ?_
    refine g_icmp_ge F (tgt := 73) dL_law_54 (by decide) (fun q => absurd ((nI_leE (show (6 : Int32) = nI 6 from rfl) (show nI k = nI k from rfl) (by decide) (by omega)).mp q) (by omega)) (fun _ => ?_)
    refine g_aload F 7 dL_law_57 rfl ?_
    refine g_bipush F dL_law_59 (v := 6) (by decide) ?_
    refine g_iload F 0 dL_law_61 rfl ?_
    refine g_iadd F dL_law_63 ?_
    refine g_top (y := nI (6 + k)) (nI_add 6 k).symm ?_
    refine g_bipush F dL_law_64 (v := 10) (by decide) ?_
    refine l_st F (K := 5) (j := 6 + k) hd7 ⟨by decide, by decide⟩ rfl (show 6 + k < 18 by omega) dL_law_66 ?_
    refine g_iinc F (v := nI (k + 1)) (lv1 := [(9, .int (nI (k + 1))), (0, .ref (D.2 100 40)), (1, .ref (ae 10 0)), (2, .ref (ae 1 0)), (3, .ref (ae 2 0)), (4, .ref (ae 3 0)), (5, .ref (ae 4 0)), (6, .ref (ae 5 0)), (7, .ref (ae 6 0)), (8, .ref (ae 7 0))]) 0 dL_law_67 rfl (nI_1 k) (by decide) rfl ?_
    refine g_goto F (tgt := 50) dL_law_70 (by decide) ?_
    exact g_w (w1 := (cw D ae cs sgI (fun _ => []) (fun _ => 0) (fun _ => 0) (fun _ _ => 0) (fun _ => 0) (fun i => i) (fun _ => 0) (fun _ => 1) (fun _ => upd (fun _ => 0) 0 1) (lwd cs (laO (k + 1)) (fun _ _ => .inr (0, []))))) (by rw [laO_s]) ih
