set_option maxHeartbeats 4000000 in
set_option maxRecDepth 100000 in
theorem cq_size (l : Launch) (D : va_G) (A : Nat → Prop) (cs : Nat → ClassId) (ad : Nat → Nat → Nat) (dm : Nat → Nat → Prop) (w : CF) (i k e0 : Nat) (m0 : Int32) (h15 : dm 15 i) (hw15 : w 15 i = .inr (0, [.int m0, .ref e0, .int (nI k)])) : Met l yJx4a65c_size_8abf5 wsJx4a65c_size_8abf5 ({ frames := 0, cells := 0, slots := 0, locals := 0 }) (va_Pc [.ref (ad 15 i)] (PW D A (tysG cs) ad dm w)) (QW D A (tysG cs) (fun rz ad1 dm1 w1 => rz = some (.int (nI k)) ∧ ad = ad1 ∧ dm = dm1 ∧ w = w1)) 0 0 A := by
  refine g_start (own := RJx4a65c) [.ref (ad 15 i)] (cc := cJx4a65c_size_8abf5) (maxL := 1) (ret := (some .int)) (lv0 := [(0, .ref (ad 15 i))]) (by decide) rfl rfl (Nat.le_of_ble_eq_true rfl) rfl ?_
  intro p e s m below meth c F hr hlocks hname
  have hin : ∀ w ∈ wsJx4a65c0, w ∈ wsJx4a65c_size_8abf5 := by decide +kernel
  refine g_aload_n F 0 dJx4a65c_size_8abf5_0 rfl rfl ?_
  refine g_getf (k := 15) (i := i) (ci := 0) (C := RJx4a65c) (T := TJx4a65c) (N := 3) (fs := [.int m0, .ref e0, .int (nI k)]) (fk := 2) (v := .int (nI k)) F hin h15 hw15 rfl (by decide) (by decide +kernel) rfl rfl dJx4a65c_size_8abf5_1 ?_
  exact g_qi F hr hlocks (fun _ h => h) ⟨rfl, rfl, rfl, rfl⟩ (by decide) (by decide) dJx4a65c_size_8abf5_4
set_option maxHeartbeats 4000000 in
set_option maxRecDepth 100000 in
theorem cc_submit (l : Launch) (D : va_G) (A : Nat → Prop) (cs : Nat → ClassId) (ad : Nat → Nat → Nat) (dm : Nat → Nat → Prop) (σ : SG) (Lx : Nat → List Nat) (cap : Nat → Nat) (mk : Nat → Int32) (ev : SG) (zl tx mt tn : Nat → Nat) (tc : SG) (w0 : CF) (n tq : Nat) (hC : CD dm n cap tq) (y to pr u : Int32) (hn40 : n ≤ 40) (hL : Lx 0 = List.range n) (hlo : LO n Lx cap) (hub : UB dm n tq) (hrg : ∀ j, j < n → ix (σ 12 j) < 4 ∧ ix (σ 13 j) < 6) (hqn : ∀ r, r < 6 → (Lx (5 + r)).length ≤ n) (hk6 : accP y → σ 6 (ix y) = bi (σ 6 (ix y) = 1)) (hz3 : σ 23 n = 0 ∧ σ 24 n = 0 ∧ σ 25 n = 0) (hz27 : ∀ x, x < 3 → σ 27 ((3 * n) + (2 - x)) = 0) (hw : accP y ∧ recP to → inR pr 0 3 ∧ inR u 1 500 → (knO σ (ix y) (ix to) n) = none → n < 40 → ∀ k, k < n → WOK (n + 1) tq (va_up mt n (tx (ix y))) tn (dqT n ((nwS σ σ (ix y) n y to pr u), (va_up (va_up Lx 0 (Lx 0 ++ [n])) (5 + (ix to)) ((va_up Lx 0 (Lx 0 ++ [n])) (5 + (ix to)) ++ [n])), (va_up ev n (fun _ => 0)), (va_up zl n 1)) k).1) (hfl : l.stackTraces = false) : vx_Met l yX5_submit wsX5_submit ({ frames := 9, cells := ((dqA n ((nwS σ σ (ix y) n y to pr u), (va_up (va_up Lx 0 (Lx 0 ++ [n])) (5 + (ix to)) ((va_up Lx 0 (Lx 0 ++ [n])) (5 + (ix to)) ++ [n])), (va_up ev n (fun _ => 0)), (va_up zl n 1))).2 + 10), slots := (60 * (dqA n ((nwS σ σ (ix y) n y to pr u), (va_up (va_up Lx 0 (Lx 0 ++ [n])) (5 + (ix to)) ((va_up Lx 0 (Lx 0 ++ [n])) (5 + (ix to)) ++ [n])), (va_up ev n (fun _ => 0)), (va_up zl n 1))).2 + 766), locals := 285 }) (va_Pc [.ref (ad 10 0), .int y, .int to, .int pr, .int u] (PW D A (tysG cs) ad dm (cw D ad cs σ Lx cap mk ev zl tx mt tn tc w0))) (QW D A (tysG cs) (fun rz ad1 dm1 w1 => ((accP y ∧ recP to) ∧ (inR pr 0 3 ∧ inR u 1 500)) ∧ ((∃ j, (knO σ (ix y) (ix to) n) = some j ∧ rz = some (.int (nI j)) ∧ ad = ad1 ∧ dm = dm1 ∧ (cw D ad cs σ Lx cap mk ev zl tx mt tn tc w0) = w1) ∨ ((knO σ (ix y) (ix to) n) = none ∧ (thH σ (ix y) n) < (σ 7 (ix y)) ∧ n < 40 ∧ rz = some (.int (nI n)) ∧ ∃ q17 q18 q19 q20, EXP D cs (n + 1) tq (up2 (up2 (up2 (up2 ad 17 n q17) 18 n q18) 19 n q19) 20 n q20) (fun a b => (fun a b => (fun a b => (fun a b => dm a b ∨ (a = 17 ∧ b = n)) a b ∨ (a = 18 ∧ b = n)) a b ∨ (a = 19 ∧ b = n)) a b ∨ (a = 20 ∧ b = n)) (dqA n ((nwS σ σ (ix y) n y to pr u), (va_up (va_up Lx 0 (Lx 0 ++ [n])) (5 + (ix to)) ((va_up Lx 0 (Lx 0 ++ [n])) (5 + (ix to)) ++ [n])), (va_up ev n (fun _ => 0)), (va_up zl n 1))).1.1 (dqA n ((nwS σ σ (ix y) n y to pr u), (va_up (va_up Lx 0 (Lx 0 ++ [n])) (5 + (ix to)) ((va_up Lx 0 (Lx 0 ++ [n])) (5 + (ix to)) ++ [n])), (va_up ev n (fun _ => 0)), (va_up zl n 1))).1.2.1 (dqA n ((nwS σ σ (ix y) n y to pr u), (va_up (va_up Lx 0 (Lx 0 ++ [n])) (5 + (ix to)) ((va_up Lx 0 (Lx 0 ++ [n])) (5 + (ix to)) ++ [n])), (va_up ev n (fun _ => 0)), (va_up zl n 1))).1.2.2.1 (dqA n ((nwS σ σ (ix y) n y to pr u), (va_up (va_up Lx 0 (Lx 0 ++ [n])) (5 + (ix to)) ((va_up Lx 0 (Lx 0 ++ [n])) (5 + (ix to)) ++ [n])), (va_up ev n (fun _ => 0)), (va_up zl n 1))).1.2.2.2 tx (va_up mt n (tx (ix y))) tn tc w0 ad1 dm1 w1)))) (XW D A (tysG cs) ad dm (cw D ad cs σ Lx cap mk ev zl tx mt tn tc w0) (fun E => (E = xIO ∧ ¬ (accP y ∧ recP to)) ∨ (E = xIA ∧ (accP y ∧ recP to) ∧ ¬ (inR pr 0 3 ∧ inR u 1 500)) ∨ (E = xIS ∧ (accP y ∧ recP to) ∧ (inR pr 0 3 ∧ inR u 1 500) ∧ (knO σ (ix y) (ix to) n) = none ∧ (¬ (thH σ (ix y) n) < (σ 7 (ix y)) ∨ ¬ n < 40)))) ((dqA n ((nwS σ σ (ix y) n y to pr u), (va_up (va_up Lx 0 (Lx 0 ++ [n])) (5 + (ix to)) ((va_up Lx 0 (Lx 0 ++ [n])) (5 + (ix to)) ++ [n])), (va_up ev n (fun _ => 0)), (va_up zl n 1))).2 + 10) (60 * (dqA n ((nwS σ σ (ix y) n y to pr u), (va_up (va_up Lx 0 (Lx 0 ++ [n])) (5 + (ix to)) ((va_up Lx 0 (Lx 0 ++ [n])) (5 + (ix to)) ++ [n])), (va_up ev n (fun _ => 0)), (va_up zl n 1))).2 + 766) A := by
  refine q_start (own := RX5) [.ref (ad 10 0), .int y, .int to, .int pr, .int u] (cc := cX5_submit) (maxL := 9) (ret := (some .int)) (lv0 := [(0, .ref (ad 10 0)), (1, .int y), (2, .int to), (3, .int pr), (4, .int u)]) (by decide) rfl rfl (Nat.le_of_ble_eq_true rfl) rfl ?_
  intro p e s m below meth c F hr hlocks hno
  have hinJx4a65c : ∀ w ∈ wsJx4a65c0, w ∈ wsX5_submit := by decide +kernel
  have hinX3 : ∀ w ∈ wsX30, w ∈ wsX5_submit := by decide +kernel
  have hinX5 : ∀ w ∈ wsX50, w ∈ wsX5_submit := by decide +kernel
  refine g_aload_n F 0 dX5_submit_0 rfl rfl ?_
  refine g_iload_n F 1 dX5_submit_1 rfl rfl ?_
  refine x_callV F (C := RX5) (k := 10) (i := 0) (ci := 5) (T := TX5) (N := 4) (rest := []) [.int y] (cc_accountAt l D A cs ad dm σ Lx cap mk ev zl tx mt tn tc w0 n tq hC y hfl) (cwV 1 F.1.2.2.2.2 gX5_submit_X5_accountAt rfl rfl rfl (by decide +kernel) ⟨Nat.le_of_ble_eq_true rfl, Nat.le_of_ble_eq_true rfl⟩) rfl hC.1 rfl rfl rfl rfl (Nat.le_of_ble_eq_true rfl) dX5_submit_2 ⟨by show _ ≤ _ + 10; omega, by show _ ≤ _ + 766; omega⟩ (x_prop F hno hlocks (fun _ h => .inl ⟨h.1, fun q => h.2 q.1⟩) (by show _ ≤ _ + 10; omega) (by show _ ≤ _ + 766; omega)) (fun _ _ _ _ zv1 => ?_)
  obtain ⟨hc2, rfl, rfl, rfl, rfl⟩ := zv1
  have hb2 := (ix_acc hc2).2
  show GG p l e _ s m _ below meth c D A ad dm _ _ _ _ (cw D ad cs σ Lx cap mk ev zl tx mt tn tc w0) 5 _ [.ref (ad 13 (ix y))]
  refine g_astore F (lv1 := [(5, .ref (ad 13 (ix y))), (0, .ref (ad 10 0)), (1, .int y), (2, .int to), (3, .int pr), (4, .int u)]) dX5_submit_5 (by decide) rfl ?_
  refine g_aload_n F 1 dX5_submit_7 rfl rfl ?_
  refine g_iload_n F 3 dX5_submit_8 rfl rfl ?_
  refine x_callV F (C := RX5) (k := 10) (i := 0) (ci := 5) (T := TX5) (N := 4) (rest := []) [.int to] (cc_recipientAt l D A cs ad dm σ Lx cap mk ev zl tx mt tn tc w0 n tq hC to hfl) (cwV 1 F.1.2.2.2.2 gX5_submit_X5_recipientAt rfl rfl rfl (by decide +kernel) ⟨Nat.le_of_ble_eq_true rfl, Nat.le_of_ble_eq_true rfl⟩) rfl hC.1 rfl rfl rfl rfl (Nat.le_of_ble_eq_true rfl) dX5_submit_9 ⟨by show _ ≤ _ + 10; omega, by show _ ≤ _ + 766; omega⟩ (x_prop F hno hlocks (fun _ h => .inl ⟨h.1, fun q => h.2 q.2⟩) (by show _ ≤ _ + 10; omega) (by show _ ≤ _ + 766; omega)) (fun _ _ _ _ zv2 => ?_)
  obtain ⟨hc9, rfl, rfl, rfl, rfl⟩ := zv2
  have hb9 := (ix_rec hc9).2
  show GG p l e _ s m _ below meth c D A ad dm _ _ _ _ (cw D ad cs σ Lx cap mk ev zl tx mt tn tc w0) 12 _ [.ref (ad 14 (ix to))]
  refine g_astore F (lv1 := [(6, .ref (ad 14 (ix to))), (5, .ref (ad 13 (ix y))), (0, .ref (ad 10 0)), (1, .int y), (2, .int to), (3, .int pr), (4, .int u)]) dX5_submit_12 (by decide) rfl ?_
  refine g_iload_n F 5 dX5_submit_14 rfl rfl ?_
  refine g_iconst F dX5_submit_15 (v := 0) (by decide) ?_
  refine g_iconst F dX5_submit_16 (v := 3) (by decide) ?_
  refine x_callS F (rest := []) [.int pr, .int 0, .int 3] (cc_require l D A cs ad dm σ Lx cap mk ev zl tx mt tn tc w0 n tq hC pr 0 3 hfl) (va_cwS 3 F.1.2.2.2.2 gX5_submit_X5_requireInRange rfl rfl rfl (by decide +kernel) ⟨Nat.le_of_ble_eq_true rfl, Nat.le_of_ble_eq_true rfl⟩) rfl rfl (Nat.le_of_ble_eq_true rfl) dX5_submit_17 ⟨by show _ ≤ _ + 10; omega, by show _ ≤ _ + 766; omega⟩ (x_prop F hno hlocks (fun _ h => .inr (.inl ⟨h.1, ⟨hc2, hc9⟩, fun q => h.2 q.1⟩)) (by show _ ≤ _ + 10; omega) (by show _ ≤ _ + 766; omega)) (fun _ _ _ _ zv3 => ?_)
  obtain ⟨hc17, rfl, rfl, rfl, rfl⟩ := zv3
  show GG p l e _ s m _ below meth c D A ad dm _ _ _ _ (cw D ad cs σ Lx cap mk ev zl tx mt tn tc w0) 20 _ []
  refine g_iload F 6 dX5_submit_20 rfl ?_
  refine g_iconst F dX5_submit_22 (v := 1) (by decide) ?_
  refine g_sipush F dX5_submit_23 (v := 500) (by decide) ?_
  refine x_callS F (rest := []) [.int u, .int 1, .int 500] (cc_require l D A cs ad dm σ Lx cap mk ev zl tx mt tn tc w0 n tq hC u 1 500 hfl) (va_cwS 3 F.1.2.2.2.2 gX5_submit_X5_requireInRange rfl rfl rfl (by decide +kernel) ⟨Nat.le_of_ble_eq_true rfl, Nat.le_of_ble_eq_true rfl⟩) rfl rfl (Nat.le_of_ble_eq_true rfl) dX5_submit_26 ⟨by show _ ≤ _ + 10; omega, by show _ ≤ _ + 766; omega⟩ (x_prop F hno hlocks (fun _ h => .inr (.inl ⟨h.1, ⟨hc2, hc9⟩, fun q => h.2 q.2⟩)) (by show _ ≤ _ + 10; omega) (by show _ ≤ _ + 766; omega)) (fun _ _ _ _ zv4 => ?_)
  obtain ⟨hc26, rfl, rfl, rfl, rfl⟩ := zv4
  show GG p l e _ s m _ below meth c D A ad dm _ _ _ _ (cw D ad cs σ Lx cap mk ev zl tx mt tn tc w0) 29 _ []
  refine g_aload_n F 2 dX5_submit_29 rfl rfl ?_
  refine g_aload F 1 dX5_submit_30 rfl ?_
  refine g_aload F 0 dX5_submit_32 rfl ?_
  refine q_callV F (C := RX5) (k := 10) (i := 0) (ci := 5) (T := TX5) (N := 4) (rest := []) [.ref (ad 13 (ix y)), .ref (ad 14 (ix to))] (cc_known l D A cs ad dm σ Lx cap mk ev zl tx mt tn tc w0 n tq hC (ix y) (ix to) hn40 hL hlo hrg (by omega) (by omega)) (cwV 2 F.1.2.2.2.2 gX5_submit_X5_knownAgain rfl rfl rfl (by decide +kernel) ⟨Nat.le_of_ble_eq_true rfl, Nat.le_of_ble_eq_true rfl⟩) rfl hC.1 rfl rfl rfl rfl (Nat.le_of_ble_eq_true rfl) dX5_submit_34 ⟨by show _ ≤ _ + 10; omega, by show _ ≤ _ + 766; omega⟩ (fun _ _ _ _ zv5 => ?_)
  obtain ⟨rfl, rfl, rfl, rfl⟩ := zv5
  show GG p l e _ s m _ below meth c D A ad dm _ _ _ _ (cw D ad cs σ Lx cap mk ev zl tx mt tn tc w0) 37 _ [(va_rf (Option.map (ad 17) (knO σ (ix y) (ix to) n)))]
  rcases hq9 : (knO σ (ix y) (ix to) n) with _ | b
  ·
    show GG p l e _ s m _ below meth c D A ad dm _ _ _ _ (cw D ad cs σ Lx cap mk ev zl tx mt tn tc w0) 37 [(6, .ref (ad 14 (ix to))), (5, .ref (ad 13 (ix y))), (0, .ref (ad 10 0)), (1, .int y), (2, .int to), (3, .int pr), (4, .int u)] [.null]
    refine g_astoreN F (lv1 := [(7, .null), (6, .ref (ad 14 (ix to))), (5, .ref (ad 13 (ix y))), (0, .ref (ad 10 0)), (1, .int y), (2, .int to), (3, .int pr), (4, .int u)]) dX5_submit_37 (by decide) rfl ?_
    refine g_aloadN F 0 dX5_submit_39 rfl ?_
    refine g_ifnullN F (tgt := 50) dX5_submit_41 (by decide) ?_
    refine g_aload_n F 3 dX5_submit_50 rfl rfl ?_
    refine g_aload F 2 dX5_submit_51 rfl ?_
    refine q_callV F (C := RX5) (k := 10) (i := 0) (ci := 5) (T := TX5) (N := 4) (rest := []) [.ref (ad 13 (ix y))] (cc_throttled l D A cs ad dm σ Lx cap mk ev zl tx mt tn tc w0 n tq hC (ix y) hn40 hL hlo hrg (by omega)) (cwV 1 F.1.2.2.2.2 gX5_submit_X5_isThrottled rfl rfl rfl (by decide +kernel) ⟨Nat.le_of_ble_eq_true rfl, Nat.le_of_ble_eq_true rfl⟩) rfl hC.1 rfl rfl rfl rfl (Nat.le_of_ble_eq_true rfl) dX5_submit_53 ⟨by show _ ≤ _ + 10; omega, by show _ ≤ _ + 766; omega⟩ (fun _ _ _ _ zv6 => ?_)
    obtain ⟨rfl, rfl, rfl, rfl⟩ := zv6
    show GG p l e _ s m _ below meth c D A ad dm _ _ _ _ (cw D ad cs σ Lx cap mk ev zl tx mt tn tc w0) 56 _ [.int (bi (¬ (thH σ (ix y) n) < (σ 7 (ix y))))]
    refine g_ifb_ne F (tgt := 71) dX5_submit_56 (by decide) (fun zc7 => ?_) (fun zc7 => ?_)
    ·
      exact x_throw_is F hfl (by decide +kernel) (by decide +kernel) (by decide +kernel) (is := 86) (sa := D.2 100 13) F.2.2.2.2.2.2.2.2.1 hno hlocks (.inr (.inr ⟨rfl, ⟨hc2, hc9⟩, ⟨hc17, hc26⟩, rfl, .inl zc7⟩)) dX5_submit_71 dX5_submit_74 dX5_submit_75 dX5_submit_77 dX5_submit_80 (Nat.le_of_ble_eq_true rfl) (Nat.le_of_ble_eq_true rfl) (Nat.le_of_ble_eq_true rfl) (Nat.le_of_ble_eq_true rfl) (Nat.le_of_ble_eq_true rfl) (Nat.le_of_ble_eq_true rfl)
    ·
      replace zc7 := Classical.not_not.mp zc7
      refine g_aload_n F 3 dX5_submit_59 rfl rfl ?_
      refine g_getf (k := 10) (i := 0) (ci := 5) (C := RX5) (T := TX5) (N := 4) (fs := (cO ad σ)) (fk := 2) F hinX5 hC.1 rfl rfl (by decide) (by decide +kernel) rfl rfl dX5_submit_60 ?_
      refine q_callV F (C := RJx4a65c) (k := 15) (i := 0) (ci := 0) (T := TJx4a65c) (N := 3) (rest := []) [] (cl_size0 l D A cs ad dm σ Lx cap mk ev zl tx mt tn tc w0 n tq hC hn40 hL hlo) (cwV 0 F.1.2.2.2.2 gX5_submit_Jx4a65c_size_8abf5 rfl rfl rfl (by decide +kernel) ⟨Nat.le_of_ble_eq_true rfl, Nat.le_of_ble_eq_true rfl⟩) rfl (hC.2.2.2.2.2.1 0 (by omega)) rfl rfl rfl rfl (Nat.le_of_ble_eq_true rfl) dX5_submit_63 ⟨by show _ ≤ _ + 10; omega, by show _ ≤ _ + 766; omega⟩ (fun _ _ _ _ zv8 => ?_)
      obtain ⟨rfl, rfl, rfl, rfl⟩ := zv8
      show GG p l e _ s m _ below meth c D A ad dm _ _ _ _ (cw D ad cs σ Lx cap mk ev zl tx mt tn tc w0) 66 _ [.int (nI n)]
      refine g_bipush F dX5_submit_66 (v := 40) (by decide) ?_
      refine g_icmp_lt F (tgt := 81) dX5_submit_68 (by decide) (fun zc9 => ?_) (fun zc9 => ?_)
      ·
        have h40 : n < 40 := (nI_ltE (b := 40) rfl (show (40 : Int32) = nI 40 by decide) (by omega) (by decide)).mp zc9
        obtain ⟨hu, hu5⟩ := ix_in (n := 500) rfl (show inR u 0 500 from ⟨fun q => hc26.1 (Int32.lt_trans q (by decide)), hc26.2⟩)
        have hl : (Lx 0).length = n := by rw [hL, List.length_range]
        refine g_new (ci := 3) (C := RX3) (T := TX3) (N := 16) (tf := tyX3) (fs := [.int 0, .null, .null, .null, .int 0, .int 0, .int 0, .int 0, .int 0, .int 0, .null, .null, .int 0, .int 0, .int 0, .int 0]) F 17 n (hub.non ⟨by decide, by decide⟩) hinX3 tyX3_ok (by decide +kernel) (by decide +kernel) (by decide +kernel) rfl (fun j hj => by rcases (show j = 0 ∨ j = 1 ∨ j = 2 ∨ j = 3 ∨ j = 4 ∨ j = 5 ∨ j = 6 ∨ j = 7 ∨ j = 8 ∨ j = 9 ∨ j = 10 ∨ j = 11 ∨ j = 12 ∨ j = 13 ∨ j = 14 ∨ j = 15 by omega) with rfl | rfl | rfl | rfl | rfl | rfl | rfl | rfl | rfl | rfl | rfl | rfl | rfl | rfl | rfl | rfl <;> rfl) (by show _ ≤ _ + 10; omega) (by show _ ≤ _ + 766; omega) dX5_submit_81 (fun q17 => ?_)
        refine g_dup F dX5_submit_84 rfl ?_
        refine g_aload_n F 3 dX5_submit_85 rfl rfl ?_
        refine g_st (st1 := [.ref ((up2 ad 17 n q17) 10 0), .ref q17, .ref q17]) (by rw [up2_k (by decide)]) ?_
        refine g_getf (k := 10) (i := 0) (ci := 5) (C := RX5) (T := TX5) (N := 4) (fs := cO ad σ) (fk := 2) (v := .ref (ad 15 0)) F hinX5 (.inl hC.1) ((up2_k (by decide) _).trans rfl) rfl (by decide) (by decide +kernel) rfl rfl dX5_submit_86 ?_
        refine g_st (st1 := [.ref ((up2 ad 17 n q17) 15 0), .ref q17, .ref q17]) (by rw [up2_k (by decide)]) ?_
        refine q_callV F (C := RJx4a65c) (k := 15) (i := 0) (ci := 0) (T := TJx4a65c) (N := 3) (rest := [.ref q17, .ref q17]) [] (cq_size l D A cs (up2 ad 17 n q17) (fun a b => dm a b ∨ (a = 17 ∧ b = n)) (up2 (cw D ad cs σ Lx cap mk ev zl tx mt tn tc w0) 17 n (.inr (3, [.int 0, .null, .null, .null, .int 0, .int 0, .int 0, .int 0, .int 0, .int 0, .null, .null, .int 0, .int 0, .int 0, .int 0]))) 0 (Lx 0).length (cE D ad cap 0) (mk 0) (.inl (hC.2.2.2.2.2.1 0 (by decide))) ((up2_k (by decide) _).trans rfl)) (cwV 0 F.1.2.2.2.2 gX5_submit_Jx4a65c_size_8abf5 rfl rfl rfl (by decide +kernel) ⟨Nat.le_of_ble_eq_true rfl, Nat.le_of_ble_eq_true rfl⟩) rfl (.inl (hC.2.2.2.2.2.1 0 (by decide))) ((up2_k (by decide) _).trans rfl) rfl rfl rfl (Nat.le_of_ble_eq_true rfl) dX5_submit_89 ⟨by show _ ≤ _ + 10; omega, by show _ ≤ _ + 766; omega⟩ (fun _ _ _ _ hv => ?_)
        obtain ⟨rfl, rfl, rfl, rfl⟩ := hv
        refine g_st (st1 := [.int (nI n), .ref q17, .ref q17]) (by rw [hl]; rfl) ?_
        refine g_aload F 2 dX5_submit_92 rfl ?_
        refine g_aload F 1 dX5_submit_94 rfl ?_
        refine g_iload_n F 6 dX5_submit_96 rfl rfl ?_
        refine g_iload F 7 dX5_submit_97 rfl ?_
        refine g_aload_n F 3 dX5_submit_99 rfl rfl ?_
        refine g_st (st1 := [.ref ((up2 ad 17 n q17) 10 0), .int u, .int pr, .ref (ad 14 (ix to)), .ref (ad 13 (ix y)), .int (nI n), .ref q17, .ref q17]) (by rw [up2_k (by decide)]) ?_
        refine g_getf (k := 10) (i := 0) (ci := 5) (C := RX5) (T := TX5) (N := 4) (fs := cO ad σ) (fk := 3) (v := .int (σ 0 0)) F hinX5 (.inl hC.1) ((up2_k (by decide) _).trans rfl) rfl (by decide) (by decide +kernel) rfl rfl dX5_submit_100 ?_
        refine g_st (st1 := [.int (σ 0 0), .int u, .int pr, .ref ((up2 ad 17 n q17) 14 (ix to)), .ref ((up2 ad 17 n q17) 13 (ix y)), .int (nI n), .ref ((up2 ad 17 n q17) 17 n), .ref q17]) (by rw [up2_k (show 14 ≠ 17 by decide), up2_k (show 13 ≠ 17 by decide), up2_self]) ?_
        refine q_callI F (ret := none) (rest := [.ref q17]) (b := (up2 ad 17 n q17) 17 n) [.int (nI n), .ref ((up2 ad 17 n q17) 13 (ix y)), .ref ((up2 ad 17 n q17) 14 (ix to)), .int pr, .int u, .int (σ 0 0)] (by have h9 := ci_msg l D A cs (up2 ad 17 n q17) (fun a b => dm a b ∨ (a = 17 ∧ b = n)) (up2 (cw D ad cs σ Lx cap mk ev zl tx mt tn tc w0) 17 n (.inr (3, [.int 0, .null, .null, .null, .int 0, .int 0, .int 0, .int 0, .int 0, .int 0, .null, .null, .int 0, .int 0, .int 0, .int 0]))) n (ix y) (ix to) (ad 21 (tx (ix y))) (ad 15 (1 + ix y)) (ix u) (σ 4 (ix y)) (σ 5 (ix y)) (σ 6 (ix y)) (σ 7 (ix y)) (σ 8 (ix y)) pr (σ 0 0) (.inr ⟨rfl, rfl⟩) (up2_self _ _ _ _) (.inl (hC.2.2.2.1 _ hb2)) ((up2_k (by decide) _).trans rfl) (hk6 hc2) (Nat.le_of_lt_succ hu5) (fun z => z.elim (hub.non ⟨by decide, by decide⟩) (fun y => absurd y.1 (by decide))) (fun z => z.elim (hub.non ⟨by decide, by decide⟩) (fun y => absurd y.1 (by decide))) (fun z => z.elim (hub.non ⟨by decide, by decide⟩) (fun y => absurd y.1 (by decide))); rw [← hu] at h9; exact h9) (n_cwI 6 F.1.2.2.2.2 gX5_submit_X3_init rfl rfl rfl (by decide +kernel) (by decide +kernel) (by decide +kernel) rfl (by decide +kernel) ⟨Nat.le_of_ble_eq_true rfl, Nat.le_of_ble_eq_true rfl⟩) rfl rfl (Nat.le_of_ble_eq_true rfl) dX5_submit_103 ⟨by show 5 + 3 ≤ _ + 10; omega, by show 40 + 606 ≤ _ + 766; omega⟩ (fun _ _ _ _ hv => ?_)
        obtain ⟨q18, q19, q20, rfl, rfl, rfl, rfl⟩ := hv
        have e10 : (up2 (up2 (up2 (up2 ad 17 n q17) 18 n q18) 19 n q19) 20 n q20) 10 0 = ad 10 0 := by rw [up2_k (by decide), up2_k (by decide), up2_k (by decide), up2_k (by decide)]
        have e13 : (up2 (up2 (up2 (up2 ad 17 n q17) 18 n q18) 19 n q19) 20 n q20) 13 (ix y) = ad 13 (ix y) := by rw [up2_k (by decide), up2_k (by decide), up2_k (by decide), up2_k (by decide)]
        have e14 : (up2 (up2 (up2 (up2 ad 17 n q17) 18 n q18) 19 n q19) 20 n q20) 14 (ix to) = ad 14 (ix to) := by rw [up2_k (by decide), up2_k (by decide), up2_k (by decide), up2_k (by decide)]
        have e17 : (up2 (up2 (up2 (up2 ad 17 n q17) 18 n q18) 19 n q19) 20 n q20) 17 n = q17 := by rw [up2_k (by decide), up2_k (by decide), up2_k (by decide), up2_self]
        refine g_ls (lv1 := [(7, .null), (6, .ref ((up2 (up2 (up2 (up2 ad 17 n q17) 18 n q18) 19 n q19) 20 n q20) 14 (ix to))), (5, .ref ((up2 (up2 (up2 (up2 ad 17 n q17) 18 n q18) 19 n q19) 20 n q20) 13 (ix y))), (0, .ref ((up2 (up2 (up2 (up2 ad 17 n q17) 18 n q18) 19 n q19) 20 n q20) 10 0)), (1, .int y), (2, .int to), (3, .int pr), (4, .int u)]) (st1 := [.ref ((up2 (up2 (up2 (up2 ad 17 n q17) 18 n q18) 19 n q19) 20 n q20) 17 n)]) (by rw [e10, e13, e14]) (by rw [e17]; first | done | rfl) ?_
        refine g_forget (dm1 := (fun a b => (fun a b => (fun a b => (fun a b => dm a b ∨ (a = 17 ∧ b = n)) a b ∨ (a = 18 ∧ b = n)) a b ∨ (a = 19 ∧ b = n)) a b ∨ (a = 20 ∧ b = n))) (ad1 := (up2 (up2 (up2 (up2 ad 17 n q17) 18 n q18) 19 n q19) 20 n q20)) (w1 := (cw D (up2 (up2 (up2 (up2 ad 17 n q17) 18 n q18) 19 n q19) 20 n q20) cs (nwS σ σ (ix y) n y to pr u) Lx cap mk (va_up ev n (fun _ => 0)) (va_up zl n 1) tx (va_up mt n (tx (ix y))) tn tc w0)) (fun _ _ h => h) (fun _ _ _ => rfl) (sb_w hub (fun i hi j hj => (hlo i hi).2.2 j hj) rfl rfl hz3 hz27) ?_
        exact sb_tail l D A cs (up2 (up2 (up2 (up2 ad 17 n q17) 18 n q18) 19 n q19) 20 n q20) (fun a b => (fun a b => (fun a b => (fun a b => dm a b ∨ (a = 17 ∧ b = n)) a b ∨ (a = 18 ∧ b = n)) a b ∨ (a = 19 ∧ b = n)) a b ∨ (a = 20 ∧ b = n)) (nwS σ σ (ix y) n y to pr u) Lx cap mk (va_up ev n (fun _ => 0)) (va_up zl n 1) tx (va_up mt n (tx (ix y))) tn tc w0 (n + 1) tq hC.msg n (ix y) (ix to) y to pr u F hr hlocks (by omega) (by omega) (sbL_0 Lx (ix to) n hL) (by omega) (fun r hr6 => Nat.le_trans (hqn r hr6) (by omega)) (fun i hi => ⟨(hlo i hi).1, (hlo i hi).2.1, fun j hj => Nat.lt_succ_of_lt ((hlo i hi).2.2 j hj)⟩) (hub.msg.no22 0) (fun j hj => by
          rcases Nat.lt_or_ge j n with z | z
          · rw [nwS_o (by decide) (Nat.ne_of_lt z), nwS_o (by decide) (Nat.ne_of_lt z)]; exact hrg j z
          · have ej : j = n := by omega
            subst ej
            rw [nwS_n.1, nwS_n.2.1]; exact ⟨hb2, hb9⟩) hb2 hb9 (hw ⟨hc2, hc9⟩ ⟨hc17, hc26⟩ hq9 h40) (by show 8 + 2 + _ ≤ _ + 10; omega) (by show 646 + 120 + _ ≤ _ + 766; omega) (fun ad1 dm1 w1 h => ⟨⟨⟨hc2, hc9⟩, ⟨hc17, hc26⟩⟩, .inr ⟨rfl, zc7, h40, rfl, q17, q18, q19, q20, h⟩⟩)
      ·
        exact x_throw_is F hfl (by decide +kernel) (by decide +kernel) (by decide +kernel) (is := 86) (sa := D.2 100 13) F.2.2.2.2.2.2.2.2.1 hno hlocks (.inr (.inr ⟨rfl, ⟨hc2, hc9⟩, ⟨hc17, hc26⟩, rfl, .inr (fun q => zc9 ((nI_ltE (b := 40) rfl (show (40 : Int32) = nI 40 by decide) (by omega) (by decide)).mpr q))⟩)) dX5_submit_71 dX5_submit_74 dX5_submit_75 dX5_submit_77 dX5_submit_80 (Nat.le_of_ble_eq_true rfl) (Nat.le_of_ble_eq_true rfl) (Nat.le_of_ble_eq_true rfl) (Nat.le_of_ble_eq_true rfl) (Nat.le_of_ble_eq_true rfl) (Nat.le_of_ble_eq_true rfl)
  ·
    have hb9 := knO_lt hq9
    show GG p l e _ s m _ below meth c D A ad dm _ _ _ _ (cw D ad cs σ Lx cap mk ev zl tx mt tn tc w0) 37 [(6, .ref (ad 14 (ix to))), (5, .ref (ad 13 (ix y))), (0, .ref (ad 10 0)), (1, .int y), (2, .int to), (3, .int pr), (4, .int u)] [.ref (ad 17 b)]
    refine g_astore F (lv1 := [(7, .ref (ad 17 b)), (6, .ref (ad 14 (ix to))), (5, .ref (ad 13 (ix y))), (0, .ref (ad 10 0)), (1, .int y), (2, .int to), (3, .int pr), (4, .int u)]) dX5_submit_37 (by decide) rfl ?_
    refine g_aload F 0 dX5_submit_39 rfl ?_
    refine g_ifnull F dX5_submit_41 ?_
    refine g_aload F 0 dX5_submit_44 rfl ?_
    refine g_getf (k := 17) (i := b) (ci := 3) (C := RX3) (T := TX3) (N := 16) (fs := (cM ad σ mt b)) (fk := 0) F hinX3 (hC.2.2.2.2.2.2.2.1 b (by omega)).1 rfl rfl (by decide) (by decide +kernel) rfl rfl dX5_submit_46 ?_
    exact x_qi F hr hlocks (fun _ h => h) ⟨⟨⟨hc2, hc9⟩, ⟨hc17, hc26⟩⟩, .inl ⟨b, rfl, rfl, rfl, rfl, rfl⟩⟩ (by show _ ≤ _ + 10; omega) (by show _ ≤ _ + 766; omega) dX5_submit_49

