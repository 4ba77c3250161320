set_option maxHeartbeats 4000000 in
set_option maxRecDepth 100000 in
theorem lk_state (l : Launch) (D : va_G) (A : Nat → Prop) (cs : Nat → ClassId) (ad : Nat → Nat → Nat) (dm : Nat → Nat → Prop) (σ : SG) (Lx : Nat → List Nat) (cap : Nat → Nat) (mk : Nat → Int32) (ev : SG) (zl tx mt tn : Nat → Nat) (tc : SG) (w0 : CF) (n tq : Nat) (hC : CD dm n cap tq) (hn40 : n ≤ 40) (hL : Lx 0 = List.range n) (hlo : LO n Lx cap) (hfl : l.stackTraces = false) (v u : Int32) (hN : ¬ inR v 0 (nI n - 1)) : Met l yL_asks wsL_asks ({ frames := 8, cells := 1, slots := 6, locals := 132 }) (va_Pc [.ref (ad 10 0), .int 0, .int v, .int u] (PW D A (tysG cs) ad dm (cw D ad cs σ Lx cap mk ev zl tx mt tn tc w0))) (QW D A (tysG cs) (fun rz ad1 dm1 w1 => rz = some (.int (-30)) ∧ ad = ad1 ∧ dm = dm1 ∧ (cw D ad cs σ Lx cap mk ev zl tx mt tn tc w0) = w1)) 1 6 A := by
  refine h_start (own := RL) (hh := [(0, 153, 154, 52), (0, 153, 159, 56)]) [.ref (ad 10 0), .int 0, .int v, .int u] (cc := cL_asks) (maxL := 5) (ret := some .int) (lv0 := [(0, .ref (ad 10 0)), (1, .int 0), (2, .int v), (3, .int u)]) (by decide) rfl rfl (Nat.le_of_ble_eq_true rfl) rfl ?_
  intro p e s m below meth c F hr hlocks htab
  refine g_iload_n F 1 dL_asks_0 rfl rfl ?_
  refine g_if_ne F (tgt := 12) dL_asks_1 (by decide) (fun q => absurd rfl q) (fun _ => ?_)
  refine g_aload_n F 0 dL_asks_4 rfl rfl ?_
  refine g_iload_n F 2 dL_asks_5 rfl rfl ?_
  refine x_callVc F (C := RX5) (k := 10) (i := 0) (ci := 5) (T := TX5) (N := 4) (rest := []) [.int v] (cc_state l D A cs ad dm σ Lx cap mk ev zl tx mt tn tc w0 n tq hC v hn40 hL hlo hfl) (cwV 1 F.1.2.2.2.2 gL_asks_X5_state rfl rfl rfl (by decide +kernel) ⟨Nat.le_of_ble_eq_true rfl, Nat.le_of_ble_eq_true rfl⟩) rfl hC.1 rfl rfl rfl rfl (Nat.le_of_ble_eq_true rfl) dL_asks_6 ⟨Nat.le_of_eq (Nat.zero_add _), Nat.le_of_eq (Nat.zero_add _)⟩ (fun E ce q9 hp hcl hv H1 locs1 ls1 hw1 hS1 hl1 hc1 => ?_) (fun v9 ad1 dm1 w1 h9 => absurd h9.1 hN)
  have hE : E = xIO := hp.1
  subst hE
  refine c_catch F (hh := [(0, 153, 154, 52), (0, 153, 159, 56)]) htab [] ⟨0, 153, 154, 52⟩ [⟨0, 153, 159, 56⟩] rfl (fun z hz => absurd hz List.not_mem_nil) rfl (by decide) (by decide +kernel) (List.mem_of_getElem? (i := 3) rfl) hcl hv hw1 hS1 hl1 hc1 ?_
  refine g_astore F (lv1 := [(4, .ref q9), (0, .ref (ad 10 0)), (1, .int 0), (2, .int v), (3, .int u)]) dL_asks_154 (by decide) rfl ?_
  refine g_bipush F dL_asks_156 (v := -30) (by decide) ?_
  exact g_qi F hr hlocks (fun _ h => h) ⟨rfl, rfl, rfl, rfl⟩ (Nat.le_of_eq (Nat.zero_add _)) (Nat.le_of_eq (Nat.zero_add _)) dL_asks_158
set_option maxHeartbeats 4000000 in
set_option maxRecDepth 100000 in
theorem lk_stateByLog (l : Launch) (D : va_G) (A : Nat → Prop) (cs : Nat → ClassId) (ad : Nat → Nat → Nat) (dm : Nat → Nat → Prop) (σ : SG) (Lx : Nat → List Nat) (cap : Nat → Nat) (mk : Nat → Int32) (ev : SG) (zl tx mt tn : Nat → Nat) (tc : SG) (w0 : CF) (n tq : Nat) (hC : CD dm n cap tq) (hn40 : n ≤ 40) (hL : Lx 0 = List.range n) (hlo : LO n Lx cap) (hmt : ∀ j, j < n → mt j < tq ∧ tn (mt j) ≤ 8) (hlg : ∀ j, j < n → zl j ≤ elen σ j ∧ elen σ j ≤ 1000) (hfl : l.stackTraces = false) (v u : Int32) (hN : ¬ inR v 0 (nI n - 1)) : Met l yL_asks wsL_asks ({ frames := 8, cells := 1, slots := 6, locals := 133 }) (va_Pc [.ref (ad 10 0), .int 1, .int v, .int u] (PW D A (tysG cs) ad dm (cw D ad cs σ Lx cap mk ev zl tx mt tn tc w0))) (QW D A (tysG cs) (fun rz ad1 dm1 w1 => rz = some (.int (-30)) ∧ ad = ad1 ∧ dm = dm1 ∧ (cw D ad cs σ Lx cap mk ev zl tx mt tn tc w0) = w1)) 1 6 A := by
  refine h_start (own := RL) (hh := [(0, 153, 154, 52), (0, 153, 159, 56)]) [.ref (ad 10 0), .int 1, .int v, .int u] (cc := cL_asks) (maxL := 5) (ret := some .int) (lv0 := [(0, .ref (ad 10 0)), (1, .int 1), (2, .int v), (3, .int u)]) (by decide) rfl rfl (Nat.le_of_ble_eq_true rfl) rfl ?_
  intro p e s m below meth c F hr hlocks htab
  refine g_iload_n F 1 dL_asks_0 rfl rfl ?_
  refine g_if_ne F (tgt := 12) dL_asks_1 (by decide) (fun _ => ?_) (fun q => absurd q (by decide))
  refine g_iload_n F 1 dL_asks_12 rfl rfl ?_
  refine g_iconst F dL_asks_13 (v := 1) (by decide) ?_
  refine g_icmp_ne F (tgt := 25) dL_asks_14 (by decide) (fun q => absurd rfl q) (fun _ => ?_)
  refine g_aload_n F 0 dL_asks_17 rfl rfl ?_
  refine g_iload_n F 2 dL_asks_18 rfl rfl ?_
  refine x_callVc F (C := RX5) (k := 10) (i := 0) (ci := 5) (T := TX5) (N := 4) (rest := []) [.int v] (cc_stateByLog l D A cs ad dm σ Lx cap mk ev zl tx mt tn tc w0 n tq hC v hn40 hL hlo hmt hlg hfl) (cwV 1 F.1.2.2.2.2 gL_asks_X5_stateByLog rfl rfl rfl (by decide +kernel) ⟨Nat.le_of_ble_eq_true rfl, Nat.le_of_ble_eq_true rfl⟩) rfl hC.1 rfl rfl rfl rfl (Nat.le_of_ble_eq_true rfl) dL_asks_19 ⟨Nat.le_of_eq (Nat.zero_add _), Nat.le_of_eq (Nat.zero_add _)⟩ (fun E ce q9 hp hcl hv H1 locs1 ls1 hw1 hS1 hl1 hc1 => ?_) (fun v9 ad1 dm1 w1 h9 => absurd h9.1 hN)
  have hE : E = xIO := hp.1
  subst hE
  refine c_catch F (hh := [(0, 153, 154, 52), (0, 153, 159, 56)]) htab [] ⟨0, 153, 154, 52⟩ [⟨0, 153, 159, 56⟩] rfl (fun z hz => absurd hz List.not_mem_nil) rfl (by decide) (by decide +kernel) (List.mem_of_getElem? (i := 3) rfl) hcl hv hw1 hS1 hl1 hc1 ?_
  refine g_astore F (lv1 := [(4, .ref q9), (0, .ref (ad 10 0)), (1, .int 1), (2, .int v), (3, .int u)]) dL_asks_154 (by decide) rfl ?_
  refine g_bipush F dL_asks_156 (v := -30) (by decide) ?_
  exact g_qi F hr hlocks (fun _ h => h) ⟨rfl, rfl, rfl, rfl⟩ (Nat.le_of_eq (Nat.zero_add _)) (Nat.le_of_eq (Nat.zero_add _)) dL_asks_158
set_option maxHeartbeats 4000000 in
set_option maxRecDepth 100000 in
theorem lk_parts (l : Launch) (D : va_G) (A : Nat → Prop) (cs : Nat → ClassId) (ad : Nat → Nat → Nat) (dm : Nat → Nat → Prop) (σ : SG) (Lx : Nat → List Nat) (cap : Nat → Nat) (mk : Nat → Int32) (ev : SG) (zl tx mt tn : Nat → Nat) (tc : SG) (w0 : CF) (n tq : Nat) (hC : CD dm n cap tq) (hn40 : n ≤ 40) (hL : Lx 0 = List.range n) (hlo : LO n Lx cap) (hmt : ∀ j, j < n → mt j < tq ∧ tn (mt j) ≤ 8) (hfl : l.stackTraces = false) (v u : Int32) (hN : ¬ inR v 0 (nI n - 1)) : Met l yL_asks wsL_asks ({ frames := 8, cells := 1, slots := 6, locals := 132 }) (va_Pc [.ref (ad 10 0), .int 2, .int v, .int u] (PW D A (tysG cs) ad dm (cw D ad cs σ Lx cap mk ev zl tx mt tn tc w0))) (QW D A (tysG cs) (fun rz ad1 dm1 w1 => rz = some (.int (-30)) ∧ ad = ad1 ∧ dm = dm1 ∧ (cw D ad cs σ Lx cap mk ev zl tx mt tn tc w0) = w1)) 1 6 A := by
  refine h_start (own := RL) (hh := [(0, 153, 154, 52), (0, 153, 159, 56)]) [.ref (ad 10 0), .int 2, .int v, .int u] (cc := cL_asks) (maxL := 5) (ret := some .int) (lv0 := [(0, .ref (ad 10 0)), (1, .int 2), (2, .int v), (3, .int u)]) (by decide) rfl rfl (Nat.le_of_ble_eq_true rfl) rfl ?_
  intro p e s m below meth c F hr hlocks htab
  refine g_iload_n F 1 dL_asks_0 rfl rfl ?_
  refine g_if_ne F (tgt := 12) dL_asks_1 (by decide) (fun _ => ?_) (fun q => absurd q (by decide))
  refine g_iload_n F 1 dL_asks_12 rfl rfl ?_
  refine g_iconst F dL_asks_13 (v := 1) (by decide) ?_
  refine g_icmp_ne F (tgt := 25) dL_asks_14 (by decide) (fun _ => ?_) (fun q => absurd q (by decide))
  refine g_iload_n F 1 dL_asks_25 rfl rfl ?_
  refine g_iconst F dL_asks_26 (v := 2) (by decide) ?_
  refine g_icmp_ne F (tgt := 38) dL_asks_27 (by decide) (fun q => absurd rfl q) (fun _ => ?_)
  refine g_aload_n F 0 dL_asks_30 rfl rfl ?_
  refine g_iload_n F 2 dL_asks_31 rfl rfl ?_
  refine x_callVc F (C := RX5) (k := 10) (i := 0) (ci := 5) (T := TX5) (N := 4) (rest := []) [.int v] (cc_parts l D A cs ad dm σ Lx cap mk ev zl tx mt tn tc w0 n tq hC v hn40 hL hlo hmt hfl) (cwV 1 F.1.2.2.2.2 gL_asks_X5_parts rfl rfl rfl (by decide +kernel) ⟨Nat.le_of_ble_eq_true rfl, Nat.le_of_ble_eq_true rfl⟩) rfl hC.1 rfl rfl rfl rfl (Nat.le_of_ble_eq_true rfl) dL_asks_32 ⟨Nat.le_of_eq (Nat.zero_add _), Nat.le_of_eq (Nat.zero_add _)⟩ (fun E ce q9 hp hcl hv H1 locs1 ls1 hw1 hS1 hl1 hc1 => ?_) (fun v9 ad1 dm1 w1 h9 => absurd h9.1 hN)
  have hE : E = xIO := hp.1
  subst hE
  refine c_catch F (hh := [(0, 153, 154, 52), (0, 153, 159, 56)]) htab [] ⟨0, 153, 154, 52⟩ [⟨0, 153, 159, 56⟩] rfl (fun z hz => absurd hz List.not_mem_nil) rfl (by decide) (by decide +kernel) (List.mem_of_getElem? (i := 3) rfl) hcl hv hw1 hS1 hl1 hc1 ?_
  refine g_astore F (lv1 := [(4, .ref q9), (0, .ref (ad 10 0)), (1, .int 2), (2, .int v), (3, .int u)]) dL_asks_154 (by decide) rfl ?_
  refine g_bipush F dL_asks_156 (v := -30) (by decide) ?_
  exact g_qi F hr hlocks (fun _ h => h) ⟨rfl, rfl, rfl, rfl⟩ (Nat.le_of_eq (Nat.zero_add _)) (Nat.le_of_eq (Nat.zero_add _)) dL_asks_158
set_option maxHeartbeats 4000000 in
set_option maxRecDepth 100000 in
theorem lk_lettersIn (l : Launch) (D : va_G) (A : Nat → Prop) (cs : Nat → ClassId) (ad : Nat → Nat → Nat) (dm : Nat → Nat → Prop) (σ : SG) (Lx : Nat → List Nat) (cap : Nat → Nat) (mk : Nat → Int32) (ev : SG) (zl tx mt tn : Nat → Nat) (tc : SG) (w0 : CF) (n tq : Nat) (hC : CD dm n cap tq) (hn40 : n ≤ 40) (hL : Lx 0 = List.range n) (hlo : LO n Lx cap) (hmt : ∀ j, j < n → mt j < tq ∧ tn (mt j) ≤ 8) (hfl : l.stackTraces = false) (v u : Int32) (hN : ¬ (inR v 0 (nI n - 1) ∧ inR u 0 (nI (tn (mt (ix v))) - 1))) : Met l yL_asks wsL_asks ({ frames := 8, cells := 2, slots := 12, locals := 134 }) (va_Pc [.ref (ad 10 0), .int 3, .int v, .int u] (PW D A (tysG cs) ad dm (cw D ad cs σ Lx cap mk ev zl tx mt tn tc w0))) (QW D A (tysG cs) (fun rz ad1 dm1 w1 => rz = some (.int (-30)) ∧ ad = ad1 ∧ dm = dm1 ∧ (cw D ad cs σ Lx cap mk ev zl tx mt tn tc w0) = w1)) 2 12 A := by
  refine h_start (own := RL) (hh := [(0, 153, 154, 52), (0, 153, 159, 56)]) [.ref (ad 10 0), .int 3, .int v, .int u] (cc := cL_asks) (maxL := 5) (ret := some .int) (lv0 := [(0, .ref (ad 10 0)), (1, .int 3), (2, .int v), (3, .int u)]) (by decide) rfl rfl (Nat.le_of_ble_eq_true rfl) rfl ?_
  intro p e s m below meth c F hr hlocks htab
  refine g_iload_n F 1 dL_asks_0 rfl rfl ?_
  refine g_if_ne F (tgt := 12) dL_asks_1 (by decide) (fun _ => ?_) (fun q => absurd q (by decide))
  refine g_iload_n F 1 dL_asks_12 rfl rfl ?_
  refine g_iconst F dL_asks_13 (v := 1) (by decide) ?_
  refine g_icmp_ne F (tgt := 25) dL_asks_14 (by decide) (fun _ => ?_) (fun q => absurd q (by decide))
  refine g_iload_n F 1 dL_asks_25 rfl rfl ?_
  refine g_iconst F dL_asks_26 (v := 2) (by decide) ?_
  refine g_icmp_ne F (tgt := 38) dL_asks_27 (by decide) (fun _ => ?_) (fun q => absurd q (by decide))
  refine g_iload_n F 1 dL_asks_38 rfl rfl ?_
  refine g_iconst F dL_asks_39 (v := 3) (by decide) ?_
  refine g_icmp_ne F (tgt := 52) dL_asks_40 (by decide) (fun q => absurd rfl q) (fun _ => ?_)
  refine g_aload_n F 0 dL_asks_43 rfl rfl ?_
  refine g_iload_n F 2 dL_asks_44 rfl rfl ?_
  refine g_iload_n F 3 dL_asks_45 rfl rfl ?_
  refine x_callVc F (C := RX5) (k := 10) (i := 0) (ci := 5) (T := TX5) (N := 4) (rest := []) [.int v, .int u] (cc_lettersIn l D A cs ad dm σ Lx cap mk ev zl tx mt tn tc w0 n tq hC v u hn40 hL hlo hmt hfl) (cwV 2 F.1.2.2.2.2 gL_asks_X5_lettersIn rfl rfl rfl (by decide +kernel) ⟨Nat.le_of_ble_eq_true rfl, Nat.le_of_ble_eq_true rfl⟩) rfl hC.1 rfl rfl rfl rfl (Nat.le_of_ble_eq_true rfl) dL_asks_46 ⟨Nat.le_of_eq (Nat.zero_add _), Nat.le_of_eq (Nat.zero_add _)⟩ (fun E ce q9 hp hcl hv H1 locs1 ls1 hw1 hS1 hl1 hc1 => ?_) (fun v9 ad1 dm1 w1 h9 => absurd h9.1 hN)
  have hE : E = xIO := hp.1
  subst hE
  refine c_catch F (hh := [(0, 153, 154, 52), (0, 153, 159, 56)]) htab [] ⟨0, 153, 154, 52⟩ [⟨0, 153, 159, 56⟩] rfl (fun z hz => absurd hz List.not_mem_nil) rfl (by decide) (by decide +kernel) (List.mem_of_getElem? (i := 3) rfl) hcl hv hw1 hS1 hl1 hc1 ?_
  refine g_astore F (lv1 := [(4, .ref q9), (0, .ref (ad 10 0)), (1, .int 3), (2, .int v), (3, .int u)]) dL_asks_154 (by decide) rfl ?_
  refine g_bipush F dL_asks_156 (v := -30) (by decide) ?_
  exact g_qi F hr hlocks (fun _ h => h) ⟨rfl, rfl, rfl, rfl⟩ (Nat.le_of_eq (Nat.zero_add _)) (Nat.le_of_eq (Nat.zero_add _)) dL_asks_158
set_option maxHeartbeats 4000000 in
set_option maxRecDepth 100000 in
theorem lk_delivered (l : Launch) (D : va_G) (A : Nat → Prop) (cs : Nat → ClassId) (ad : Nat → Nat → Nat) (dm : Nat → Nat → Prop) (σ : SG) (Lx : Nat → List Nat) (cap : Nat → Nat) (mk : Nat → Int32) (ev : SG) (zl tx mt tn : Nat → Nat) (tc : SG) (w0 : CF) (n tq : Nat) (hC : CD dm n cap tq) (hn40 : n ≤ 40) (hL : Lx 0 = List.range n) (hlo : LO n Lx cap) (hfl : l.stackTraces = false) (v u : Int32) (hN : ¬ inR v 0 (nI n - 1)) : Met l yL_asks wsL_asks ({ frames := 8, cells := 1, slots := 6, locals := 132 }) (va_Pc [.ref (ad 10 0), .int 4, .int v, .int u] (PW D A (tysG cs) ad dm (cw D ad cs σ Lx cap mk ev zl tx mt tn tc w0))) (QW D A (tysG cs) (fun rz ad1 dm1 w1 => rz = some (.int (-30)) ∧ ad = ad1 ∧ dm = dm1 ∧ (cw D ad cs σ Lx cap mk ev zl tx mt tn tc w0) = w1)) 1 6 A := by
  refine h_start (own := RL) (hh := [(0, 153, 154, 52), (0, 153, 159, 56)]) [.ref (ad 10 0), .int 4, .int v, .int u] (cc := cL_asks) (maxL := 5) (ret := some .int) (lv0 := [(0, .ref (ad 10 0)), (1, .int 4), (2, .int v), (3, .int u)]) (by decide) rfl rfl (Nat.le_of_ble_eq_true rfl) rfl ?_
  intro p e s m below meth c F hr hlocks htab
  refine g_iload_n F 1 dL_asks_0 rfl rfl ?_
  refine g_if_ne F (tgt := 12) dL_asks_1 (by decide) (fun _ => ?_) (fun q => absurd q (by decide))
  refine g_iload_n F 1 dL_asks_12 rfl rfl ?_
  refine g_iconst F dL_asks_13 (v := 1) (by decide) ?_
  refine g_icmp_ne F (tgt := 25) dL_asks_14 (by decide) (fun _ => ?_) (fun q => absurd q (by decide))
  refine g_iload_n F 1 dL_asks_25 rfl rfl ?_
  refine g_iconst F dL_asks_26 (v := 2) (by decide) ?_
  refine g_icmp_ne F (tgt := 38) dL_asks_27 (by decide) (fun _ => ?_) (fun q => absurd q (by decide))
  refine g_iload_n F 1 dL_asks_38 rfl rfl ?_
  refine g_iconst F dL_asks_39 (v := 3) (by decide) ?_
  refine g_icmp_ne F (tgt := 52) dL_asks_40 (by decide) (fun _ => ?_) (fun q => absurd q (by decide))
  refine g_iload_n F 1 dL_asks_52 rfl rfl ?_
  refine g_iconst F dL_asks_53 (v := 4) (by decide) ?_
  refine g_icmp_ne F (tgt := 65) dL_asks_54 (by decide) (fun q => absurd rfl q) (fun _ => ?_)
  refine g_aload_n F 0 dL_asks_57 rfl rfl ?_
  refine g_iload_n F 2 dL_asks_58 rfl rfl ?_
  refine x_callVc F (C := RX5) (k := 10) (i := 0) (ci := 5) (T := TX5) (N := 4) (rest := []) [.int v] (cc_delivered l D A cs ad dm σ Lx cap mk ev zl tx mt tn tc w0 n tq hC v hn40 hL hlo hfl) (cwV 1 F.1.2.2.2.2 gL_asks_X5_delivered rfl rfl rfl (by decide +kernel) ⟨Nat.le_of_ble_eq_true rfl, Nat.le_of_ble_eq_true rfl⟩) rfl hC.1 rfl rfl rfl rfl (Nat.le_of_ble_eq_true rfl) dL_asks_59 ⟨Nat.le_of_eq (Nat.zero_add _), Nat.le_of_eq (Nat.zero_add _)⟩ (fun E ce q9 hp hcl hv H1 locs1 ls1 hw1 hS1 hl1 hc1 => ?_) (fun v9 ad1 dm1 w1 h9 => absurd h9.1 hN)
  have hE : E = xIO := hp.1
  subst hE
  refine c_catch F (hh := [(0, 153, 154, 52), (0, 153, 159, 56)]) htab [] ⟨0, 153, 154, 52⟩ [⟨0, 153, 159, 56⟩] rfl (fun z hz => absurd hz List.not_mem_nil) rfl (by decide) (by decide +kernel) (List.mem_of_getElem? (i := 3) rfl) hcl hv hw1 hS1 hl1 hc1 ?_
  refine g_astore F (lv1 := [(4, .ref q9), (0, .ref (ad 10 0)), (1, .int 4), (2, .int v), (3, .int u)]) dL_asks_154 (by decide) rfl ?_
  refine g_bipush F dL_asks_156 (v := -30) (by decide) ?_
  exact g_qi F hr hlocks (fun _ h => h) ⟨rfl, rfl, rfl, rfl⟩ (Nat.le_of_eq (Nat.zero_add _)) (Nat.le_of_eq (Nat.zero_add _)) dL_asks_158
set_option maxHeartbeats 4000000 in
set_option maxRecDepth 100000 in
theorem lk_attempts (l : Launch) (D : va_G) (A : Nat → Prop) (cs : Nat → ClassId) (ad : Nat → Nat → Nat) (dm : Nat → Nat → Prop) (σ : SG) (Lx : Nat → List Nat) (cap : Nat → Nat) (mk : Nat → Int32) (ev : SG) (zl tx mt tn : Nat → Nat) (tc : SG) (w0 : CF) (n tq : Nat) (hC : CD dm n cap tq) (hn40 : n ≤ 40) (hL : Lx 0 = List.range n) (hlo : LO n Lx cap) (hfl : l.stackTraces = false) (v u : Int32) (hN : ¬ inR v 0 (nI n - 1)) : Met l yL_asks wsL_asks ({ frames := 8, cells := 1, slots := 6, locals := 132 }) (va_Pc [.ref (ad 10 0), .int 5, .int v, .int u] (PW D A (tysG cs) ad dm (cw D ad cs σ Lx cap mk ev zl tx mt tn tc w0))) (QW D A (tysG cs) (fun rz ad1 dm1 w1 => rz = some (.int (-30)) ∧ ad = ad1 ∧ dm = dm1 ∧ (cw D ad cs σ Lx cap mk ev zl tx mt tn tc w0) = w1)) 1 6 A := by
  refine h_start (own := RL) (hh := [(0, 153, 154, 52), (0, 153, 159, 56)]) [.ref (ad 10 0), .int 5, .int v, .int u] (cc := cL_asks) (maxL := 5) (ret := some .int) (lv0 := [(0, .ref (ad 10 0)), (1, .int 5), (2, .int v), (3, .int u)]) (by decide) rfl rfl (Nat.le_of_ble_eq_true rfl) rfl ?_
  intro p e s m below meth c F hr hlocks htab
  refine g_iload_n F 1 dL_asks_0 rfl rfl ?_
  refine g_if_ne F (tgt := 12) dL_asks_1 (by decide) (fun _ => ?_) (fun q => absurd q (by decide))
  refine g_iload_n F 1 dL_asks_12 rfl rfl ?_
  refine g_iconst F dL_asks_13 (v := 1) (by decide) ?_
  refine g_icmp_ne F (tgt := 25) dL_asks_14 (by decide) (fun _ => ?_) (fun q => absurd q (by decide))
  refine g_iload_n F 1 dL_asks_25 rfl rfl ?_
  refine g_iconst F dL_asks_26 (v := 2) (by decide) ?_
  refine g_icmp_ne F (tgt := 38) dL_asks_27 (by decide) (fun _ => ?_) (fun q => absurd q (by decide))
  refine g_iload_n F 1 dL_asks_38 rfl rfl ?_
  refine g_iconst F dL_asks_39 (v := 3) (by decide) ?_
  refine g_icmp_ne F (tgt := 52) dL_asks_40 (by decide) (fun _ => ?_) (fun q => absurd q (by decide))
  refine g_iload_n F 1 dL_asks_52 rfl rfl ?_
  refine g_iconst F dL_asks_53 (v := 4) (by decide) ?_
  refine g_icmp_ne F (tgt := 65) dL_asks_54 (by decide) (fun _ => ?_) (fun q => absurd q (by decide))
  refine g_iload_n F 1 dL_asks_65 rfl rfl ?_
  refine g_iconst F dL_asks_66 (v := 5) (by decide) ?_
  refine g_icmp_ne F (tgt := 78) dL_asks_67 (by decide) (fun q => absurd rfl q) (fun _ => ?_)
  refine g_aload_n F 0 dL_asks_70 rfl rfl ?_
  refine g_iload_n F 2 dL_asks_71 rfl rfl ?_
  refine x_callVc F (C := RX5) (k := 10) (i := 0) (ci := 5) (T := TX5) (N := 4) (rest := []) [.int v] (cc_attempts l D A cs ad dm σ Lx cap mk ev zl tx mt tn tc w0 n tq hC v hn40 hL hlo hfl) (cwV 1 F.1.2.2.2.2 gL_asks_X5_attempts rfl rfl rfl (by decide +kernel) ⟨Nat.le_of_ble_eq_true rfl, Nat.le_of_ble_eq_true rfl⟩) rfl hC.1 rfl rfl rfl rfl (Nat.le_of_ble_eq_true rfl) dL_asks_72 ⟨Nat.le_of_eq (Nat.zero_add _), Nat.le_of_eq (Nat.zero_add _)⟩ (fun E ce q9 hp hcl hv H1 locs1 ls1 hw1 hS1 hl1 hc1 => ?_) (fun v9 ad1 dm1 w1 h9 => absurd h9.1 hN)
  have hE : E = xIO := hp.1
  subst hE
  refine c_catch F (hh := [(0, 153, 154, 52), (0, 153, 159, 56)]) htab [] ⟨0, 153, 154, 52⟩ [⟨0, 153, 159, 56⟩] rfl (fun z hz => absurd hz List.not_mem_nil) rfl (by decide) (by decide +kernel) (List.mem_of_getElem? (i := 3) rfl) hcl hv hw1 hS1 hl1 hc1 ?_
  refine g_astore F (lv1 := [(4, .ref q9), (0, .ref (ad 10 0)), (1, .int 5), (2, .int v), (3, .int u)]) dL_asks_154 (by decide) rfl ?_
  refine g_bipush F dL_asks_156 (v := -30) (by decide) ?_
  exact g_qi F hr hlocks (fun _ h => h) ⟨rfl, rfl, rfl, rfl⟩ (Nat.le_of_eq (Nat.zero_add _)) (Nat.le_of_eq (Nat.zero_add _)) dL_asks_158
set_option maxHeartbeats 4000000 in
set_option maxRecDepth 100000 in
theorem lk_due (l : Launch) (D : va_G) (A : Nat → Prop) (cs : Nat → ClassId) (ad : Nat → Nat → Nat) (dm : Nat → Nat → Prop) (σ : SG) (Lx : Nat → List Nat) (cap : Nat → Nat) (mk : Nat → Int32) (ev : SG) (zl tx mt tn : Nat → Nat) (tc : SG) (w0 : CF) (n tq : Nat) (hC : CD dm n cap tq) (hn40 : n ≤ 40) (hL : Lx 0 = List.range n) (hlo : LO n Lx cap) (hfl : l.stackTraces = false) (v u : Int32) (hN : ¬ inR v 0 (nI n - 1)) : Met l yL_asks wsL_asks ({ frames := 9, cells := 2, slots := 12, locals := 154 }) (va_Pc [.ref (ad 10 0), .int 6, .int v, .int u] (PW D A (tysG cs) ad dm (cw D ad cs σ Lx cap mk ev zl tx mt tn tc w0))) (QW D A (tysG cs) (fun rz ad1 dm1 w1 => rz = some (.int (-30)) ∧ ad = ad1 ∧ dm = dm1 ∧ (cw D ad cs σ Lx cap mk ev zl tx mt tn tc w0) = w1)) 2 12 A := by
  refine h_start (own := RL) (hh := [(0, 153, 154, 52), (0, 153, 159, 56)]) [.ref (ad 10 0), .int 6, .int v, .int u] (cc := cL_asks) (maxL := 5) (ret := some .int) (lv0 := [(0, .ref (ad 10 0)), (1, .int 6), (2, .int v), (3, .int u)]) (by decide) rfl rfl (Nat.le_of_ble_eq_true rfl) rfl ?_
  intro p e s m below meth c F hr hlocks htab
  refine g_iload_n F 1 dL_asks_0 rfl rfl ?_
  refine g_if_ne F (tgt := 12) dL_asks_1 (by decide) (fun _ => ?_) (fun q => absurd q (by decide))
  refine g_iload_n F 1 dL_asks_12 rfl rfl ?_
  refine g_iconst F dL_asks_13 (v := 1) (by decide) ?_
  refine g_icmp_ne F (tgt := 25) dL_asks_14 (by decide) (fun _ => ?_) (fun q => absurd q (by decide))
  refine g_iload_n F 1 dL_asks_25 rfl rfl ?_
  refine g_iconst F dL_asks_26 (v := 2) (by decide) ?_
  refine g_icmp_ne F (tgt := 38) dL_asks_27 (by decide) (fun _ => ?_) (fun q => absurd q (by decide))
  refine g_iload_n F 1 dL_asks_38 rfl rfl ?_
  refine g_iconst F dL_asks_39 (v := 3) (by decide) ?_
  refine g_icmp_ne F (tgt := 52) dL_asks_40 (by decide) (fun _ => ?_) (fun q => absurd q (by decide))
  refine g_iload_n F 1 dL_asks_52 rfl rfl ?_
  refine g_iconst F dL_asks_53 (v := 4) (by decide) ?_
  refine g_icmp_ne F (tgt := 65) dL_asks_54 (by decide) (fun _ => ?_) (fun q => absurd q (by decide))
  refine g_iload_n F 1 dL_asks_65 rfl rfl ?_
  refine g_iconst F dL_asks_66 (v := 5) (by decide) ?_
  refine g_icmp_ne F (tgt := 78) dL_asks_67 (by decide) (fun _ => ?_) (fun q => absurd q (by decide))
  refine g_iload_n F 1 dL_asks_78 rfl rfl ?_
  refine g_bipush F dL_asks_79 (v := 6) (by decide) ?_
  refine g_icmp_ne F (tgt := 92) dL_asks_81 (by decide) (fun q => absurd rfl q) (fun _ => ?_)
  refine g_aload_n F 0 dL_asks_84 rfl rfl ?_
  refine g_iload_n F 2 dL_asks_85 rfl rfl ?_
  refine x_callVc F (C := RX5) (k := 10) (i := 0) (ci := 5) (T := TX5) (N := 4) (rest := []) [.int v] (cc_due l D A cs ad dm σ Lx cap mk ev zl tx mt tn tc w0 n tq hC v hn40 hL hlo hfl) (cwV 1 F.1.2.2.2.2 gL_asks_X5_due rfl rfl rfl (by decide +kernel) ⟨Nat.le_of_ble_eq_true rfl, Nat.le_of_ble_eq_true rfl⟩) rfl hC.1 rfl rfl rfl rfl (Nat.le_of_ble_eq_true rfl) dL_asks_86 ⟨Nat.le_of_eq (Nat.zero_add _), Nat.le_of_eq (Nat.zero_add _)⟩ (fun E ce q9 hp hcl hv H1 locs1 ls1 hw1 hS1 hl1 hc1 => ?_) (fun v9 ad1 dm1 w1 h9 => absurd h9.1.1 hN)
  have hE : E = xIO := hp.elim (fun q => q.1) (fun q => absurd q.2.1 hN)
  subst hE
  refine c_catch F (hh := [(0, 153, 154, 52), (0, 153, 159, 56)]) htab [] ⟨0, 153, 154, 52⟩ [⟨0, 153, 159, 56⟩] rfl (fun z hz => absurd hz List.not_mem_nil) rfl (by decide) (by decide +kernel) (List.mem_of_getElem? (i := 3) rfl) hcl hv hw1 hS1 hl1 hc1 ?_
  refine g_astore F (lv1 := [(4, .ref q9), (0, .ref (ad 10 0)), (1, .int 6), (2, .int v), (3, .int u)]) dL_asks_154 (by decide) rfl ?_
  refine g_bipush F dL_asks_156 (v := -30) (by decide) ?_
  exact g_qi F hr hlocks (fun _ h => h) ⟨rfl, rfl, rfl, rfl⟩ (Nat.le_of_eq (Nat.zero_add _)) (Nat.le_of_eq (Nat.zero_add _)) dL_asks_158
set_option maxHeartbeats 4000000 in
set_option maxRecDepth 100000 in
theorem lk_inRoom (l : Launch) (D : va_G) (A : Nat → Prop) (cs : Nat → ClassId) (ad : Nat → Nat → Nat) (dm : Nat → Nat → Prop) (σ : SG) (Lx : Nat → List Nat) (cap : Nat → Nat) (mk : Nat → Int32) (ev : SG) (zl tx mt tn : Nat → Nat) (tc : SG) (w0 : CF) (n tq : Nat) (hC : CD dm n cap tq) (hfl : l.stackTraces = false) (v u : Int32) (hN : ¬ recP v) : Met l yL_asks wsL_asks ({ frames := 8, cells := 1, slots := 6, locals := 132 }) (va_Pc [.ref (ad 10 0), .int 7, .int v, .int u] (PW D A (tysG cs) ad dm (cw D ad cs σ Lx cap mk ev zl tx mt tn tc w0))) (QW D A (tysG cs) (fun rz ad1 dm1 w1 => rz = some (.int (-30)) ∧ ad = ad1 ∧ dm = dm1 ∧ (cw D ad cs σ Lx cap mk ev zl tx mt tn tc w0) = w1)) 1 6 A := by
  refine h_start (own := RL) (hh := [(0, 153, 154, 52), (0, 153, 159, 56)]) [.ref (ad 10 0), .int 7, .int v, .int u] (cc := cL_asks) (maxL := 5) (ret := some .int) (lv0 := [(0, .ref (ad 10 0)), (1, .int 7), (2, .int v), (3, .int u)]) (by decide) rfl rfl (Nat.le_of_ble_eq_true rfl) rfl ?_
  intro p e s m below meth c F hr hlocks htab
  refine g_iload_n F 1 dL_asks_0 rfl rfl ?_
  refine g_if_ne F (tgt := 12) dL_asks_1 (by decide) (fun _ => ?_) (fun q => absurd q (by decide))
  refine g_iload_n F 1 dL_asks_12 rfl rfl ?_
  refine g_iconst F dL_asks_13 (v := 1) (by decide) ?_
  refine g_icmp_ne F (tgt := 25) dL_asks_14 (by decide) (fun _ => ?_) (fun q => absurd q (by decide))
  refine g_iload_n F 1 dL_asks_25 rfl rfl ?_
  refine g_iconst F dL_asks_26 (v := 2) (by decide) ?_
  refine g_icmp_ne F (tgt := 38) dL_asks_27 (by decide) (fun _ => ?_) (fun q => absurd q (by decide))
  refine g_iload_n F 1 dL_asks_38 rfl rfl ?_
  refine g_iconst F dL_asks_39 (v := 3) (by decide) ?_
  refine g_icmp_ne F (tgt := 52) dL_asks_40 (by decide) (fun _ => ?_) (fun q => absurd q (by decide))
  refine g_iload_n F 1 dL_asks_52 rfl rfl ?_
  refine g_iconst F dL_asks_53 (v := 4) (by decide) ?_
  refine g_icmp_ne F (tgt := 65) dL_asks_54 (by decide) (fun _ => ?_) (fun q => absurd q (by decide))
  refine g_iload_n F 1 dL_asks_65 rfl rfl ?_
  refine g_iconst F dL_asks_66 (v := 5) (by decide) ?_
  refine g_icmp_ne F (tgt := 78) dL_asks_67 (by decide) (fun _ => ?_) (fun q => absurd q (by decide))
  refine g_iload_n F 1 dL_asks_78 rfl rfl ?_
  refine g_bipush F dL_asks_79 (v := 6) (by decide) ?_
  refine g_icmp_ne F (tgt := 92) dL_asks_81 (by decide) (fun _ => ?_) (fun q => absurd q (by decide))
  refine g_iload_n F 1 dL_asks_92 rfl rfl ?_
  refine g_bipush F dL_asks_93 (v := 7) (by decide) ?_
  refine g_icmp_ne F (tgt := 106) dL_asks_95 (by decide) (fun q => absurd rfl q) (fun _ => ?_)
  refine g_aload_n F 0 dL_asks_98 rfl rfl ?_
  refine g_iload_n F 2 dL_asks_99 rfl rfl ?_
  refine x_callVc F (C := RX5) (k := 10) (i := 0) (ci := 5) (T := TX5) (N := 4) (rest := []) [.int v] (cc_inRoom l D A cs ad dm σ Lx cap mk ev zl tx mt tn tc w0 n tq hC v hfl) (cwV 1 F.1.2.2.2.2 gL_asks_X5_inRoom rfl rfl rfl (by decide +kernel) ⟨Nat.le_of_ble_eq_true rfl, Nat.le_of_ble_eq_true rfl⟩) rfl hC.1 rfl rfl rfl rfl (Nat.le_of_ble_eq_true rfl) dL_asks_100 ⟨Nat.le_of_eq (Nat.zero_add _), Nat.le_of_eq (Nat.zero_add _)⟩ (fun E ce q9 hp hcl hv H1 locs1 ls1 hw1 hS1 hl1 hc1 => ?_) (fun v9 ad1 dm1 w1 h9 => absurd h9.1 hN)
  have hE : E = xIO := hp.1
  subst hE
  refine c_catch F (hh := [(0, 153, 154, 52), (0, 153, 159, 56)]) htab [] ⟨0, 153, 154, 52⟩ [⟨0, 153, 159, 56⟩] rfl (fun z hz => absurd hz List.not_mem_nil) rfl (by decide) (by decide +kernel) (List.mem_of_getElem? (i := 3) rfl) hcl hv hw1 hS1 hl1 hc1 ?_
  refine g_astore F (lv1 := [(4, .ref q9), (0, .ref (ad 10 0)), (1, .int 7), (2, .int v), (3, .int u)]) dL_asks_154 (by decide) rfl ?_
  refine g_bipush F dL_asks_156 (v := -30) (by decide) ?_
  exact g_qi F hr hlocks (fun _ h => h) ⟨rfl, rfl, rfl, rfl⟩ (Nat.le_of_eq (Nat.zero_add _)) (Nat.le_of_eq (Nat.zero_add _)) dL_asks_158
set_option maxHeartbeats 4000000 in
set_option maxRecDepth 100000 in
theorem lk_marks (l : Launch) (D : va_G) (A : Nat → Prop) (cs : Nat → ClassId) (ad : Nat → Nat → Nat) (dm : Nat → Nat → Prop) (σ : SG) (Lx : Nat → List Nat) (cap : Nat → Nat) (mk : Nat → Int32) (ev : SG) (zl tx mt tn : Nat → Nat) (tc : SG) (w0 : CF) (n tq : Nat) (hC : CD dm n cap tq) (hfl : l.stackTraces = false) (v u : Int32) (hN : ¬ recP v) : Met l yL_asks wsL_asks ({ frames := 8, cells := 1, slots := 6, locals := 132 }) (va_Pc [.ref (ad 10 0), .int 8, .int v, .int u] (PW D A (tysG cs) ad dm (cw D ad cs σ Lx cap mk ev zl tx mt tn tc w0))) (QW D A (tysG cs) (fun rz ad1 dm1 w1 => rz = some (.int (-30)) ∧ ad = ad1 ∧ dm = dm1 ∧ (cw D ad cs σ Lx cap mk ev zl tx mt tn tc w0) = w1)) 1 6 A := by
  refine h_start (own := RL) (hh := [(0, 153, 154, 52), (0, 153, 159, 56)]) [.ref (ad 10 0), .int 8, .int v, .int u] (cc := cL_asks) (maxL := 5) (ret := some .int) (lv0 := [(0, .ref (ad 10 0)), (1, .int 8), (2, .int v), (3, .int u)]) (by decide) rfl rfl (Nat.le_of_ble_eq_true rfl) rfl ?_
  intro p e s m below meth c F hr hlocks htab
  refine g_iload_n F 1 dL_asks_0 rfl rfl ?_
  refine g_if_ne F (tgt := 12) dL_asks_1 (by decide) (fun _ => ?_) (fun q => absurd q (by decide))
  refine g_iload_n F 1 dL_asks_12 rfl rfl ?_
  refine g_iconst F dL_asks_13 (v := 1) (by decide) ?_
  refine g_icmp_ne F (tgt := 25) dL_asks_14 (by decide) (fun _ => ?_) (fun q => absurd q (by decide))
  refine g_iload_n F 1 dL_asks_25 rfl rfl ?_
  refine g_iconst F dL_asks_26 (v := 2) (by decide) ?_
  refine g_icmp_ne F (tgt := 38) dL_asks_27 (by decide) (fun _ => ?_) (fun q => absurd q (by decide))
  refine g_iload_n F 1 dL_asks_38 rfl rfl ?_
  refine g_iconst F dL_asks_39 (v := 3) (by decide) ?_
  refine g_icmp_ne F (tgt := 52) dL_asks_40 (by decide) (fun _ => ?_) (fun q => absurd q (by decide))
  refine g_iload_n F 1 dL_asks_52 rfl rfl ?_
  refine g_iconst F dL_asks_53 (v := 4) (by decide) ?_
  refine g_icmp_ne F (tgt := 65) dL_asks_54 (by decide) (fun _ => ?_) (fun q => absurd q (by decide))
  refine g_iload_n F 1 dL_asks_65 rfl rfl ?_
  refine g_iconst F dL_asks_66 (v := 5) (by decide) ?_
  refine g_icmp_ne F (tgt := 78) dL_asks_67 (by decide) (fun _ => ?_) (fun q => absurd q (by decide))
  refine g_iload_n F 1 dL_asks_78 rfl rfl ?_
  refine g_bipush F dL_asks_79 (v := 6) (by decide) ?_
  refine g_icmp_ne F (tgt := 92) dL_asks_81 (by decide) (fun _ => ?_) (fun q => absurd q (by decide))
  refine g_iload_n F 1 dL_asks_92 rfl rfl ?_
  refine g_bipush F dL_asks_93 (v := 7) (by decide) ?_
  refine g_icmp_ne F (tgt := 106) dL_asks_95 (by decide) (fun _ => ?_) (fun q => absurd q (by decide))
  refine g_iload_n F 1 dL_asks_106 rfl rfl ?_
  refine g_bipush F dL_asks_107 (v := 8) (by decide) ?_
  refine g_icmp_ne F (tgt := 120) dL_asks_109 (by decide) (fun q => absurd rfl q) (fun _ => ?_)
  refine g_aload_n F 0 dL_asks_112 rfl rfl ?_
  refine g_iload_n F 2 dL_asks_113 rfl rfl ?_
  refine x_callVc F (C := RX5) (k := 10) (i := 0) (ci := 5) (T := TX5) (N := 4) (rest := []) [.int v] (cc_marks l D A cs ad dm σ Lx cap mk ev zl tx mt tn tc w0 n tq hC v hfl) (cwV 1 F.1.2.2.2.2 gL_asks_X5_marks rfl rfl rfl (by decide +kernel) ⟨Nat.le_of_ble_eq_true rfl, Nat.le_of_ble_eq_true rfl⟩) rfl hC.1 rfl rfl rfl rfl (Nat.le_of_ble_eq_true rfl) dL_asks_114 ⟨Nat.le_of_eq (Nat.zero_add _), Nat.le_of_eq (Nat.zero_add _)⟩ (fun E ce q9 hp hcl hv H1 locs1 ls1 hw1 hS1 hl1 hc1 => ?_) (fun v9 ad1 dm1 w1 h9 => absurd h9.1 hN)
  have hE : E = xIO := hp.1
  subst hE
  refine c_catch F (hh := [(0, 153, 154, 52), (0, 153, 159, 56)]) htab [] ⟨0, 153, 154, 52⟩ [⟨0, 153, 159, 56⟩] rfl (fun z hz => absurd hz List.not_mem_nil) rfl (by decide) (by decide +kernel) (List.mem_of_getElem? (i := 3) rfl) hcl hv hw1 hS1 hl1 hc1 ?_
  refine g_astore F (lv1 := [(4, .ref q9), (0, .ref (ad 10 0)), (1, .int 8), (2, .int v), (3, .int u)]) dL_asks_154 (by decide) rfl ?_
  refine g_bipush F dL_asks_156 (v := -30) (by decide) ?_
  exact g_qi F hr hlocks (fun _ h => h) ⟨rfl, rfl, rfl, rfl⟩ (Nat.le_of_eq (Nat.zero_add _)) (Nat.le_of_eq (Nat.zero_add _)) dL_asks_158
set_option maxHeartbeats 4000000 in
set_option maxRecDepth 100000 in
theorem lk_waiting (l : Launch) (D : va_G) (A : Nat → Prop) (cs : Nat → ClassId) (ad : Nat → Nat → Nat) (dm : Nat → Nat → Prop) (σ : SG) (Lx : Nat → List Nat) (cap : Nat → Nat) (mk : Nat → Int32) (ev : SG) (zl tx mt tn : Nat → Nat) (tc : SG) (w0 : CF) (n tq : Nat) (hC : CD dm n cap tq) (hfl : l.stackTraces = false) (v u : Int32) (hN : ¬ recP v) : Met l yL_asks wsL_asks ({ frames := 8, cells := 1, slots := 6, locals := 132 }) (va_Pc [.ref (ad 10 0), .int 9, .int v, .int u] (PW D A (tysG cs) ad dm (cw D ad cs σ Lx cap mk ev zl tx mt tn tc w0))) (QW D A (tysG cs) (fun rz ad1 dm1 w1 => rz = some (.int (-30)) ∧ ad = ad1 ∧ dm = dm1 ∧ (cw D ad cs σ Lx cap mk ev zl tx mt tn tc w0) = w1)) 1 6 A := by
  refine h_start (own := RL) (hh := [(0, 153, 154, 52), (0, 153, 159, 56)]) [.ref (ad 10 0), .int 9, .int v, .int u] (cc := cL_asks) (maxL := 5) (ret := some .int) (lv0 := [(0, .ref (ad 10 0)), (1, .int 9), (2, .int v), (3, .int u)]) (by decide) rfl rfl (Nat.le_of_ble_eq_true rfl) rfl ?_
  intro p e s m below meth c F hr hlocks htab
  refine g_iload_n F 1 dL_asks_0 rfl rfl ?_
  refine g_if_ne F (tgt := 12) dL_asks_1 (by decide) (fun _ => ?_) (fun q => absurd q (by decide))
  refine g_iload_n F 1 dL_asks_12 rfl rfl ?_
  refine g_iconst F dL_asks_13 (v := 1) (by decide) ?_
  refine g_icmp_ne F (tgt := 25) dL_asks_14 (by decide) (fun _ => ?_) (fun q => absurd q (by decide))
  refine g_iload_n F 1 dL_asks_25 rfl rfl ?_
  refine g_iconst F dL_asks_26 (v := 2) (by decide) ?_
  refine g_icmp_ne F (tgt := 38) dL_asks_27 (by decide) (fun _ => ?_) (fun q => absurd q (by decide))
  refine g_iload_n F 1 dL_asks_38 rfl rfl ?_
  refine g_iconst F dL_asks_39 (v := 3) (by decide) ?_
  refine g_icmp_ne F (tgt := 52) dL_asks_40 (by decide) (fun _ => ?_) (fun q => absurd q (by decide))
  refine g_iload_n F 1 dL_asks_52 rfl rfl ?_
  refine g_iconst F dL_asks_53 (v := 4) (by decide) ?_
  refine g_icmp_ne F (tgt := 65) dL_asks_54 (by decide) (fun _ => ?_) (fun q => absurd q (by decide))
  refine g_iload_n F 1 dL_asks_65 rfl rfl ?_
  refine g_iconst F dL_asks_66 (v := 5) (by decide) ?_
  refine g_icmp_ne F (tgt := 78) dL_asks_67 (by decide) (fun _ => ?_) (fun q => absurd q (by decide))
  refine g_iload_n F 1 dL_asks_78 rfl rfl ?_
  refine g_bipush F dL_asks_79 (v := 6) (by decide) ?_
  refine g_icmp_ne F (tgt := 92) dL_asks_81 (by decide) (fun _ => ?_) (fun q => absurd q (by decide))
  refine g_iload_n F 1 dL_asks_92 rfl rfl ?_
  refine g_bipush F dL_asks_93 (v := 7) (by decide) ?_
  refine g_icmp_ne F (tgt := 106) dL_asks_95 (by decide) (fun _ => ?_) (fun q => absurd q (by decide))
  refine g_iload_n F 1 dL_asks_106 rfl rfl ?_
  refine g_bipush F dL_asks_107 (v := 8) (by decide) ?_
  refine g_icmp_ne F (tgt := 120) dL_asks_109 (by decide) (fun _ => ?_) (fun q => absurd q (by decide))
  refine g_iload_n F 1 dL_asks_120 rfl rfl ?_
  refine g_bipush F dL_asks_121 (v := 9) (by decide) ?_
  refine g_icmp_ne F (tgt := 134) dL_asks_123 (by decide) (fun q => absurd rfl q) (fun _ => ?_)
  refine g_aload_n F 0 dL_asks_126 rfl rfl ?_
  refine g_iload_n F 2 dL_asks_127 rfl rfl ?_
  refine x_callVc F (C := RX5) (k := 10) (i := 0) (ci := 5) (T := TX5) (N := 4) (rest := []) [.int v] (cc_waiting l D A cs ad dm σ Lx cap mk ev zl tx mt tn tc w0 n tq hC v hfl) (cwV 1 F.1.2.2.2.2 gL_asks_X5_waiting rfl rfl rfl (by decide +kernel) ⟨Nat.le_of_ble_eq_true rfl, Nat.le_of_ble_eq_true rfl⟩) rfl hC.1 rfl rfl rfl rfl (Nat.le_of_ble_eq_true rfl) dL_asks_128 ⟨Nat.le_of_eq (Nat.zero_add _), Nat.le_of_eq (Nat.zero_add _)⟩ (fun E ce q9 hp hcl hv H1 locs1 ls1 hw1 hS1 hl1 hc1 => ?_) (fun v9 ad1 dm1 w1 h9 => absurd h9.1 hN)
  have hE : E = xIO := hp.1
  subst hE
  refine c_catch F (hh := [(0, 153, 154, 52), (0, 153, 159, 56)]) htab [] ⟨0, 153, 154, 52⟩ [⟨0, 153, 159, 56⟩] rfl (fun z hz => absurd hz List.not_mem_nil) rfl (by decide) (by decide +kernel) (List.mem_of_getElem? (i := 3) rfl) hcl hv hw1 hS1 hl1 hc1 ?_
  refine g_astore F (lv1 := [(4, .ref q9), (0, .ref (ad 10 0)), (1, .int 9), (2, .int v), (3, .int u)]) dL_asks_154 (by decide) rfl ?_
  refine g_bipush F dL_asks_156 (v := -30) (by decide) ?_
  exact g_qi F hr hlocks (fun _ h => h) ⟨rfl, rfl, rfl, rfl⟩ (Nat.le_of_eq (Nat.zero_add _)) (Nat.le_of_eq (Nat.zero_add _)) dL_asks_158
set_option maxHeartbeats 4000000 in
set_option maxRecDepth 100000 in
theorem lk_next (l : Launch) (D : va_G) (A : Nat → Prop) (cs : Nat → ClassId) (ad : Nat → Nat → Nat) (dm : Nat → Nat → Prop) (σ : SG) (Lx : Nat → List Nat) (cap : Nat → Nat) (mk : Nat → Int32) (ev : SG) (zl tx mt tn : Nat → Nat) (tc : SG) (w0 : CF) (n tq : Nat) (hC : CD dm n cap tq) (hlo : LO n Lx cap) (hfl : l.stackTraces = false) (v u : Int32) (hN : ¬ recP v) : Met l yL_asks wsL_asks ({ frames := 8, cells := 1, slots := 6, locals := 133 }) (va_Pc [.ref (ad 10 0), .int 10, .int v, .int u] (PW D A (tysG cs) ad dm (cw D ad cs σ Lx cap mk ev zl tx mt tn tc w0))) (QW D A (tysG cs) (fun rz ad1 dm1 w1 => rz = some (.int (-30)) ∧ ad = ad1 ∧ dm = dm1 ∧ (cw D ad cs σ Lx cap mk ev zl tx mt tn tc w0) = w1)) 1 6 A := by
  refine h_start (own := RL) (hh := [(0, 153, 154, 52), (0, 153, 159, 56)]) [.ref (ad 10 0), .int 10, .int v, .int u] (cc := cL_asks) (maxL := 5) (ret := some .int) (lv0 := [(0, .ref (ad 10 0)), (1, .int 10), (2, .int v), (3, .int u)]) (by decide) rfl rfl (Nat.le_of_ble_eq_true rfl) rfl ?_
  intro p e s m below meth c F hr hlocks htab
  refine g_iload_n F 1 dL_asks_0 rfl rfl ?_
  refine g_if_ne F (tgt := 12) dL_asks_1 (by decide) (fun _ => ?_) (fun q => absurd q (by decide))
  refine g_iload_n F 1 dL_asks_12 rfl rfl ?_
  refine g_iconst F dL_asks_13 (v := 1) (by decide) ?_
  refine g_icmp_ne F (tgt := 25) dL_asks_14 (by decide) (fun _ => ?_) (fun q => absurd q (by decide))
  refine g_iload_n F 1 dL_asks_25 rfl rfl ?_
  refine g_iconst F dL_asks_26 (v := 2) (by decide) ?_
  refine g_icmp_ne F (tgt := 38) dL_asks_27 (by decide) (fun _ => ?_) (fun q => absurd q (by decide))
  refine g_iload_n F 1 dL_asks_38 rfl rfl ?_
  refine g_iconst F dL_asks_39 (v := 3) (by decide) ?_
  refine g_icmp_ne F (tgt := 52) dL_asks_40 (by decide) (fun _ => ?_) (fun q => absurd q (by decide))
  refine g_iload_n F 1 dL_asks_52 rfl rfl ?_
  refine g_iconst F dL_asks_53 (v := 4) (by decide) ?_
  refine g_icmp_ne F (tgt := 65) dL_asks_54 (by decide) (fun _ => ?_) (fun q => absurd q (by decide))
  refine g_iload_n F 1 dL_asks_65 rfl rfl ?_
  refine g_iconst F dL_asks_66 (v := 5) (by decide) ?_
  refine g_icmp_ne F (tgt := 78) dL_asks_67 (by decide) (fun _ => ?_) (fun q => absurd q (by decide))
  refine g_iload_n F 1 dL_asks_78 rfl rfl ?_
  refine g_bipush F dL_asks_79 (v := 6) (by decide) ?_
  refine g_icmp_ne F (tgt := 92) dL_asks_81 (by decide) (fun _ => ?_) (fun q => absurd q (by decide))
  refine g_iload_n F 1 dL_asks_92 rfl rfl ?_
  refine g_bipush F dL_asks_93 (v := 7) (by decide) ?_
  refine g_icmp_ne F (tgt := 106) dL_asks_95 (by decide) (fun _ => ?_) (fun q => absurd q (by decide))
  refine g_iload_n F 1 dL_asks_106 rfl rfl ?_
  refine g_bipush F dL_asks_107 (v := 8) (by decide) ?_
  refine g_icmp_ne F (tgt := 120) dL_asks_109 (by decide) (fun _ => ?_) (fun q => absurd q (by decide))
  refine g_iload_n F 1 dL_asks_120 rfl rfl ?_
  refine g_bipush F dL_asks_121 (v := 9) (by decide) ?_
  refine g_icmp_ne F (tgt := 134) dL_asks_123 (by decide) (fun _ => ?_) (fun q => absurd q (by decide))
  refine g_iload_n F 1 dL_asks_134 rfl rfl ?_
  refine g_bipush F dL_asks_135 (v := 10) (by decide) ?_
  refine g_icmp_ne F (tgt := 148) dL_asks_137 (by decide) (fun q => absurd rfl q) (fun _ => ?_)
  refine g_aload_n F 0 dL_asks_140 rfl rfl ?_
  refine g_iload_n F 2 dL_asks_141 rfl rfl ?_
  refine x_callVc F (C := RX5) (k := 10) (i := 0) (ci := 5) (T := TX5) (N := 4) (rest := []) [.int v] (cc_next l D A cs ad dm σ Lx cap mk ev zl tx mt tn tc w0 n tq hC v hlo hfl) (cwV 1 F.1.2.2.2.2 gL_asks_X5_next rfl rfl rfl (by decide +kernel) ⟨Nat.le_of_ble_eq_true rfl, Nat.le_of_ble_eq_true rfl⟩) rfl hC.1 rfl rfl rfl rfl (Nat.le_of_ble_eq_true rfl) dL_asks_142 ⟨Nat.le_of_eq (Nat.zero_add _), Nat.le_of_eq (Nat.zero_add _)⟩ (fun E ce q9 hp hcl hv H1 locs1 ls1 hw1 hS1 hl1 hc1 => ?_) (fun v9 ad1 dm1 w1 h9 => absurd h9.1 hN)
  have hE : E = xIO := hp.1
  subst hE
  refine c_catch F (hh := [(0, 153, 154, 52), (0, 153, 159, 56)]) htab [] ⟨0, 153, 154, 52⟩ [⟨0, 153, 159, 56⟩] rfl (fun z hz => absurd hz List.not_mem_nil) rfl (by decide) (by decide +kernel) (List.mem_of_getElem? (i := 3) rfl) hcl hv hw1 hS1 hl1 hc1 ?_
  refine g_astore F (lv1 := [(4, .ref q9), (0, .ref (ad 10 0)), (1, .int 10), (2, .int v), (3, .int u)]) dL_asks_154 (by decide) rfl ?_
  refine g_bipush F dL_asks_156 (v := -30) (by decide) ?_
  exact g_qi F hr hlocks (fun _ h => h) ⟨rfl, rfl, rfl, rfl⟩ (Nat.le_of_eq (Nat.zero_add _)) (Nat.le_of_eq (Nat.zero_add _)) dL_asks_158
set_option maxHeartbeats 4000000 in
set_option maxRecDepth 100000 in
theorem lk_receipts (l : Launch) (D : va_G) (A : Nat → Prop) (cs : Nat → ClassId) (ad : Nat → Nat → Nat) (dm : Nat → Nat → Prop) (σ : SG) (Lx : Nat → List Nat) (cap : Nat → Nat) (mk : Nat → Int32) (ev : SG) (zl tx mt tn : Nat → Nat) (tc : SG) (w0 : CF) (n tq : Nat) (hC : CD dm n cap tq) (hfl : l.stackTraces = false) (v u : Int32) (hN : ¬ accP v) : Met l yL_asks wsL_asks ({ frames := 8, cells := 1, slots := 6, locals := 132 }) (va_Pc [.ref (ad 10 0), .int 11, .int v, .int u] (PW D A (tysG cs) ad dm (cw D ad cs σ Lx cap mk ev zl tx mt tn tc w0))) (QW D A (tysG cs) (fun rz ad1 dm1 w1 => rz = some (.int (-30)) ∧ ad = ad1 ∧ dm = dm1 ∧ (cw D ad cs σ Lx cap mk ev zl tx mt tn tc w0) = w1)) 1 6 A := by
  refine h_start (own := RL) (hh := [(0, 153, 154, 52), (0, 153, 159, 56)]) [.ref (ad 10 0), .int 11, .int v, .int u] (cc := cL_asks) (maxL := 5) (ret := some .int) (lv0 := [(0, .ref (ad 10 0)), (1, .int 11), (2, .int v), (3, .int u)]) (by decide) rfl rfl (Nat.le_of_ble_eq_true rfl) rfl ?_
  intro p e s m below meth c F hr hlocks htab
  refine g_iload_n F 1 dL_asks_0 rfl rfl ?_
  refine g_if_ne F (tgt := 12) dL_asks_1 (by decide) (fun _ => ?_) (fun q => absurd q (by decide))
  refine g_iload_n F 1 dL_asks_12 rfl rfl ?_
  refine g_iconst F dL_asks_13 (v := 1) (by decide) ?_
  refine g_icmp_ne F (tgt := 25) dL_asks_14 (by decide) (fun _ => ?_) (fun q => absurd q (by decide))
  refine g_iload_n F 1 dL_asks_25 rfl rfl ?_
  refine g_iconst F dL_asks_26 (v := 2) (by decide) ?_
  refine g_icmp_ne F (tgt := 38) dL_asks_27 (by decide) (fun _ => ?_) (fun q => absurd q (by decide))
  refine g_iload_n F 1 dL_asks_38 rfl rfl ?_
  refine g_iconst F dL_asks_39 (v := 3) (by decide) ?_
  refine g_icmp_ne F (tgt := 52) dL_asks_40 (by decide) (fun _ => ?_) (fun q => absurd q (by decide))
  refine g_iload_n F 1 dL_asks_52 rfl rfl ?_
  refine g_iconst F dL_asks_53 (v := 4) (by decide) ?_
  refine g_icmp_ne F (tgt := 65) dL_asks_54 (by decide) (fun _ => ?_) (fun q => absurd q (by decide))
  refine g_iload_n F 1 dL_asks_65 rfl rfl ?_
  refine g_iconst F dL_asks_66 (v := 5) (by decide) ?_
  refine g_icmp_ne F (tgt := 78) dL_asks_67 (by decide) (fun _ => ?_) (fun q => absurd q (by decide))
  refine g_iload_n F 1 dL_asks_78 rfl rfl ?_
  refine g_bipush F dL_asks_79 (v := 6) (by decide) ?_
  refine g_icmp_ne F (tgt := 92) dL_asks_81 (by decide) (fun _ => ?_) (fun q => absurd q (by decide))
  refine g_iload_n F 1 dL_asks_92 rfl rfl ?_
  refine g_bipush F dL_asks_93 (v := 7) (by decide) ?_
  refine g_icmp_ne F (tgt := 106) dL_asks_95 (by decide) (fun _ => ?_) (fun q => absurd q (by decide))
  refine g_iload_n F 1 dL_asks_106 rfl rfl ?_
  refine g_bipush F dL_asks_107 (v := 8) (by decide) ?_
  refine g_icmp_ne F (tgt := 120) dL_asks_109 (by decide) (fun _ => ?_) (fun q => absurd q (by decide))
  refine g_iload_n F 1 dL_asks_120 rfl rfl ?_
  refine g_bipush F dL_asks_121 (v := 9) (by decide) ?_
  refine g_icmp_ne F (tgt := 134) dL_asks_123 (by decide) (fun _ => ?_) (fun q => absurd q (by decide))
  refine g_iload_n F 1 dL_asks_134 rfl rfl ?_
  refine g_bipush F dL_asks_135 (v := 10) (by decide) ?_
  refine g_icmp_ne F (tgt := 148) dL_asks_137 (by decide) (fun _ => ?_) (fun q => absurd q (by decide))
  refine g_aload_n F 0 dL_asks_148 rfl rfl ?_
  refine g_iload_n F 2 dL_asks_149 rfl rfl ?_
  refine x_callVc F (C := RX5) (k := 10) (i := 0) (ci := 5) (T := TX5) (N := 4) (rest := []) [.int v] (cc_receipts l D A cs ad dm σ Lx cap mk ev zl tx mt tn tc w0 n tq hC v hfl) (cwV 1 F.1.2.2.2.2 gL_asks_X5_receipts rfl rfl rfl (by decide +kernel) ⟨Nat.le_of_ble_eq_true rfl, Nat.le_of_ble_eq_true rfl⟩) rfl hC.1 rfl rfl rfl rfl (Nat.le_of_ble_eq_true rfl) dL_asks_150 ⟨Nat.le_of_eq (Nat.zero_add _), Nat.le_of_eq (Nat.zero_add _)⟩ (fun E ce q9 hp hcl hv H1 locs1 ls1 hw1 hS1 hl1 hc1 => ?_) (fun v9 ad1 dm1 w1 h9 => absurd h9.1 hN)
  have hE : E = xIO := hp.1
  subst hE
  refine c_catch F (hh := [(0, 153, 154, 52), (0, 153, 159, 56)]) htab [] ⟨0, 153, 154, 52⟩ [⟨0, 153, 159, 56⟩] rfl (fun z hz => absurd hz List.not_mem_nil) rfl (by decide) (by decide +kernel) (List.mem_of_getElem? (i := 3) rfl) hcl hv hw1 hS1 hl1 hc1 ?_
  refine g_astore F (lv1 := [(4, .ref q9), (0, .ref (ad 10 0)), (1, .int 11), (2, .int v), (3, .int u)]) dL_asks_154 (by decide) rfl ?_
  refine g_bipush F dL_asks_156 (v := -30) (by decide) ?_
  exact g_qi F hr hlocks (fun _ h => h) ⟨rfl, rfl, rfl, rfl⟩ (Nat.le_of_eq (Nat.zero_add _)) (Nat.le_of_eq (Nat.zero_add _)) dL_asks_158
set_option maxHeartbeats 4000000 in
set_option maxRecDepth 100000 in
theorem lk_dueS (l : Launch) (D : va_G) (A : Nat → Prop) (cs : Nat → ClassId) (ad : Nat → Nat → Nat) (dm : Nat → Nat → Prop) (σ : SG) (Lx : Nat → List Nat) (cap : Nat → Nat) (mk : Nat → Int32) (ev : SG) (zl tx mt tn : Nat → Nat) (tc : SG) (w0 : CF) (n tq : Nat) (hC : CD dm n cap tq) (hn40 : n ≤ 40) (hL : Lx 0 = List.range n) (hlo : LO n Lx cap) (hfl : l.stackTraces = false) (v u : Int32) (hin : inR v 0 (nI n - 1)) (hN : ¬ σ 23 (ix v) = 0) : Met l yL_asks wsL_asks ({ frames := 9, cells := 2, slots := 12, locals := 154 }) (va_Pc [.ref (ad 10 0), .int 6, .int v, .int u] (PW D A (tysG cs) ad dm (cw D ad cs σ Lx cap mk ev zl tx mt tn tc w0))) (QW D A (tysG cs) (fun rz ad1 dm1 w1 => rz = some (.int (-10)) ∧ ad = ad1 ∧ dm = dm1 ∧ (cw D ad cs σ Lx cap mk ev zl tx mt tn tc w0) = w1)) 2 12 A := by
  refine h_start (own := RL) (hh := [(0, 153, 154, 52), (0, 153, 159, 56)]) [.ref (ad 10 0), .int 6, .int v, .int u] (cc := cL_asks) (maxL := 5) (ret := some .int) (lv0 := [(0, .ref (ad 10 0)), (1, .int 6), (2, .int v), (3, .int u)]) (by decide) rfl rfl (Nat.le_of_ble_eq_true rfl) rfl ?_
  intro p e s m below meth c F hr hlocks htab
  refine g_iload_n F 1 dL_asks_0 rfl rfl ?_
  refine g_if_ne F (tgt := 12) dL_asks_1 (by decide) (fun _ => ?_) (fun q => absurd q (by decide))
  refine g_iload_n F 1 dL_asks_12 rfl rfl ?_
  refine g_iconst F dL_asks_13 (v := 1) (by decide) ?_
  refine g_icmp_ne F (tgt := 25) dL_asks_14 (by decide) (fun _ => ?_) (fun q => absurd q (by decide))
  refine g_iload_n F 1 dL_asks_25 rfl rfl ?_
  refine g_iconst F dL_asks_26 (v := 2) (by decide) ?_
  refine g_icmp_ne F (tgt := 38) dL_asks_27 (by decide) (fun _ => ?_) (fun q => absurd q (by decide))
  refine g_iload_n F 1 dL_asks_38 rfl rfl ?_
  refine g_iconst F dL_asks_39 (v := 3) (by decide) ?_
  refine g_icmp_ne F (tgt := 52) dL_asks_40 (by decide) (fun _ => ?_) (fun q => absurd q (by decide))
  refine g_iload_n F 1 dL_asks_52 rfl rfl ?_
  refine g_iconst F dL_asks_53 (v := 4) (by decide) ?_
  refine g_icmp_ne F (tgt := 65) dL_asks_54 (by decide) (fun _ => ?_) (fun q => absurd q (by decide))
  refine g_iload_n F 1 dL_asks_65 rfl rfl ?_
  refine g_iconst F dL_asks_66 (v := 5) (by decide) ?_
  refine g_icmp_ne F (tgt := 78) dL_asks_67 (by decide) (fun _ => ?_) (fun q => absurd q (by decide))
  refine g_iload_n F 1 dL_asks_78 rfl rfl ?_
  refine g_bipush F dL_asks_79 (v := 6) (by decide) ?_
  refine g_icmp_ne F (tgt := 92) dL_asks_81 (by decide) (fun q => absurd rfl q) (fun _ => ?_)
  refine g_aload_n F 0 dL_asks_84 rfl rfl ?_
  refine g_iload_n F 2 dL_asks_85 rfl rfl ?_
  refine x_callVc F (C := RX5) (k := 10) (i := 0) (ci := 5) (T := TX5) (N := 4) (rest := []) [.int v] (cc_due l D A cs ad dm σ Lx cap mk ev zl tx mt tn tc w0 n tq hC v hn40 hL hlo hfl) (cwV 1 F.1.2.2.2.2 gL_asks_X5_due rfl rfl rfl (by decide +kernel) ⟨Nat.le_of_ble_eq_true rfl, Nat.le_of_ble_eq_true rfl⟩) rfl hC.1 rfl rfl rfl rfl (Nat.le_of_ble_eq_true rfl) dL_asks_86 ⟨Nat.le_of_eq (Nat.zero_add _), Nat.le_of_eq (Nat.zero_add _)⟩ (fun E ce q9 hp hcl hv H1 locs1 ls1 hw1 hS1 hl1 hc1 => ?_) (fun v9 ad1 dm1 w1 h9 => absurd h9.1.2 hN)
  have hE : E = xIS := hp.elim (fun q => absurd hin q.2) (fun q => q.1)
  subst hE
  refine c_catch F (hh := [(0, 153, 154, 52), (0, 153, 159, 56)]) htab [⟨0, 153, 154, 52⟩] ⟨0, 153, 159, 56⟩ [] rfl (by intro z hz; simp only [List.mem_cons, List.not_mem_nil, or_false] at hz; subst hz; exact ⟨by decide, xIO, by decide +kernel, F.2.2.2.2.1.2.2.2.2.2.2.2.2.1⟩) rfl (by decide) (by decide +kernel) (List.mem_of_getElem? (i := 5) rfl) hcl hv hw1 hS1 hl1 hc1 ?_
  refine g_astore F (lv1 := [(4, .ref q9), (0, .ref (ad 10 0)), (1, .int 6), (2, .int v), (3, .int u)]) dL_asks_159 (by decide) rfl ?_
  refine g_bipush F dL_asks_161 (v := -10) (by decide) ?_
  exact g_qi F hr hlocks (fun _ h => h) ⟨rfl, rfl, rfl, rfl⟩ (Nat.le_of_eq (Nat.zero_add _)) (Nat.le_of_eq (Nat.zero_add _)) dL_asks_163
