/-! the law asks the class outside of try: what it asks for is there -/
section LWQ
variable {p : Program} {l : Launch} {e : Env} {R : Room} {s : State} {m : MethodId} {args : Array Value} {below : List Frame} {meth : Method} {c : Code} {cells slots : Nat} {Q : State → Prop} {cc : ByteArray} {nL : Nat} {Ts : List Cond} {own : String} {D : va_G} {A : Nat → Prop} {tys : List (ClassId × FieldType)} {cs : Nat → ClassId} {ad : Nat → Nat → Nat} {dm : Nat → Nat → Prop} {w : CF} {pc : Nat} {lv : List (Nat × Value)} {rest : List Value}
variable {σ : SG} {Lx : Nat → List Nat} {cap : Nat → Nat} {mk : Nat → Int32} {ev : SG} {zl tx mt tn : Nat → Nat} {tc : SG} {w0 : CF} {la : SG} {wz : CF} {n tq t : Nat}

set_option maxHeartbeats 4000000 in
set_option maxRecDepth 100000 in
theorem lq_state (F : FX p s m args c cc nL Ts own D A (tysG cs)) (hC : CD dm n cap tq) (hn40 : n ≤ 40) (hL : Lx 0 = List.range n) (hlo : LO n Lx cap) (hfl : l.stackTraces = false) {k : Nat} (hk : k < n) {v : Int32} (hv : σ 23 k = v) {index : Nat} (cwx : CallW R s args own RX5 index yX5_state cX5_state 2 (some .int) wsX5_state ({ frames := 7, cells := 1, slots := 6, locals := 111 }) 1 6 1) (hroom : (rest.map fun v => v.category).sum ≤ 8) (d : decode cc pc = .ok (.invokevirtual index, 3)) (hf : cells + 1 ≤ R.cells ∧ slots + 6 ≤ R.slots)
    (kk : GG p l e R s m args below meth c D A ad dm nL (cells + 1) (slots + 6) Q (cw D ad cs σ Lx cap mk ev zl tx mt tn tc w0) (pc + 3) lv (.int v :: rest)) : GG p l e R s m args below meth c D A ad dm nL cells slots Q (cw D ad cs σ Lx cap mk ev zl tx mt tn tc w0) pc lv (.int (nI k) :: .ref (ad 10 0) :: rest) := by
  refine x_callVc F (C := RX5) (k := 10) (i := 0) (ci := 5) (T := TX5) (N := 4) (rest := rest) [.int (nI k)] (cc_state l D A cs ad dm σ Lx cap mk ev zl tx mt tn tc w0 n tq hC (nI k) hn40 hL hlo hfl) cwx rfl hC.1 rfl rfl rfl rfl hroom d hf (fun E ce q9 hp _ _ => absurd (mg_in hk (by omega)) hp.2) (fun v9 ad1 dm1 w1 h9 => ?_)
  obtain ⟨-, rfl, rfl, rfl, rfl⟩ := h9
  subst hv
  refine g_st (st1 := .int (σ 23 k) :: rest) (by rw [ix_nI (show k < 2 ^ 31 by omega)]; rfl) ?_
  exact kk
set_option maxHeartbeats 4000000 in
set_option maxRecDepth 100000 in
theorem lq_delivered (F : FX p s m args c cc nL Ts own D A (tysG cs)) (hC : CD dm n cap tq) (hn40 : n ≤ 40) (hL : Lx 0 = List.range n) (hlo : LO n Lx cap) (hfl : l.stackTraces = false) {k : Nat} (hk : k < n) {v : Int32} (hv : σ 24 k = v) {index : Nat} (cwx : CallW R s args own RX5 index yX5_delivered cX5_delivered 2 (some .int) wsX5_delivered ({ frames := 7, cells := 1, slots := 6, locals := 111 }) 1 6 1) (hroom : (rest.map fun v => v.category).sum ≤ 8) (d : decode cc pc = .ok (.invokevirtual index, 3)) (hf : cells + 1 ≤ R.cells ∧ slots + 6 ≤ R.slots)
    (kk : GG p l e R s m args below meth c D A ad dm nL (cells + 1) (slots + 6) Q (cw D ad cs σ Lx cap mk ev zl tx mt tn tc w0) (pc + 3) lv (.int v :: rest)) : GG p l e R s m args below meth c D A ad dm nL cells slots Q (cw D ad cs σ Lx cap mk ev zl tx mt tn tc w0) pc lv (.int (nI k) :: .ref (ad 10 0) :: rest) := by
  refine x_callVc F (C := RX5) (k := 10) (i := 0) (ci := 5) (T := TX5) (N := 4) (rest := rest) [.int (nI k)] (cc_delivered l D A cs ad dm σ Lx cap mk ev zl tx mt tn tc w0 n tq hC (nI k) hn40 hL hlo hfl) cwx rfl hC.1 rfl rfl rfl rfl hroom d hf (fun E ce q9 hp _ _ => absurd (mg_in hk (by omega)) hp.2) (fun v9 ad1 dm1 w1 h9 => ?_)
  obtain ⟨-, rfl, rfl, rfl, rfl⟩ := h9
  subst hv
  refine g_st (st1 := .int (σ 24 k) :: rest) (by rw [ix_nI (show k < 2 ^ 31 by omega)]; rfl) ?_
  exact kk
set_option maxHeartbeats 4000000 in
set_option maxRecDepth 100000 in
theorem lq_attempts (F : FX p s m args c cc nL Ts own D A (tysG cs)) (hC : CD dm n cap tq) (hn40 : n ≤ 40) (hL : Lx 0 = List.range n) (hlo : LO n Lx cap) (hfl : l.stackTraces = false) {k : Nat} (hk : k < n) {v : Int32} (hv : σ 25 k = v) {index : Nat} (cwx : CallW R s args own RX5 index yX5_attempts cX5_attempts 2 (some .int) wsX5_attempts ({ frames := 7, cells := 1, slots := 6, locals := 111 }) 1 6 1) (hroom : (rest.map fun v => v.category).sum ≤ 8) (d : decode cc pc = .ok (.invokevirtual index, 3)) (hf : cells + 1 ≤ R.cells ∧ slots + 6 ≤ R.slots)
    (kk : GG p l e R s m args below meth c D A ad dm nL (cells + 1) (slots + 6) Q (cw D ad cs σ Lx cap mk ev zl tx mt tn tc w0) (pc + 3) lv (.int v :: rest)) : GG p l e R s m args below meth c D A ad dm nL cells slots Q (cw D ad cs σ Lx cap mk ev zl tx mt tn tc w0) pc lv (.int (nI k) :: .ref (ad 10 0) :: rest) := by
  refine x_callVc F (C := RX5) (k := 10) (i := 0) (ci := 5) (T := TX5) (N := 4) (rest := rest) [.int (nI k)] (cc_attempts l D A cs ad dm σ Lx cap mk ev zl tx mt tn tc w0 n tq hC (nI k) hn40 hL hlo hfl) cwx rfl hC.1 rfl rfl rfl rfl hroom d hf (fun E ce q9 hp _ _ => absurd (mg_in hk (by omega)) hp.2) (fun v9 ad1 dm1 w1 h9 => ?_)
  obtain ⟨-, rfl, rfl, rfl, rfl⟩ := h9
  subst hv
  refine g_st (st1 := .int (σ 25 k) :: rest) (by rw [ix_nI (show k < 2 ^ 31 by omega)]; rfl) ?_
  exact kk
set_option maxHeartbeats 4000000 in
set_option maxRecDepth 100000 in
theorem lq_due (F : FX p s m args c cc nL Ts own D A (tysG cs)) (hC : CD dm n cap tq) (hn40 : n ≤ 40) (hL : Lx 0 = List.range n) (hlo : LO n Lx cap) (hfl : l.stackTraces = false) {k : Nat} (hk : k < n) (hw : σ 23 k = 0) {v : Int32} (hv : σ 26 k = v) {index : Nat} (cwx : CallW R s args own RX5 index yX5_due cX5_due 2 (some .int) wsX5_due ({ frames := 8, cells := 2, slots := 12, locals := 133 }) 2 12 1) (hroom : (rest.map fun v => v.category).sum ≤ 8) (d : decode cc pc = .ok (.invokevirtual index, 3)) (hf : cells + 2 ≤ R.cells ∧ slots + 12 ≤ R.slots)
    (kk : GG p l e R s m args below meth c D A ad dm nL (cells + 2) (slots + 12) Q (cw D ad cs σ Lx cap mk ev zl tx mt tn tc w0) (pc + 3) lv (.int v :: rest)) : GG p l e R s m args below meth c D A ad dm nL cells slots Q (cw D ad cs σ Lx cap mk ev zl tx mt tn tc w0) pc lv (.int (nI k) :: .ref (ad 10 0) :: rest) := by
  refine x_callVc F (C := RX5) (k := 10) (i := 0) (ci := 5) (T := TX5) (N := 4) (rest := rest) [.int (nI k)] (cc_due l D A cs ad dm σ Lx cap mk ev zl tx mt tn tc w0 n tq hC (nI k) hn40 hL hlo hfl) cwx rfl hC.1 rfl rfl rfl rfl hroom d hf (fun E ce q9 hp _ _ => hp.elim (fun q => absurd (mg_in hk (by omega)) q.2) (fun q => absurd (show σ 23 (ix (nI k)) = 0 by rw [ix_nI (show k < 2 ^ 31 by omega)]; exact hw) q.2.2)) (fun v9 ad1 dm1 w1 h9 => ?_)
  obtain ⟨-, rfl, rfl, rfl, rfl⟩ := h9
  subst hv
  refine g_st (st1 := .int (σ 26 k) :: rest) (by rw [ix_nI (show k < 2 ^ 31 by omega)]; rfl) ?_
  exact kk
set_option maxHeartbeats 4000000 in
set_option maxRecDepth 100000 in
theorem lq_parts (F : FX p s m args c cc nL Ts own D A (tysG cs)) (hC : CD dm n cap tq) (hn40 : n ≤ 40) (hL : Lx 0 = List.range n) (hlo : LO n Lx cap) (hfl : l.stackTraces = false) (hmt : ∀ j, j < n → mt j < tq ∧ tn (mt j) ≤ 8) {k : Nat} (hk : k < n) {v : Int32} (hv : nI (tn (mt k)) = v) {index : Nat} (cwx : CallW R s args own RX5 index yX5_parts cX5_parts 2 (some .int) wsX5_parts ({ frames := 7, cells := 1, slots := 6, locals := 111 }) 1 6 1) (hroom : (rest.map fun v => v.category).sum ≤ 8) (d : decode cc pc = .ok (.invokevirtual index, 3)) (hf : cells + 1 ≤ R.cells ∧ slots + 6 ≤ R.slots)
    (kk : GG p l e R s m args below meth c D A ad dm nL (cells + 1) (slots + 6) Q (cw D ad cs σ Lx cap mk ev zl tx mt tn tc w0) (pc + 3) lv (.int v :: rest)) : GG p l e R s m args below meth c D A ad dm nL cells slots Q (cw D ad cs σ Lx cap mk ev zl tx mt tn tc w0) pc lv (.int (nI k) :: .ref (ad 10 0) :: rest) := by
  refine x_callVc F (C := RX5) (k := 10) (i := 0) (ci := 5) (T := TX5) (N := 4) (rest := rest) [.int (nI k)] (cc_parts l D A cs ad dm σ Lx cap mk ev zl tx mt tn tc w0 n tq hC (nI k) hn40 hL hlo hmt hfl) cwx rfl hC.1 rfl rfl rfl rfl hroom d hf (fun E ce q9 hp _ _ => absurd (mg_in hk (by omega)) hp.2) (fun v9 ad1 dm1 w1 h9 => ?_)
  obtain ⟨-, rfl, rfl, rfl, rfl⟩ := h9
  subst hv
  refine g_st (st1 := .int (nI (tn (mt k))) :: rest) (by rw [ix_nI (show k < 2 ^ 31 by omega)]; rfl) ?_
  exact kk
set_option maxHeartbeats 4000000 in
set_option maxRecDepth 100000 in
theorem lq_lettersIn (F : FX p s m args c cc nL Ts own D A (tysG cs)) (hC : CD dm n cap tq) (hn40 : n ≤ 40) (hL : Lx 0 = List.range n) (hlo : LO n Lx cap) (hfl : l.stackTraces = false) (hmt : ∀ j, j < n → mt j < tq ∧ tn (mt j) ≤ 8) {k j : Nat} (hk : k < n) (hj : j < tn (mt k)) {v : Int32} (hv : tc (mt k) j = v) {index : Nat} (cwx : CallW R s args own RX5 index yX5_lettersIn cX5_lettersIn 4 (some .int) wsX5_lettersIn ({ frames := 7, cells := 2, slots := 12, locals := 111 }) 2 12 2) (hroom : (rest.map fun v => v.category).sum ≤ 8) (d : decode cc pc = .ok (.invokevirtual index, 3)) (hf : cells + 2 ≤ R.cells ∧ slots + 12 ≤ R.slots)
    (kk : GG p l e R s m args below meth c D A ad dm nL (cells + 2) (slots + 12) Q (cw D ad cs σ Lx cap mk ev zl tx mt tn tc w0) (pc + 3) lv (.int v :: rest)) : GG p l e R s m args below meth c D A ad dm nL cells slots Q (cw D ad cs σ Lx cap mk ev zl tx mt tn tc w0) pc lv (.int (nI j) :: .int (nI k) :: .ref (ad 10 0) :: rest) := by
  refine x_callVc F (C := RX5) (k := 10) (i := 0) (ci := 5) (T := TX5) (N := 4) (rest := rest) [.int (nI k), .int (nI j)] (cc_lettersIn l D A cs ad dm σ Lx cap mk ev zl tx mt tn tc w0 n tq hC (nI k) (nI j) hn40 hL hlo hmt hfl) cwx rfl hC.1 rfl rfl rfl rfl hroom d hf (fun E ce q9 hp _ _ => absurd (show inR (nI k) 0 (nI n - 1) ∧ inR (nI j) 0 (nI (tn (mt (ix (nI k)))) - 1) from ⟨(mg_in hk (by omega)), by rw [ix_nI (show k < 2 ^ 31 by omega)]; exact mg_in hj (by have := (hmt k hk).2; omega)⟩) hp.2) (fun v9 ad1 dm1 w1 h9 => ?_)
  obtain ⟨-, rfl, rfl, rfl, rfl⟩ := h9
  subst hv
  refine g_st (st1 := .int (tc (mt k) j) :: rest) (by have h8 := (hmt k hk).2; rw [ix_nI (show k < 2 ^ 31 by omega), ix_nI (show j < 2 ^ 31 by omega)]; rfl) ?_
  exact kk
set_option maxHeartbeats 4000000 in
set_option maxRecDepth 100000 in
theorem lq_stateByLog (F : FX p s m args c cc nL Ts own D A (tysG cs)) (hC : CD dm n cap tq) (hn40 : n ≤ 40) (hL : Lx 0 = List.range n) (hlo : LO n Lx cap) (hfl : l.stackTraces = false) (hmt : ∀ j, j < n → mt j < tq ∧ tn (mt j) ≤ 8) (hlg : ∀ j, j < n → zl j ≤ elen σ j ∧ elen σ j ≤ 1000) {k : Nat} (hk : k < n) {v : Int32} (hv : (if (lgA (ev k) (zl k)) < nI (tn (mt k)) then (lgT (ev k) (zl k)) else 1) = v) {index : Nat} (cwx : CallW R s args own RX5 index yX5_stateByLog cX5_stateByLog 3 (some .int) wsX5_stateByLog ({ frames := 7, cells := 1, slots := 6, locals := 111 }) 1 6 1) (hroom : (rest.map fun v => v.category).sum ≤ 8) (d : decode cc pc = .ok (.invokevirtual index, 3)) (hf : cells + 1 ≤ R.cells ∧ slots + 6 ≤ R.slots)
    (kk : GG p l e R s m args below meth c D A ad dm nL (cells + 1) (slots + 6) Q (cw D ad cs σ Lx cap mk ev zl tx mt tn tc w0) (pc + 3) lv (.int v :: rest)) : GG p l e R s m args below meth c D A ad dm nL cells slots Q (cw D ad cs σ Lx cap mk ev zl tx mt tn tc w0) pc lv (.int (nI k) :: .ref (ad 10 0) :: rest) := by
  refine x_callVc F (C := RX5) (k := 10) (i := 0) (ci := 5) (T := TX5) (N := 4) (rest := rest) [.int (nI k)] (cc_stateByLog l D A cs ad dm σ Lx cap mk ev zl tx mt tn tc w0 n tq hC (nI k) hn40 hL hlo hmt hlg hfl) cwx rfl hC.1 rfl rfl rfl rfl hroom d hf (fun E ce q9 hp _ _ => absurd (mg_in hk (by omega)) hp.2) (fun v9 ad1 dm1 w1 h9 => ?_)
  obtain ⟨-, rfl, rfl, rfl, rfl⟩ := h9
  subst hv
  refine g_st (st1 := .int ((if (lgA (ev k) (zl k)) < nI (tn (mt k)) then (lgT (ev k) (zl k)) else 1)) :: rest) (by rw [ix_nI (show k < 2 ^ 31 by omega)]; rfl) ?_
  exact kk
set_option maxHeartbeats 4000000 in
set_option maxRecDepth 100000 in
theorem lq_inRoom (F : FX p s m args c cc nL Ts own D A (tysG cs)) (hC : CD dm n cap tq) (hn40 : n ≤ 40) (hL : Lx 0 = List.range n) (hlo : LO n Lx cap) (hfl : l.stackTraces = false) {r : Nat} (hr6 : r < 6) {v : Int32} (hv : σ 30 r = v) {index : Nat} (cwx : CallW R s args own RX5 index yX5_inRoom cX5_inRoom 2 (some .int) wsX5_inRoom ({ frames := 7, cells := 1, slots := 6, locals := 111 }) 1 6 1) (hroom : (rest.map fun v => v.category).sum ≤ 8) (d : decode cc pc = .ok (.invokevirtual index, 3)) (hf : cells + 1 ≤ R.cells ∧ slots + 6 ≤ R.slots)
    (kk : GG p l e R s m args below meth c D A ad dm nL (cells + 1) (slots + 6) Q (cw D ad cs σ Lx cap mk ev zl tx mt tn tc w0) (pc + 3) lv (.int v :: rest)) : GG p l e R s m args below meth c D A ad dm nL cells slots Q (cw D ad cs σ Lx cap mk ev zl tx mt tn tc w0) pc lv (.int (nI r) :: .ref (ad 10 0) :: rest) := by
  refine x_callVc F (C := RX5) (k := 10) (i := 0) (ci := 5) (T := TX5) (N := 4) (rest := rest) [.int (nI r)] (cc_inRoom l D A cs ad dm σ Lx cap mk ev zl tx mt tn tc w0 n tq hC (nI r) hfl) cwx rfl hC.1 rfl rfl rfl rfl hroom d hf (fun E ce q9 hp _ _ => absurd (rc_in hr6) hp.2) (fun v9 ad1 dm1 w1 h9 => ?_)
  obtain ⟨-, rfl, rfl, rfl, rfl⟩ := h9
  subst hv
  refine g_st (st1 := .int (σ 30 r) :: rest) (by rw [ix_nI (show r < 2 ^ 31 by omega)]; rfl) ?_
  exact kk
set_option maxHeartbeats 4000000 in
set_option maxRecDepth 100000 in
theorem lq_marks (F : FX p s m args c cc nL Ts own D A (tysG cs)) (hC : CD dm n cap tq) (hn40 : n ≤ 40) (hL : Lx 0 = List.range n) (hlo : LO n Lx cap) (hfl : l.stackTraces = false) {r : Nat} (hr6 : r < 6) {v : Int32} (hv : σ 31 r = v) {index : Nat} (cwx : CallW R s args own RX5 index yX5_marks cX5_marks 2 (some .int) wsX5_marks ({ frames := 7, cells := 1, slots := 6, locals := 111 }) 1 6 1) (hroom : (rest.map fun v => v.category).sum ≤ 8) (d : decode cc pc = .ok (.invokevirtual index, 3)) (hf : cells + 1 ≤ R.cells ∧ slots + 6 ≤ R.slots)
    (kk : GG p l e R s m args below meth c D A ad dm nL (cells + 1) (slots + 6) Q (cw D ad cs σ Lx cap mk ev zl tx mt tn tc w0) (pc + 3) lv (.int v :: rest)) : GG p l e R s m args below meth c D A ad dm nL cells slots Q (cw D ad cs σ Lx cap mk ev zl tx mt tn tc w0) pc lv (.int (nI r) :: .ref (ad 10 0) :: rest) := by
  refine x_callVc F (C := RX5) (k := 10) (i := 0) (ci := 5) (T := TX5) (N := 4) (rest := rest) [.int (nI r)] (cc_marks l D A cs ad dm σ Lx cap mk ev zl tx mt tn tc w0 n tq hC (nI r) hfl) cwx rfl hC.1 rfl rfl rfl rfl hroom d hf (fun E ce q9 hp _ _ => absurd (rc_in hr6) hp.2) (fun v9 ad1 dm1 w1 h9 => ?_)
  obtain ⟨-, rfl, rfl, rfl, rfl⟩ := h9
  subst hv
  refine g_st (st1 := .int (σ 31 r) :: rest) (by rw [ix_nI (show r < 2 ^ 31 by omega)]; rfl) ?_
  exact kk
set_option maxHeartbeats 4000000 in
set_option maxRecDepth 100000 in
theorem lq_waiting (F : FX p s m args c cc nL Ts own D A (tysG cs)) (hC : CD dm n cap tq) (hn40 : n ≤ 40) (hL : Lx 0 = List.range n) (hlo : LO n Lx cap) (hfl : l.stackTraces = false) {r : Nat} (hr6 : r < 6) {v : Int32} (hv : nI ((Lx (5 + r)).length) = v) {index : Nat} (cwx : CallW R s args own RX5 index yX5_waiting cX5_waiting 2 (some .int) wsX5_waiting ({ frames := 7, cells := 1, slots := 6, locals := 111 }) 1 6 1) (hroom : (rest.map fun v => v.category).sum ≤ 8) (d : decode cc pc = .ok (.invokevirtual index, 3)) (hf : cells + 1 ≤ R.cells ∧ slots + 6 ≤ R.slots)
    (kk : GG p l e R s m args below meth c D A ad dm nL (cells + 1) (slots + 6) Q (cw D ad cs σ Lx cap mk ev zl tx mt tn tc w0) (pc + 3) lv (.int v :: rest)) : GG p l e R s m args below meth c D A ad dm nL cells slots Q (cw D ad cs σ Lx cap mk ev zl tx mt tn tc w0) pc lv (.int (nI r) :: .ref (ad 10 0) :: rest) := by
  refine x_callVc F (C := RX5) (k := 10) (i := 0) (ci := 5) (T := TX5) (N := 4) (rest := rest) [.int (nI r)] (cc_waiting l D A cs ad dm σ Lx cap mk ev zl tx mt tn tc w0 n tq hC (nI r) hfl) cwx rfl hC.1 rfl rfl rfl rfl hroom d hf (fun E ce q9 hp _ _ => absurd (rc_in hr6) hp.2) (fun v9 ad1 dm1 w1 h9 => ?_)
  obtain ⟨-, rfl, rfl, rfl, rfl⟩ := h9
  subst hv
  refine g_st (st1 := .int (nI ((Lx (5 + r)).length)) :: rest) (by rw [ix_nI (show r < 2 ^ 31 by omega)]; rfl) ?_
  exact kk
set_option maxHeartbeats 4000000 in
set_option maxRecDepth 100000 in
theorem lq_next (F : FX p s m args c cc nL Ts own D A (tysG cs)) (hC : CD dm n cap tq) (hn40 : n ≤ 40) (hL : Lx 0 = List.range n) (hlo : LO n Lx cap) (hfl : l.stackTraces = false) {r : Nat} (hr6 : r < 6) {v : Int32} (hv : ovN (frL σ 2147483647 (Lx (5 + r))) = v) {index : Nat} (cwx : CallW R s args own RX5 index yX5_next cX5_next 3 (some .int) wsX5_next ({ frames := 7, cells := 1, slots := 6, locals := 111 }) 1 6 1) (hroom : (rest.map fun v => v.category).sum ≤ 8) (d : decode cc pc = .ok (.invokevirtual index, 3)) (hf : cells + 1 ≤ R.cells ∧ slots + 6 ≤ R.slots)
    (kk : GG p l e R s m args below meth c D A ad dm nL (cells + 1) (slots + 6) Q (cw D ad cs σ Lx cap mk ev zl tx mt tn tc w0) (pc + 3) lv (.int v :: rest)) : GG p l e R s m args below meth c D A ad dm nL cells slots Q (cw D ad cs σ Lx cap mk ev zl tx mt tn tc w0) pc lv (.int (nI r) :: .ref (ad 10 0) :: rest) := by
  refine x_callVc F (C := RX5) (k := 10) (i := 0) (ci := 5) (T := TX5) (N := 4) (rest := rest) [.int (nI r)] (cc_next l D A cs ad dm σ Lx cap mk ev zl tx mt tn tc w0 n tq hC (nI r) hlo hfl) cwx rfl hC.1 rfl rfl rfl rfl hroom d hf (fun E ce q9 hp _ _ => absurd (rc_in hr6) hp.2) (fun v9 ad1 dm1 w1 h9 => ?_)
  obtain ⟨-, rfl, rfl, rfl, rfl⟩ := h9
  subst hv
  refine g_st (st1 := .int (ovN (frL σ 2147483647 (Lx (5 + r)))) :: rest) (by rw [ix_nI (show r < 2 ^ 31 by omega)]; rfl) ?_
  exact kk
set_option maxHeartbeats 4000000 in
set_option maxRecDepth 100000 in
theorem lq_receipts (F : FX p s m args c cc nL Ts own D A (tysG cs)) (hC : CD dm n cap tq) (hn40 : n ≤ 40) (hL : Lx 0 = List.range n) (hlo : LO n Lx cap) (hfl : l.stackTraces = false) {r : Nat} (hr4 : r < 4) {v : Int32} (hv : nI ((Lx (1 + r)).length) = v) {index : Nat} (cwx : CallW R s args own RX5 index yX5_receipts cX5_receipts 2 (some .int) wsX5_receipts ({ frames := 7, cells := 1, slots := 6, locals := 111 }) 1 6 1) (hroom : (rest.map fun v => v.category).sum ≤ 8) (d : decode cc pc = .ok (.invokevirtual index, 3)) (hf : cells + 1 ≤ R.cells ∧ slots + 6 ≤ R.slots)
    (kk : GG p l e R s m args below meth c D A ad dm nL (cells + 1) (slots + 6) Q (cw D ad cs σ Lx cap mk ev zl tx mt tn tc w0) (pc + 3) lv (.int v :: rest)) : GG p l e R s m args below meth c D A ad dm nL cells slots Q (cw D ad cs σ Lx cap mk ev zl tx mt tn tc w0) pc lv (.int (nI r) :: .ref (ad 10 0) :: rest) := by
  refine x_callVc F (C := RX5) (k := 10) (i := 0) (ci := 5) (T := TX5) (N := 4) (rest := rest) [.int (nI r)] (cc_receipts l D A cs ad dm σ Lx cap mk ev zl tx mt tn tc w0 n tq hC (nI r) hfl) cwx rfl hC.1 rfl rfl rfl rfl hroom d hf (fun E ce q9 hp _ _ => absurd (ac_in hr4) hp.2) (fun v9 ad1 dm1 w1 h9 => ?_)
  obtain ⟨-, rfl, rfl, rfl, rfl⟩ := h9
  subst hv
  refine g_st (st1 := .int (nI ((Lx (1 + r)).length)) :: rest) (by rw [ix_nI (show r < 2 ^ 31 by omega)]; rfl) ?_
  exact kk
set_option maxHeartbeats 4000000 in
set_option maxRecDepth 100000 in
theorem lq_messages (F : FX p s m args c cc nL Ts own D A (tysG cs)) (hC : CD dm n cap tq) (hn40 : n ≤ 40) (hL : Lx 0 = List.range n) (hlo : LO n Lx cap) (hfl : l.stackTraces = false)  {v : Int32} (hv : nI n = v) {index : Nat} (cwx : CallW R s args own RX5 index yX5_messages cX5_messages 1 (some .int) wsX5_messages ({ frames := 1, cells := 0, slots := 0, locals := 20 }) 0 0 0) (hroom : (rest.map fun v => v.category).sum ≤ 8) (d : decode cc pc = .ok (.invokevirtual index, 3)) (hf : cells + 0 ≤ R.cells ∧ slots + 0 ≤ R.slots)
    (kk : GG p l e R s m args below meth c D A ad dm nL (cells + 0) (slots + 0) Q (cw D ad cs σ Lx cap mk ev zl tx mt tn tc w0) (pc + 3) lv (.int v :: rest)) : GG p l e R s m args below meth c D A ad dm nL cells slots Q (cw D ad cs σ Lx cap mk ev zl tx mt tn tc w0) pc lv (.ref (ad 10 0) :: rest) := by
  refine q_callV F (C := RX5) (k := 10) (i := 0) (ci := 5) (T := TX5) (N := 4) (rest := rest) [] (cc_messages l D A cs ad dm σ Lx cap mk ev zl tx mt tn tc w0 n tq hC hn40 hL hlo) cwx rfl hC.1 rfl rfl rfl rfl hroom d hf (fun v9 ad1 dm1 w1 h9 => ?_)
  obtain ⟨rfl, rfl, rfl, rfl⟩ := h9
  subst hv
  refine g_st (st1 := .int (nI n) :: rest) rfl ?_
  exact kk
set_option maxHeartbeats 4000000 in
set_option maxRecDepth 100000 in
theorem lq_now (F : FX p s m args c cc nL Ts own D A (tysG cs)) (hC : CD dm n cap tq) (hn40 : n ≤ 40) (hL : Lx 0 = List.range n) (hlo : LO n Lx cap) (hfl : l.stackTraces = false)  {v : Int32} (hv : σ 0 0 = v) {index : Nat} (cwx : CallW R s args own RX5 index yX5_now cX5_now 1 (some .int) wsX5_now ({ frames := 0, cells := 0, slots := 0, locals := 0 }) 0 0 0) (hroom : (rest.map fun v => v.category).sum ≤ 8) (d : decode cc pc = .ok (.invokevirtual index, 3)) (hf : cells + 0 ≤ R.cells ∧ slots + 0 ≤ R.slots)
    (kk : GG p l e R s m args below meth c D A ad dm nL (cells + 0) (slots + 0) Q (cw D ad cs σ Lx cap mk ev zl tx mt tn tc w0) (pc + 3) lv (.int v :: rest)) : GG p l e R s m args below meth c D A ad dm nL cells slots Q (cw D ad cs σ Lx cap mk ev zl tx mt tn tc w0) pc lv (.ref (ad 10 0) :: rest) := by
  refine q_callV F (C := RX5) (k := 10) (i := 0) (ci := 5) (T := TX5) (N := 4) (rest := rest) [] (cc_now l D A cs ad dm σ Lx cap mk ev zl tx mt tn tc w0 n tq hC ) cwx rfl hC.1 rfl rfl rfl rfl hroom d hf (fun v9 ad1 dm1 w1 h9 => ?_)
  obtain ⟨rfl, rfl, rfl, rfl⟩ := h9
  subst hv
  refine g_st (st1 := .int (σ 0 0) :: rest) rfl ?_
  exact kk
set_option maxHeartbeats 4000000 in
set_option maxRecDepth 100000 in
theorem lq_share (F : FX p s m args c cc nL Ts own D A (tysG cs)) (hC : CD dm n cap tq) (hn40 : n ≤ 40) (hL : Lx 0 = List.range n) (hlo : LO n Lx cap) (hfl : l.stackTraces = false)  {v : UInt32} (hv : shV (dvN σ n) (edN σ n) = v) {index : Nat} (cwx : CallW R s args own RX5 index yX5_share cX5_share 5 (some .float) wsX5_share ({ frames := 3, cells := 0, slots := 0, locals := 64 }) 0 0 0) (hroom : (rest.map fun v => v.category).sum ≤ 8) (d : decode cc pc = .ok (.invokevirtual index, 3)) (hf : cells + 0 ≤ R.cells ∧ slots + 0 ≤ R.slots)
    (kk : GG p l e R s m args below meth c D A ad dm nL (cells + 0) (slots + 0) Q (cw D ad cs σ Lx cap mk ev zl tx mt tn tc w0) (pc + 3) lv (.float v :: rest)) : GG p l e R s m args below meth c D A ad dm nL cells slots Q (cw D ad cs σ Lx cap mk ev zl tx mt tn tc w0) pc lv (.ref (ad 10 0) :: rest) := by
  refine q_callV F (C := RX5) (k := 10) (i := 0) (ci := 5) (T := TX5) (N := 4) (rest := rest) [] (cc_share l D A cs ad dm σ Lx cap mk ev zl tx mt tn tc w0 n tq hC hn40 hL hlo) cwx rfl hC.1 rfl rfl rfl rfl hroom d hf (fun v9 ad1 dm1 w1 h9 => ?_)
  obtain ⟨rfl, rfl, rfl, rfl⟩ := h9
  subst hv
  refine g_st (st1 := .float (shV (dvN σ n) (edN σ n)) :: rest) rfl ?_
  exact kk
set_option maxHeartbeats 4000000 in
set_option maxRecDepth 100000 in
theorem lq_asks (F : FX p s m args c cc nL Ts own D A tys) {rm : Room} {mc ms index : Nat} {wt x y v : Int32} (hM : Met l yL_asks wsL_asks rm (va_Pc [.ref (ad 10 0), .int wt, .int x, .int y] (PW D A tys ad dm w)) (QW D A tys (fun rz ad1 dm1 w1 => rz = some (.int v) ∧ ad = ad1 ∧ dm = dm1 ∧ w = w1)) mc ms A) (cwx : vx_CSW R s args own index yL_asks cL_asks 5 (some .int) [(0, 153, 154, 52), (0, 153, 159, 56)] wsL_asks rm mc ms 4) (hroom : (rest.map fun v => v.category).sum ≤ 8) (d : decode cc pc = .ok (.invokestatic index, 3)) (hf : cells + mc ≤ R.cells ∧ slots + ms ≤ R.slots)
    (kk : GG p l e R s m args below meth c D A ad dm nL (cells + mc) (slots + ms) Q w (pc + 3) lv (.int v :: rest)) : GG p l e R s m args below meth c D A ad dm nL cells slots Q w pc lv (.int y :: .int x :: .int wt :: .ref (ad 10 0) :: rest) := by
  refine q_callSW F (rest := rest) [.ref (ad 10 0), .int wt, .int x, .int y] hM cwx rfl rfl hroom d hf (fun v9 ad1 dm1 w1 h9 => ?_)
  obtain ⟨rfl, rfl, rfl, rfl⟩ := h9
  exact kk
end LWQ
