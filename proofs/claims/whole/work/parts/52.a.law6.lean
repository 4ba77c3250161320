theorem r16_ne {α : Type} {f : Nat → Nat → α} {g : Nat → α} {k : Nat} (h : k ≠ 16) (i : Nat) : r16 f g k i = f k i := if_neg h
theorem r16_MD {dm : Nat → Nat → Prop} {d : Nat → Prop} (h : MD dm) : MD (r16 dm d) := ⟨by rw [r16_ne (by decide)]; exact h.1, fun f hf => by rw [r16_ne (by decide)]; exact h.2 f hf⟩
section DB17
variable {p : Program} {l : Launch} {e : Env} {R : Room} {s : State} {m : MethodId} {args : Array Value} {below : List Frame} {meth : Method} {c : Code} {cells slots : Nat} {Q : State → Prop} {cc : ByteArray} {nL : Nat} {Ts : List Cond} {own : String} {D : va_G} {A : Nat → Prop} {tys : List (ClassId × FieldType)} {ad : Nat → Nat → Nat} {dm : Nat → Nat → Prop} {w : CF} {pc : Nat} {lv : List (Nat × Value)} {rest : List Value}
theorem g_dload (F : FX p s m args c cc nL Ts own D A tys) {i : Nat} {x : UInt64} (j : Nat) (d : decode cc pc = .ok (.dload i, 2)) (hj : lv[j]? = some (i, .double x)) (kk : GG p l e R s m args below meth c D A ad dm nL cells slots Q w (pc + 2) lv (.double x :: rest)) : GG p l e R s m args below meth c D A ad dm nL cells slots Q w pc lv rest := fun H locs ls hw hS hl => lv_dload F.1.1 F.1.2.1 d (lv_at hl j hj) (kk H locs ls hw hS hl)
theorem g_dstore (F : FX p s m args c cc nL Ts own D A tys) {i : Nat} {x : UInt64} {lv1 : List (Nat × Value)} (d : decode cc pc = .ok (.dstore i, 2)) (hn : i + 1 < nL) (hv : (i, Value.double x) :: lv.filter (fun q => !(q.1 == i) && (!(q.1 == i + 1) && !(q.1 + 1 == i && q.2.category == 2))) = lv1) (kk : GG p l e R s m args below meth c D A ad dm nL cells slots Q w (pc + 2) lv1 rest) : GG p l e R s m args below meth c D A ad dm nL cells slots Q w pc lv (.double x :: rest) := fun H locs ls hw hS hl => lv_dstore F.1.1 F.1.2.1 d hl hn hv (fun ls' hl' => kk H locs ls' hw hS hl')
end DB17
set_option maxHeartbeats 4000000 in
set_option maxRecDepth 100000 in
theorem la_tail {p : Program} {l : Launch} {e : Env} {s : State} {m : MethodId} {args : Array Value} {below : List Frame} {meth : Method} {c : Code} {cells slots : Nat} {Q : State → Prop} {D : va_G} {A : Nat → Prop} {cs : Nat → ClassId} {ad : Nat → Nat → Nat} {dm : Nat → Nat → Prop} (F : FX p s m args c cL_law 9 wsL_law RL D A (tysG cs)) {n tq t : Nat} {σ : SG} {Lx : Nat → List Nat} {cap : Nat → Nat} {mk : Nat → Int32} {ev : SG} {zl tx mt tn : Nat → Nat} {tc : SG} {w0 : CF} {f9 : Nat → Int64} {b i pc : Nat} {τ : SG} {bb : Int32} {off : Int} {x0 xm xo : Nat} (hM : MD dm) (h2 : dm 2 0) (ha : ad 10 0 = x0 ∧ ad 0 0 = xm ∧ ad 2 0 = xo) (he : w0 2 0 = .inl (cs 2, 1, .inr (.inl f9))) (hcmp : True → τ 32 0 = 0 → f9 0 = bb.toInt64) (hc : cells + 0 ≤ room_1.cells ∧ slots + 0 ≤ room_1.slots) (d0 : decode cL_law pc = .ok (.istore 6, 2)) (d1 : decode cL_law (pc + 2) = .ok (.aload_n 2, 1)) (d2 : decode cL_law (pc + 3) = .ok (.invokevirtual 97, 3)) (d3 : decode cL_law (pc + 6) = .ok (.iload 5, 2)) (d4 : decode cL_law (pc + 8) = .ok (.if_icmp .eq 5, 3)) (d5 : decode cL_law (pc + 13) = .ok (.iload 5, 2)) (d6 : decode cL_law (pc + 15) = .ok (.ifCond .ne 15, 3)) (d7 : decode cL_law (pc + 18) = .ok (.aload_n 3, 1)) (d8 : decode cL_law (pc + 19) = .ok (.iconst 0, 1)) (d9 : decode cL_law (pc + 20) = .ok (.laload, 1)) (d10 : decode cL_law (pc + 21) = .ok (.iload 6, 2)) (d11 : decode cL_law (pc + 23) = .ok (.i2l, 1)) (d12 : decode cL_law (pc + 24) = .ok (.lcmp, 1)) (d13 : decode cL_law (pc + 25) = .ok (.ifCond .eq 5, 3)) (d14 : decode cL_law (pc + 30) = .ok (.goto off, 3)) (ht : ((pc + 30 : Nat) : Int) + off = (1645 : Nat)) (kk : GG p l e room_1 s m args below meth c D A ad dm 9 cells slots Q (mw ad cs τ (cw D ad cs τ Lx cap mk ev zl tx mt tn tc w0)) 1645 [(0, .ref b), (1, .ref x0), (2, .ref xm), (3, .ref xo), (4, .int (nI i))] []) : GG p l e room_1 s m args below meth c D A ad dm 9 cells slots Q (mw ad cs τ (cw D ad cs τ Lx cap mk ev zl tx mt tn tc w0)) pc ((5, .int (τ 32 0)) :: [(0, .ref b), (1, .ref x0), (2, .ref xm), (3, .ref xo), (4, .int (nI i))]) [.int bb] := by
  obtain ⟨rfl, rfl, rfl⟩ := ha
  have heW : (mw ad cs τ (cw D ad cs τ Lx cap mk ev zl tx mt tn tc w0)) 2 0 = .inl (cs 2, 1, .inr (.inl f9)) := (mw_rest ad cs τ _ (by decide) 0).trans ((cw_lo (by decide) 0).trans he)
  have k9 : GG p l e room_1 s m args below meth c D A ad dm 9 cells slots Q (mw ad cs τ (cw D ad cs τ Lx cap mk ev zl tx mt tn tc w0)) (pc + 30) ((6, .int bb) :: (5, .int (τ 32 0)) :: [(0, .ref b), (1, .ref (ad 10 0)), (2, .ref (ad 0 0)), (3, .ref (ad 2 0)), (4, .int (nI i))]) [] := by
    refine g_goto F (tgt := 1645) d14 ht ?_
    exact g_lv [2, 3, 4, 5, 6] rfl kk
  refine g_istore F (lv1 := (6, .int bb) :: (5, .int (τ 32 0)) :: [(0, .ref b), (1, .ref (ad 10 0)), (2, .ref (ad 0 0)), (3, .ref (ad 2 0)), (4, .int (nI i))]) d0 (by decide) rfl ?_
  refine g_aload_n F 4 d1 rfl rfl ?_
  refine g_callVi F (C := RX6) (k := 0) (i := 0) (ci := 6) (T := TX6) (N := 33) (rest := []) [] (mc_thrown l D A cs ad dm (cw D ad cs τ Lx cap mk ev zl tx mt tn tc w0) τ hM) (cwV 0 F.1.2.2.2.2 gL_law_X6_thrown rfl rfl rfl (by decide +kernel) ⟨Nat.le_of_ble_eq_true rfl, Nat.le_of_ble_eq_true rfl⟩) rfl hM.1 rfl rfl rfl rfl (Nat.le_of_ble_eq_true rfl) d2 hc ?_
  refine g_iload F 1 d3 rfl ?_
  refine g_icmp_eq F (tgt := pc + 13) d4 (by omega) (fun _ => ?_) (fun q => absurd rfl q)
  refine g_iload F 1 d5 rfl ?_
  refine g_if_ne F (tgt := pc + 30) d6 (by omega) (fun _ => k9) (fun q0 => ?_)
  refine g_aload_n F 5 d7 rfl rfl ?_
  refine g_iconst F d8 (v := 0) (by decide) ?_
  refine g_lald (k := 2) (i := 0) (n := 1) (f := f9) F 2 h2 heW rfl (show ¬ ((0 : Int32) < 0 ∨ 1 ≤ (0 : Int32).toNatClampNeg) by decide) d9 ?_
  refine g_iload F 0 d10 rfl ?_
  refine g_i2l F d11 ?_
  refine g_st (st1 := [.long bb.toInt64, .long bb.toInt64]) (by rw [← hcmp trivial q0]; rfl) ?_
  refine g_lcmpE F d12 ?_
  exact g_if_eq F (tgt := pc + 30) d13 (by omega) (fun _ => k9) (fun q => absurd rfl q)
set_option maxHeartbeats 4000000 in
set_option maxRecDepth 100000 in
theorem la_tail0 {p : Program} {l : Launch} {e : Env} {s : State} {m : MethodId} {args : Array Value} {below : List Frame} {meth : Method} {c : Code} {cells slots : Nat} {Q : State → Prop} {D : va_G} {A : Nat → Prop} {cs : Nat → ClassId} {ad : Nat → Nat → Nat} {dm : Nat → Nat → Prop} (F : FX p s m args c cL_law 9 wsL_law RL D A (tysG cs)) {n tq t : Nat} {σ : SG} {Lx : Nat → List Nat} {cap : Nat → Nat} {mk : Nat → Int32} {ev : SG} {zl tx mt tn : Nat → Nat} {tc : SG} {w0 : CF} {f9 : Nat → Int64} {b i pc : Nat} {τ : SG} {off : Int} {x0 xm xo : Nat} (hM : MD dm) (h2 : dm 2 0) (ha : ad 10 0 = x0 ∧ ad 0 0 = xm ∧ ad 2 0 = xo) (he : w0 2 0 = .inl (cs 2, 1, .inr (.inl f9))) (hc : cells + 0 ≤ room_1.cells ∧ slots + 0 ≤ room_1.slots) (d1 : decode cL_law pc = .ok (.aload_n 2, 1)) (d2 : decode cL_law (pc + 1) = .ok (.invokevirtual 97, 3)) (d3 : decode cL_law (pc + 4) = .ok (.iload 5, 2)) (d4 : decode cL_law (pc + 6) = .ok (.if_icmp .eq 5, 3)) (d14 : decode cL_law (pc + 11) = .ok (.goto off, 3)) (ht : ((pc + 11 : Nat) : Int) + off = (1645 : Nat)) (kk : GG p l e room_1 s m args below meth c D A ad dm 9 cells slots Q (mw ad cs τ (cw D ad cs τ Lx cap mk ev zl tx mt tn tc w0)) 1645 [(0, .ref b), (1, .ref x0), (2, .ref xm), (3, .ref xo), (4, .int (nI i))] []) : GG p l e room_1 s m args below meth c D A ad dm 9 cells slots Q (mw ad cs τ (cw D ad cs τ Lx cap mk ev zl tx mt tn tc w0)) pc ((5, .int (τ 32 0)) :: [(0, .ref b), (1, .ref x0), (2, .ref xm), (3, .ref xo), (4, .int (nI i))]) [] := by
  obtain ⟨rfl, rfl, rfl⟩ := ha
  refine g_aload_n F 3 d1 rfl rfl ?_
  refine g_callVi F (C := RX6) (k := 0) (i := 0) (ci := 6) (T := TX6) (N := 33) (rest := []) [] (mc_thrown l D A cs ad dm (cw D ad cs τ Lx cap mk ev zl tx mt tn tc w0) τ hM) (cwV 0 F.1.2.2.2.2 gL_law_X6_thrown rfl rfl rfl (by decide +kernel) ⟨Nat.le_of_ble_eq_true rfl, Nat.le_of_ble_eq_true rfl⟩) rfl hM.1 rfl rfl rfl rfl (Nat.le_of_ble_eq_true rfl) d2 hc ?_
  refine g_iload F 0 d3 rfl ?_
  refine g_icmp_eq F (tgt := pc + 11) d4 (by omega) (fun _ => ?_) (fun q => absurd rfl q)
  refine g_goto F (tgt := 1645) d14 ht ?_
  exact g_lv [1, 2, 3, 4, 5] rfl kk
set_option maxHeartbeats 4000000 in
set_option maxRecDepth 100000 in
theorem cc_passN (l : Launch) (D : va_G) (A : Nat → Prop) (cs : Nat → ClassId) (ad : Nat → Nat → Nat) (dm : Nat → Nat → Prop) (σ : SG) (Lx : Nat → List Nat) (cap : Nat → Nat) (mk : Nat → Int32) (ev : SG) (zl tx mt tn : Nat → Nat) (tc : SG) (w0 : CF) (n tq : Nat) (hC : CD dm n cap tq) (u : Int32) (hN : ¬ inR u 1 100) (hfl : l.stackTraces = false) : vx_Met l yX5_pass wsX5_pass ({ frames := 10, cells := 1, slots := 6, locals := 306 }) (va_Pc [.ref (ad 10 0), .int u] (PW D A (tysG cs) ad dm (cw D ad cs σ Lx cap mk ev zl tx mt tn tc w0))) (QW D A (tysG cs) (fun rz ad1 dm1 w1 => False ∧ rz = some (.int 0) ∧ ad = ad1 ∧ dm = dm1 ∧ (cw D ad cs σ Lx cap mk ev zl tx mt tn tc w0) = w1)) (XW D A (tysG cs) ad dm (cw D ad cs σ Lx cap mk ev zl tx mt tn tc w0) (fun E => E = xIA ∧ ¬ inR u 1 100)) 1 6 A := by
  refine q_start (own := RX5) [.ref (ad 10 0), .int u] (cc := cX5_pass) (maxL := 5) (ret := (some .int)) (lv0 := [(0, .ref (ad 10 0)), (1, .int u)]) (by decide) rfl rfl (Nat.le_of_ble_eq_true rfl) rfl ?_
  intro p e s m below meth c F hr hlocks hno
  have hinX5 : ∀ w ∈ wsX50, w ∈ wsX5_pass := by decide +kernel
  refine g_iload_n F 1 dX5_pass_0 rfl rfl ?_
  refine g_iconst F dX5_pass_1 (v := 1) (by decide) ?_
  refine g_bipush F dX5_pass_2 (v := 100) (by decide) ?_
  refine x_callS F (rest := []) [.int u, .int 1, .int 100] (cc_require l D A cs ad dm σ Lx cap mk ev zl tx mt tn tc w0 n tq hC u 1 100 hfl) (va_cwS 3 F.1.2.2.2.2 gX5_pass_X5_requireInRange rfl rfl rfl (by decide +kernel) ⟨Nat.le_of_ble_eq_true rfl, Nat.le_of_ble_eq_true rfl⟩) rfl rfl (Nat.le_of_ble_eq_true rfl) dX5_pass_4 ⟨Nat.le_of_eq (Nat.zero_add _), Nat.le_of_eq (Nat.zero_add _)⟩ (x_prop F hno hlocks (fun E h => h) (Nat.le_of_eq (Nat.zero_add _)) (Nat.le_of_eq (Nat.zero_add _))) (fun _ _ _ _ zv1 => ?_)
  obtain ⟨hc4, rfl, rfl, rfl, rfl⟩ := zv1
  exact absurd hc4 hN
