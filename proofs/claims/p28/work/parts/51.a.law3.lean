section LW17
variable {p : Program} {l : Launch} {e : Env} {R : Room} {s : State} {m : MethodId} {args : Array Value} {below : List Frame} {meth : Method} {c : Code} {cells slots : Nat} {Q : State → Prop} {cc : ByteArray} {nL : Nat} {Ts : List Cond} {own : String} {D : va_G} {A : Nat → Prop} {tys : List (ClassId × FieldType)} {ad : Nat → Nat → Nat} {dm : Nat → Nat → Prop} {w : CF} {pc : Nat} {lv : List (Nat × Value)} {rest : List Value}
theorem g_lcmpE (F : FX p s m args c cc nL Ts own D A tys) {x : Int64} (d : decode cc pc = .ok (.lcmp, 1)) (kk : GG p l e R s m args below meth c D A ad dm nL cells slots Q w (pc + 1) lv (.int 0 :: rest)) : GG p l e R s m args below meth c D A ad dm nL cells slots Q w pc lv (.long x :: .long x :: rest) := by
  intro H locs ls hw hS hl T hT X
  have hexec := F.1.1
  have hb := F.1.2.1
  obtain ⟨t, a, b⟩ := kk H locs ls hw hS hl T hT X
  refine ⟨t, ?_, b⟩
  jvm_step X.here [X.here.top, hexec, hb, d]
  have h1 : ¬ x > x := Int64.lt_irrefl
  simpa [h1] using a
theorem g_f2d (F : FX p s m args c cc nL Ts own D A tys) {x : UInt32} (d : decode cc pc = .ok (.f2d, 1)) (hne : vf_n64 (FP.f2d x)) (kk : GG p l e R s m args below meth c D A ad dm nL cells slots Q w (pc + 1) lv (.double (FP.f2d x) :: rest)) : GG p l e R s m args below meth c D A ad dm nL cells slots Q w pc lv (.float x :: rest) := fun H locs ls hw hS hl => lv_f2d F.1.1 F.1.2.1 d hne (kk H locs ls hw hS hl)
theorem g_dcmp (F : FX p s m args c cc nL Ts own D A tys) {x y : UInt64} {op : CmpOp} (d : decode cc pc = .ok (.dcmp op, 1)) (kk : GG p l e R s m args below meth c D A ad dm nL cells slots Q w (pc + 1) lv (.int (Op.cmpValue (FP.dcmp x y) op) :: rest)) : GG p l e R s m args below meth c D A ad dm nL cells slots Q w pc lv (.double y :: .double x :: rest) := fun H locs ls hw hS hl => lv_dcmp F.1.1 F.1.2.1 d (kk H locs ls hw hS hl)
theorem la_arg (F : FX p s m args c cc nL Ts own D A tys) {b L i j jb ji : Nat} {xs : Nat → Int32} {z : Int} {v : Int32} (hX : va_X b L xs s s.heap) (hbl : b < s.heap.size) (hbA : ¬ A b) (h0 : lv[jb]? = some (0, .ref b)) (h4 : lv[ji]? = some (4, .int (nI i))) (hL : L ≤ 2560) (hij : i + j < L) (hz : Int32.ofInt z = v) (hv : v = nI j) (d1 : decode cc pc = .ok (.aload_n 0, 1)) (d2 : decode cc (pc + 1) = .ok (.iload 4, 2)) (d3 : decode cc (pc + 3) = .ok (.iconst z, 1)) (d4 : decode cc (pc + 4) = .ok (.iadd, 1)) (d5 : decode cc (pc + 5) = .ok (.iaload, 1))
    (kk : GG p l e R s m args below meth c D A ad dm nL cells slots Q w (pc + 6) lv (.int (xs (i + j)) :: rest)) : GG p l e R s m args below meth c D A ad dm nL cells slots Q w pc lv rest := by
  refine g_aload_n F jb d1 rfl h0 ?_
  refine g_iload F ji d2 h4 ?_
  refine g_iconst F d3 hz ?_
  refine g_iadd F d4 ?_
  refine g_top (y := nI (i + j)) (by rw [hv, nI_add]) ?_
  intro H locs ls hw hS hl
  refine va_sld F.1.1 F.1.2.1 hX hbl hbA hS (vp_in_nI hij (by omega)) d5 ?_
  rw [nI_clamp (by omega)]
  exact kk H locs ls hw hS hl
theorem la_arg0 (F : FX p s m args c cc nL Ts own D A tys) {b L i jb ji : Nat} {xs : Nat → Int32} (hX : va_X b L xs s s.heap) (hbl : b < s.heap.size) (hbA : ¬ A b) (h0 : lv[jb]? = some (0, .ref b)) (h4 : lv[ji]? = some (4, .int (nI i))) (hL : L ≤ 2560) (hij : i < L) (d1 : decode cc pc = .ok (.aload_n 0, 1)) (d2 : decode cc (pc + 1) = .ok (.iload 4, 2)) (d5 : decode cc (pc + 3) = .ok (.iaload, 1))
    (kk : GG p l e R s m args below meth c D A ad dm nL cells slots Q w (pc + 4) lv (.int (xs i) :: rest)) : GG p l e R s m args below meth c D A ad dm nL cells slots Q w pc lv rest := by
  refine g_aload_n F jb d1 rfl h0 ?_
  refine g_iload F ji d2 h4 ?_
  intro H locs ls hw hS hl
  refine va_sld F.1.1 F.1.2.1 hX hbl hbA hS (vp_in_nI hij (by omega)) d5 ?_
  rw [nI_clamp (by omega)]
  exact kk H locs ls hw hS hl
theorem la_bool (F : FX p s m args c cc nL Ts own D A tys) {x : Int32} (d1 : decode cc pc = .ok (.ifCond .eq 7, 3)) (d2 : decode cc (pc + 3) = .ok (.iconst 1, 1)) (d3 : decode cc (pc + 4) = .ok (.goto 4, 3)) (d4 : decode cc (pc + 7) = .ok (.iconst 0, 1))
    (kk : GG p l e R s m args below meth c D A ad dm nL cells slots Q w (pc + 8) lv (.int (bi (¬ x = 0)) :: rest)) : GG p l e R s m args below meth c D A ad dm nL cells slots Q w pc lv (.int x :: rest) := by
  refine g_if_eq F (tgt := pc + 7) d1 (by omega) (fun h => ?_) (fun h => ?_)
  · refine g_iconst F d4 (v := 0) (by decide) ?_
    exact g_top (bi_f (fun q => q h)) kk
  · refine g_iconst F d2 (v := 1) (by decide) ?_
    refine g_goto F (tgt := pc + 8) d3 (by omega) ?_
    exact g_top (bi_t h) kk
end LW17
theorem mw_cw (D : va_G) (ad ae : Nat → Nat → Nat) (cs : Nat → ClassId) (σ τ : SG) (Lx : Nat → List Nat) (cap : Nat → Nat) (mk : Nat → Int32) (ev : SG) (zl tx mt tn : Nat → Nat) (tc : SG) (w0 : CF) (had : ∀ f, ae 1 f = ad 1 f) : cw D ae cs τ Lx cap mk ev zl tx mt tn tc (mw ad cs σ w0) = mw ae cs σ (cw D ae cs τ Lx cap mk ev zl tx mt tn tc w0) := by
  have e : mfs ad σ = mfs ae σ := by unfold mfs; simp only [had]
  funext k i
  rcases Nat.lt_or_ge k 2 with hk | hk
  · rw [cw_lo (show k < 10 by omega)]
    unfold mw
    rw [e]
    rcases (show k = 0 ∨ k = 1 by omega) with rfl | rfl
    · by_cases h : i = 0
      · rw [if_pos ⟨rfl, h⟩, if_pos ⟨rfl, h⟩]
      · rw [if_neg (fun q => h q.2), if_neg (by decide), if_neg (fun q => h q.2), if_neg (by decide), cw_lo (by decide)]
    · rfl
  · rw [mw_rest ae cs σ _ hk]
    unfold cw
    rw [mw_rest ad cs σ w0 hk]
theorem mw_up (ad : Nat → Nat → Nat) (cs : Nat → ClassId) (σ : SG) (w0 : CF) {k : Nat} (hk : 2 ≤ k) (i : Nat) (v : va_E) : up2 (mw ad cs σ w0) k i v = mw ad cs σ (up2 w0 k i v) := by
  funext a b
  rcases Nat.lt_or_ge a 2 with ha | ha
  · rw [up2_ne _ _ (fun q => absurd q.1 (by omega))]
    unfold mw
    rcases (show a = 0 ∨ a = 1 by omega) with rfl | rfl
    · rw [up2_ne _ _ (fun q => absurd q.1 (by omega))]
    · rfl
  · rw [mw_rest ad cs σ _ ha]
    by_cases h : a = k ∧ b = i
    · obtain ⟨rfl, rfl⟩ := h
      rw [up2_self, up2_self]
    · rw [up2_ne _ _ h, up2_ne _ _ h, mw_rest ad cs σ _ ha]
theorem cw_u9 (D : va_G) (ad : Nat → Nat → Nat) (cs : Nat → ClassId) (τ : SG) (Lx : Nat → List Nat) (cap : Nat → Nat) (mk : Nat → Int32) (ev : SG) (zl tx mt tn : Nat → Nat) (tc : SG) (w0 : CF) {k : Nat} (hk : k < 10) (i : Nat) (v : va_E) : up2 (cw D ad cs τ Lx cap mk ev zl tx mt tn tc w0) k i v = cw D ad cs τ Lx cap mk ev zl tx mt tn tc (up2 w0 k i v) := by
  funext a b
  rcases Nat.lt_or_ge a 10 with ha | ha
  · rw [cw_lo ha]
    by_cases h : a = k ∧ b = i
    · obtain ⟨rfl, rfl⟩ := h
      rw [up2_self, up2_self]
    · rw [up2_ne _ _ h, up2_ne _ _ h, cw_lo ha]
  · rw [up2_ne _ _ (fun q => absurd q.1 (by omega))]
    unfold cw
    rw [up2_ne w0 v (fun q => absurd q.1 (by omega))]

