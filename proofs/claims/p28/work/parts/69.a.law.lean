set_option maxHeartbeats 8000000 in
set_option maxRecDepth 100000 in
theorem law_end {p : Program} {l : Launch} {e : Env} {s : State} {m : MethodId} {args : Array Value} {below : List Frame} {meth : Method} {c : Code} {cells slots : Nat} {Q : State → Prop} {D : va_G} {A : Nat → Prop} {cs : Nat → ClassId} {ad : Nat → Nat → Nat} {dm : Nat → Nat → Prop} (F : FX p s m args c cL_law 11 wsL_law RL D A (tysG cs)) {σ : SG} {Lx : Nat → List Nat} {cap : Nat → Nat} {mk : Nat → Int32} {ev : SG} {zl tx mt tn : Nat → Nat} {tc la : SG} {wz : CF} {n tq t : Nat} {kt rd : Nat → Nat} (hC : CD dm n cap tq) (hd7 : ∀ k, 1 ≤ k → k ≤ 7 → dm k 0) (hlo : LO n Lx cap) (hI : INV n tq t σ Lx ev zl tx mt tn tc) (hJ : LJ n t σ la Lx kt rd) (htb : t ≤ 100000) (hfl : l.stackTraces = false) (hc : cells + 100 ≤ 600104 ∧ slots + 5000 ≤ 7301314) (hret : ∀ (ad : Nat → Nat → Nat) (dm : Nat → Nat → Prop) (w : CF) (lv : List (Nat × Value)), GG p l e room_1 s m args below meth c D A ad dm 11 600104 7301314 Q w 386 lv [.int 1]) : GG p l e room_1 s m args below meth c D A ad dm 11 cells slots Q (cw D ad cs σ Lx cap mk ev zl tx mt tn tc (lwd cs la wz)) 242 [(9, .int 1), (1, .ref (ad 10 0))] [] := by
  obtain ⟨hc1, hc2⟩ := hc
  have hn40 : n ≤ 40 := hI.1
  have hn23 : n ≤ 23 := hJ.1
  have hL : Lx 0 = List.range n := hI.2.2.1.2.1.1.1
  have hmt := hI.hmt
  have hmm : ∀ j, j < n → okM σ j := hI.2.2.1.2.2.2.2
  have hlg : ∀ j, j < n → zl j ≤ elen σ j ∧ elen σ j ≤ 1000 := fun j hj => ⟨(hI.2.2.1.2.2.1 j hj).2.2.2, by have := (hmm j hj).2.2.2.2.2; unfold elen; omega⟩
  have hg0 : la 7 0 = nI n := hJ.2.1
  have hg1 : la 7 1 = nI t := hJ.2.2.1
  have hnow : σ 0 0 = nI t := hI.2.2.1.2.1.2.2.2.1
  refine g_forget (dm1 := rs9 dm n tq) (ad1 := ad) (w1 := (cw D ad cs σ Lx cap mk ev zl tx mt tn tc (lwd cs la wz))) (fun k i q => q.1) (fun _ _ _ => rfl) (fun _ _ _ => rfl) ?_
  have hC9 := rs9_CD hC
  have hub := rs9_UB dm n tq
  have hd79 : ∀ k, 1 ≤ k → k ≤ 7 → rs9 dm n tq k 0 := fun k h1 h2 => ⟨hd7 k h1 h2, .inl (by omega)⟩
  generalize rs9 dm n tq = d9 at hC9 hub hd79 ⊢
  refine g_iload F 0 dL_law_242 rfl ?_
  refine g_if_eq F (tgt := 385) dL_law_244 (by decide) (fun zc1 => ?_) (fun zc1 => ?_)
  ·
    exact absurd zc1 (by decide)
  ·
    refine g_aload_n F 1 dL_law_247 rfl rfl ?_
    refine g_iconst F dL_law_248 (v := 0) (by decide) ?_
    refine g_iconst F dL_law_249 (v := -1) (by decide) ?_
    refine g_iconst F dL_law_250 (v := 0) (by decide) ?_
    refine g_iconst F dL_law_251 (v := 0) (by decide) ?_
    refine g_iconst F dL_law_252 (v := 0) (by decide) ?_
    refine q_callSW F (rest := []) [.ref (ad 10 0), .int 0, .int (-1), .int 0, .int 0, .int 0] (ld_draft l D A cs ad d9 (cw D ad cs σ Lx cap mk ev zl tx mt tn tc (lwd cs la wz)) (-1) 0 0 0 (cc_draft l D A cs ad d9 σ Lx cap mk ev zl tx mt tn tc (lwd cs la wz) n tq hC9 (-1) 0 0 (0 = 1) hub (fun i hi => (hI.2.2.2.1 i hi).2.1) (fun j hj => (hmt j hj).1) hfl) hC9.1 rfl (fun v ad1 dm1 w1 h => ⟨_, h.2.1⟩) (fun E h => h.elim (fun q => .inl q.1) (fun q => .inr (.inl q.1)))) (vx_cwSW 6 F.1.2.2.2.2 gL_law_L_does rfl rfl rfl (by decide +kernel) ⟨Nat.le_of_ble_eq_true rfl, Nat.le_of_ble_eq_true rfl⟩) rfl rfl (Nat.le_of_ble_eq_true rfl) dL_law_253 ⟨show cells + 5 ≤ 600104 by omega, show slots + 34 ≤ 7301314 by omega⟩ (fun rz ad1 dm1 w1 hv => ?_)
    rcases hv with hp | ⟨hp, rfl, e1, e2, e3⟩ | ⟨hp, rfl, e1, e2, e3⟩ | ⟨hp, rfl, e1, e2, e3⟩
    ·
      exact absurd hp.1.1 (by decide)
    ·
      replace e1 := e1.symm
      subst e1
      replace e2 := e2.symm
      subst e2
      replace e3 := e3.symm
      subst e3
      have hp := (hp.resolve_right (fun q => absurd q.1 (by decide))).2
      refine g_st (st1 := [.int (-30)]) rfl ?_
      refine g_bipush F dL_law_256 (v := -30) (by decide) ?_
      refine g_icmp_ne F (tgt := 385) dL_law_258 (by decide) (fun zc2 => ?_) (fun zc2 => ?_)
      ·
        exact absurd zc2 (by decide)
      ·
        refine g_aload_n F 1 dL_law_261 rfl rfl ?_
        refine g_iconst F dL_law_262 (v := 2) (by decide) ?_
        refine g_iconst F dL_law_263 (v := 0) (by decide) ?_
        refine g_iconst F dL_law_264 (v := 0) (by decide) ?_
        refine g_iconst F dL_law_265 (v := 0) (by decide) ?_
        refine g_iconst F dL_law_266 (v := 0) (by decide) ?_
        refine q_callSW F (rest := []) [.ref (ad 10 0), .int 2, .int 0, .int 0, .int 0, .int 0] (ld_setRate l D A cs ad d9 (cw D ad cs σ Lx cap mk ev zl tx mt tn tc (lwd cs la wz)) 0 0 0 0 (cc_setRate l D A cs ad d9 σ Lx cap mk ev zl tx mt tn tc (lwd cs la wz) n tq hC9 0 0 0 hfl) hC9.1 rfl (fun v ad1 dm1 w1 h => ⟨_, h.2.1⟩) (fun E h => h.elim (fun q => .inl q.1) (fun q => .inr (.inl q.1)))) (vx_cwSW 6 F.1.2.2.2.2 gL_law_L_does rfl rfl rfl (by decide +kernel) ⟨Nat.le_of_ble_eq_true rfl, Nat.le_of_ble_eq_true rfl⟩) rfl rfl (Nat.le_of_ble_eq_true rfl) dL_law_267 ⟨show (cells + 5) + 3 ≤ 600104 by omega, show (slots + 34) + 18 ≤ 7301314 by omega⟩ (fun rz ad1 dm1 w1 hv => ?_)
        rcases hv with hp | ⟨hp, rfl, e1, e2, e3⟩ | ⟨hp, rfl, e1, e2, e3⟩ | ⟨hp, rfl, e1, e2, e3⟩
        ·
          exact absurd hp.1.2.2 (by decide)
        ·
          replace e1 := e1.symm
          subst e1
          replace e2 := e2.symm
          subst e2
          replace e3 := e3.symm
          subst e3
          have hp := (hp.resolve_right (fun q => absurd q.1 (by decide))).2
          refine g_st (st1 := [.int (-30)]) rfl ?_
          exact absurd (by decide) hp
        ·
          replace e1 := e1.symm
          subst e1
          replace e2 := e2.symm
          subst e2
          replace e3 := e3.symm
          subst e3
          have hp := (hp.resolve_left (fun q => absurd q.1 (by decide))).2
          refine g_st (st1 := [.int (-20)]) rfl ?_
          refine g_bipush F dL_law_270 (v := -20) (by decide) ?_
          refine g_icmp_ne F (tgt := 385) dL_law_272 (by decide) (fun zc3 => ?_) (fun zc3 => ?_)
          ·
            exact absurd zc3 (by decide)
          ·
            refine g_aload_n F 1 dL_law_275 rfl rfl ?_
            refine g_iconst F dL_law_276 (v := 3) (by decide) ?_
            refine g_iconst F dL_law_277 (v := 0) (by decide) ?_
            refine g_bipush F dL_law_278 (v := 6) (by decide) ?_
            refine g_bipush F dL_law_280 (v := 9) (by decide) ?_
            refine g_iconst F dL_law_282 (v := 1) (by decide) ?_
            have hQ : ∀ r, r < 6 → Lx (5 + r) = qf σ n r := hI.2.2.1.2.1.1.2
            have hz := hI.2.2.1.2.1.2.2.1 n (Nat.le_refl _)
            have hcost := dqA_cost (j0 := n) (s := ((nwS σ σ (ix 0) n 0 6 9 1), (va_up (va_up Lx 0 (Lx 0 ++ [n])) (5 + (ix 6)) ((va_up Lx 0 (Lx 0 ++ [n])) (5 + (ix 6)) ++ [n])), (va_up ev n (fun _ => 0)), (va_up zl n 1)))
            refine q_callSW F (rest := []) [.ref (ad 10 0), .int 3, .int 0, .int 6, .int 9, .int 1] (ld_submit l D A cs ad d9 (cw D ad cs σ Lx cap mk ev zl tx mt tn tc (lwd cs la wz)) 0 6 9 1 (cc_submit l D A cs ad d9 σ Lx cap mk ev zl tx mt tn tc (lwd cs la wz) n tq hC9 0 6 9 1 hn40 hL hlo hub (fun j hj => ⟨(hmm j hj).1.2, (hmm j hj).2.1.2⟩) (fun r hr => by rw [hQ r hr]; exact qf_len σ n r) (fun q => (hI.2.2.2.1 _ (ix_acc q).2).1.2.1) ⟨hz.1, hz.2.1, hz.2.2.1⟩ (fun x hx => hz.2.2.2 (2 - x) (by omega)) (fun hAR _ _ _ _ _ => absurd hAR.2 (by decide)) hfl) hC9.1 rfl (fun v ad1 dm1 w1 h => h.2.elim (fun ⟨_, _, q, _⟩ => ⟨_, q⟩) (fun ⟨_, _, _, q, _⟩ => ⟨_, q⟩)) (fun E h => h.elim (fun q => .inl q.1) (fun q => q.elim (fun q => .inr (.inl q.1)) (fun q => .inr (.inr q.1))))) (vx_cwSW 6 F.1.2.2.2.2 gL_law_L_does rfl rfl rfl (by decide +kernel) ⟨Nat.le_of_ble_eq_true rfl, Nat.le_of_ble_eq_true rfl⟩) rfl rfl (Nat.le_of_ble_eq_true rfl) dL_law_283 ⟨show ((cells + 5) + 3) + ((dqA n ((nwS σ σ (ix 0) n 0 6 9 1), (va_up (va_up Lx 0 (Lx 0 ++ [n])) (5 + (ix 6)) ((va_up Lx 0 (Lx 0 ++ [n])) (5 + (ix 6)) ++ [n])), (va_up ev n (fun _ => 0)), (va_up zl n 1))).2 + 10) ≤ 600104 by omega, show ((slots + 34) + 18) + (60 * (dqA n ((nwS σ σ (ix 0) n 0 6 9 1), (va_up (va_up Lx 0 (Lx 0 ++ [n])) (5 + (ix 6)) ((va_up Lx 0 (Lx 0 ++ [n])) (5 + (ix 6)) ++ [n])), (va_up ev n (fun _ => 0)), (va_up zl n 1))).2 + 766) ≤ 7301314 by omega⟩ (fun rz ad1 dm1 w1 hv => ?_)
            refine g_widen (cells1 := (((cells + 5) + 3) + 33)) (slots1 := (((slots + 34) + 18) + 2200)) (show ((cells + 5) + 3) + ((dqA n ((nwS σ σ (ix 0) n 0 6 9 1), (va_up (va_up Lx 0 (Lx 0 ++ [n])) (5 + (ix 6)) ((va_up Lx 0 (Lx 0 ++ [n])) (5 + (ix 6)) ++ [n])), (va_up ev n (fun _ => 0)), (va_up zl n 1))).2 + 10) ≤ ((cells + 5) + 3) + 33 by omega) (show ((slots + 34) + 18) + (60 * (dqA n ((nwS σ σ (ix 0) n 0 6 9 1), (va_up (va_up Lx 0 (Lx 0 ++ [n])) (5 + (ix 6)) ((va_up Lx 0 (Lx 0 ++ [n])) (5 + (ix 6)) ++ [n])), (va_up ev n (fun _ => 0)), (va_up zl n 1))).2 + 766) ≤ ((slots + 34) + 18) + 2200 by omega) ?_
            rcases hv with hp | ⟨hp, rfl, e1, e2, e3⟩ | ⟨hp, rfl, e1, e2, e3⟩ | ⟨hp, rfl, e1, e2, e3⟩
            ·
              exact absurd hp.1.1.2 (by decide)
            ·
              replace e1 := e1.symm
              subst e1
              replace e2 := e2.symm
              subst e2
              replace e3 := e3.symm
              subst e3
              have hp := (hp.resolve_right (fun q => q.elim (fun z => absurd z.1 (by decide)) (fun z => absurd z.1 (by decide)))).2
              refine g_st (st1 := [.int (-30)]) rfl ?_
              refine g_bipush F dL_law_286 (v := -30) (by decide) ?_
              refine g_icmp_ne F (tgt := 385) dL_law_288 (by decide) (fun zc4 => ?_) (fun zc4 => ?_)
              ·
                exact absurd zc4 (by decide)
              ·
                refine g_aload_n F 1 dL_law_291 rfl rfl ?_
                refine g_iconst F dL_law_292 (v := 4) (by decide) ?_
                refine g_iconst F dL_law_293 (v := -1) (by decide) ?_
                refine g_iconst F dL_law_294 (v := 0) (by decide) ?_
                refine g_iconst F dL_law_295 (v := 0) (by decide) ?_
                refine g_iconst F dL_law_296 (v := 0) (by decide) ?_
                refine q_callSW F (rest := []) [.ref (ad 10 0), .int 4, .int (-1), .int 0, .int 0, .int 0] (ld_delete l D A cs ad d9 (cw D ad cs σ Lx cap mk ev zl tx mt tn tc (lwd cs la wz)) (-1) 0 0 0 (cc_delete l D A cs ad d9 σ Lx cap mk ev zl tx mt tn tc (lwd cs la wz) n tq hC9 (-1) hn40 hL hlo (hub.no22 0) (fun j hj hw => ⟨(hI.2.2.1.dok hn40 hmt hj hw).1, (hI.2.2.1.dok hn40 hmt hj hw).2.1⟩) hfl) hC9.1 rfl (fun v ad1 dm1 w1 h => ⟨_, h.2.1⟩) (fun E h => h.elim (fun q => .inl q.1) (fun q => .inr (.inr q.1)))) (vx_cwSW 6 F.1.2.2.2.2 gL_law_L_does rfl rfl rfl (by decide +kernel) ⟨Nat.le_of_ble_eq_true rfl, Nat.le_of_ble_eq_true rfl⟩) rfl rfl (Nat.le_of_ble_eq_true rfl) dL_law_297 ⟨show (((cells + 5) + 3) + 33) + 4 ≤ 600104 by omega, show (((slots + 34) + 18) + 2200) + 90 ≤ 7301314 by omega⟩ (fun rz ad1 dm1 w1 hv => ?_)
                rcases hv with hp | ⟨hp, rfl, e1, e2, e3⟩ | ⟨hp, rfl, e1, e2, e3⟩ | ⟨hp, rfl, e1, e2, e3⟩
                ·
                  exact absurd hp.1.1 (mg_m1 _)
                ·
                  replace e1 := e1.symm
                  subst e1
                  replace e2 := e2.symm
                  subst e2
                  replace e3 := e3.symm
                  subst e3
                  have hp := (hp.resolve_right (fun q => absurd q.1 (by decide))).2
                  refine g_st (st1 := [.int (-30)]) rfl ?_
                  refine g_bipush F dL_law_300 (v := -30) (by decide) ?_
                  refine g_icmp_ne F (tgt := 385) dL_law_302 (by decide) (fun zc5 => ?_) (fun zc5 => ?_)
                  ·
                    exact absurd zc5 (by decide)
                  ·
                    refine g_aload_n F 1 dL_law_305 rfl rfl ?_
                    refine g_iconst F dL_law_306 (v := 5) (by decide) ?_
                    refine g_bipush F dL_law_307 (v := 6) (by decide) ?_
                    refine g_bipush F dL_law_309 (v := 9) (by decide) ?_
                    refine g_iconst F dL_law_311 (v := 0) (by decide) ?_
                    refine g_iconst F dL_law_312 (v := 0) (by decide) ?_
                    refine q_callSW F (rest := []) [.ref (ad 10 0), .int 5, .int 6, .int 9, .int 0, .int 0] (ld_setMode l D A cs ad d9 (cw D ad cs σ Lx cap mk ev zl tx mt tn tc (lwd cs la wz)) 6 9 0 0 (cc_setMode l D A cs ad d9 σ Lx cap mk ev zl tx mt tn tc (lwd cs la wz) n tq hC9 6 9 hlo hfl) hC9.1 rfl (fun v ad1 dm1 w1 h => ⟨_, h.2.1⟩) (fun E h => h.elim (fun q => .inl q.1) (fun q => .inr (.inl q.1)))) (vx_cwSW 6 F.1.2.2.2.2 gL_law_L_does rfl rfl rfl (by decide +kernel) ⟨Nat.le_of_ble_eq_true rfl, Nat.le_of_ble_eq_true rfl⟩) rfl rfl (Nat.le_of_ble_eq_true rfl) dL_law_313 ⟨show ((((cells + 5) + 3) + 33) + 4) + 2 ≤ 600104 by omega, show ((((slots + 34) + 18) + 2200) + 90) + 12 ≤ 7301314 by omega⟩ (fun rz ad1 dm1 w1 hv => ?_)
                    rcases hv with hp | ⟨hp, rfl, e1, e2, e3⟩ | ⟨hp, rfl, e1, e2, e3⟩ | ⟨hp, rfl, e1, e2, e3⟩
                    ·
                      exact absurd hp.1.1 (by decide)
                    ·
                      replace e1 := e1.symm
                      subst e1
                      replace e2 := e2.symm
                      subst e2
                      replace e3 := e3.symm
                      subst e3
                      have hp := (hp.resolve_right (fun q => absurd q.1 (by decide))).2
                      refine g_st (st1 := [.int (-30)]) rfl ?_
                      refine g_bipush F dL_law_316 (v := -30) (by decide) ?_
                      refine g_icmp_ne F (tgt := 385) dL_law_318 (by decide) (fun zc6 => ?_) (fun zc6 => ?_)
                      ·
                        exact absurd zc6 (by decide)
                      ·
                        refine g_aload_n F 1 dL_law_321 rfl rfl ?_
                        refine g_bipush F dL_law_322 (v := 6) (by decide) ?_
                        refine g_iconst F dL_law_324 (v := 0) (by decide) ?_
                        refine g_iconst F dL_law_325 (v := -1) (by decide) ?_
                        refine g_iconst F dL_law_326 (v := 0) (by decide) ?_
                        refine g_iconst F dL_law_327 (v := 0) (by decide) ?_
                        refine q_callSW F (rest := []) [.ref (ad 10 0), .int 6, .int 0, .int (-1), .int 0, .int 0] (ld_setRoom l D A cs ad d9 (cw D ad cs σ Lx cap mk ev zl tx mt tn tc (lwd cs la wz)) 0 (-1) 0 0 (cc_setRoom l D A cs ad d9 σ Lx cap mk ev zl tx mt tn tc (lwd cs la wz) n tq hC9 0 (-1) hlo hfl) hC9.1 rfl (fun v ad1 dm1 w1 h => ⟨_, h.2.1⟩) (fun E h => h.elim (fun q => .inl q.1) (fun q => .inr (.inl q.1)))) (vx_cwSW 6 F.1.2.2.2.2 gL_law_L_does rfl rfl rfl (by decide +kernel) ⟨Nat.le_of_ble_eq_true rfl, Nat.le_of_ble_eq_true rfl⟩) rfl rfl (Nat.le_of_ble_eq_true rfl) dL_law_328 ⟨show (((((cells + 5) + 3) + 33) + 4) + 2) + 2 ≤ 600104 by omega, show (((((slots + 34) + 18) + 2200) + 90) + 12) + 12 ≤ 7301314 by omega⟩ (fun rz ad1 dm1 w1 hv => ?_)
                        rcases hv with hp | ⟨hp, rfl, e1, e2, e3⟩ | ⟨hp, rfl, e1, e2, e3⟩ | ⟨hp, rfl, e1, e2, e3⟩
                        ·
                          exact absurd hp.1.2 (by decide)
                        ·
                          replace e1 := e1.symm
                          subst e1
                          replace e2 := e2.symm
                          subst e2
                          replace e3 := e3.symm
                          subst e3
                          have hp := (hp.resolve_right (fun q => absurd q.1 (by decide))).2
                          refine g_st (st1 := [.int (-30)]) rfl ?_
                          exact absurd (by decide) hp
                        ·
                          replace e1 := e1.symm
                          subst e1
                          replace e2 := e2.symm
                          subst e2
                          replace e3 := e3.symm
                          subst e3
                          have hp := (hp.resolve_left (fun q => absurd q.1 (by decide))).2
                          refine g_st (st1 := [.int (-20)]) rfl ?_
                          refine g_bipush F dL_law_331 (v := -20) (by decide) ?_
                          refine g_icmp_ne F (tgt := 385) dL_law_333 (by decide) (fun zc7 => ?_) (fun zc7 => ?_)
                          ·
                            exact absurd zc7 (by decide)
                          ·
                            refine g_aload_n F 1 dL_law_336 rfl rfl ?_
                            refine g_bipush F dL_law_337 (v := 7) (by decide) ?_
                            refine g_iconst F dL_law_339 (v := 0) (by decide) ?_
                            refine g_iconst F dL_law_340 (v := 0) (by decide) ?_
                            refine g_iconst F dL_law_341 (v := 0) (by decide) ?_
                            refine g_iconst F dL_law_342 (v := 0) (by decide) ?_
                            refine q_callSW F (rest := []) [.ref (ad 10 0), .int 7, .int 0, .int 0, .int 0, .int 0] (ld_read l D A cs ad d9 (cw D ad cs σ Lx cap mk ev zl tx mt tn tc (lwd cs la wz)) 0 0 0 0 (cc_read l D A cs ad d9 σ Lx cap mk ev zl tx mt tn tc (lwd cs la wz) n tq hC9 0 0 hlo hfl) hC9.1 rfl (fun v ad1 dm1 w1 h => ⟨_, h.2.1⟩) (fun E h => h.elim (fun q => .inl q.1) (fun q => .inr (.inl q.1)))) (vx_cwSW 6 F.1.2.2.2.2 gL_law_L_does rfl rfl rfl (by decide +kernel) ⟨Nat.le_of_ble_eq_true rfl, Nat.le_of_ble_eq_true rfl⟩) rfl rfl (Nat.le_of_ble_eq_true rfl) dL_law_343 ⟨show ((((((cells + 5) + 3) + 33) + 4) + 2) + 2) + 2 ≤ 600104 by omega, show ((((((slots + 34) + 18) + 2200) + 90) + 12) + 12) + 12 ≤ 7301314 by omega⟩ (fun rz ad1 dm1 w1 hv => ?_)
                            rcases hv with hp | ⟨hp, rfl, e1, e2, e3⟩ | ⟨hp, rfl, e1, e2, e3⟩ | ⟨hp, rfl, e1, e2, e3⟩
                            ·
                              exact absurd hp.1.2 (by decide)
                            ·
                              replace e1 := e1.symm
                              subst e1
                              replace e2 := e2.symm
                              subst e2
                              replace e3 := e3.symm
                              subst e3
                              have hp := (hp.resolve_right (fun q => absurd q.1 (by decide))).2
                              refine g_st (st1 := [.int (-30)]) rfl ?_
                              exact absurd (by decide) hp
                            ·
                              replace e1 := e1.symm
                              subst e1
                              replace e2 := e2.symm
                              subst e2
                              replace e3 := e3.symm
                              subst e3
                              have hp := (hp.resolve_left (fun q => absurd q.1 (by decide))).2
                              refine g_st (st1 := [.int (-20)]) rfl ?_
                              refine g_bipush F dL_law_346 (v := -20) (by decide) ?_
                              refine g_icmp_ne F (tgt := 385) dL_law_348 (by decide) (fun zc8 => ?_) (fun zc8 => ?_)
                              ·
                                exact absurd zc8 (by decide)
                              ·
                                refine g_aload_n F 1 dL_law_351 rfl rfl ?_
                                refine g_bipush F dL_law_352 (v := 8) (by decide) ?_
                                refine g_iconst F dL_law_354 (v := 0) (by decide) ?_
                                refine g_iconst F dL_law_355 (v := 0) (by decide) ?_
                                refine g_iconst F dL_law_356 (v := 0) (by decide) ?_
                                refine g_iconst F dL_law_357 (v := 0) (by decide) ?_
                                refine q_callSW F (rest := []) [.ref (ad 10 0), .int 8, .int 0, .int 0, .int 0, .int 0] (ld_pass l D A cs ad d9 (cw D ad cs σ Lx cap mk ev zl tx mt tn tc (lwd cs la wz)) 0 0 0 0 (cc_passN l D A cs ad d9 σ Lx cap mk ev zl tx mt tn tc (lwd cs la wz) n tq hC9 0 (by decide) hfl) hC9.1 rfl (fun v ad1 dm1 w1 h => ⟨_, h.2.1⟩) (fun E h => .inr (.inl h.1))) (vx_cwSW 6 F.1.2.2.2.2 gL_law_L_does rfl rfl rfl (by decide +kernel) ⟨Nat.le_of_ble_eq_true rfl, Nat.le_of_ble_eq_true rfl⟩) rfl rfl (Nat.le_of_ble_eq_true rfl) dL_law_358 ⟨show (((((((cells + 5) + 3) + 33) + 4) + 2) + 2) + 2) + 1 ≤ 600104 by omega, show (((((((slots + 34) + 18) + 2200) + 90) + 12) + 12) + 12) + 6 ≤ 7301314 by omega⟩ (fun rz ad1 dm1 w1 hv => ?_)
                                rcases hv with hp | ⟨hp, rfl, e1, e2, e3⟩ | ⟨hp, rfl, e1, e2, e3⟩ | ⟨hp, rfl, e1, e2, e3⟩
                                ·
                                  exact hp.1.elim
                                ·
                                  exact absurd hp.1 (by decide)
                                ·
                                  replace e1 := e1.symm
                                  subst e1
                                  replace e2 := e2.symm
                                  subst e2
                                  replace e3 := e3.symm
                                  subst e3
                                  have hp := hp.2
                                  refine g_st (st1 := [.int (-20)]) rfl ?_
                                  refine g_bipush F dL_law_361 (v := -20) (by decide) ?_
                                  refine g_icmp_ne F (tgt := 385) dL_law_363 (by decide) (fun zc9 => ?_) (fun zc9 => ?_)
                                  ·
                                    exact absurd zc9 (by decide)
                                  ·
                                    refine g_aload_n F 1 dL_law_366 rfl rfl ?_
                                    refine g_bipush F dL_law_367 (v := 9) (by decide) ?_
                                    refine g_iconst F dL_law_369 (v := -1) (by decide) ?_
                                    refine g_iconst F dL_law_370 (v := 0) (by decide) ?_
                                    refine g_iconst F dL_law_371 (v := 0) (by decide) ?_
                                    refine g_iconst F dL_law_372 (v := 0) (by decide) ?_
                                    refine q_callSW F (rest := []) [.ref (ad 10 0), .int 9, .int (-1), .int 0, .int 0, .int 0] (ld_takeReceipt l D A cs ad d9 (cw D ad cs σ Lx cap mk ev zl tx mt tn tc (lwd cs la wz)) (-1) 0 0 0 (cc_takeReceipt l D A cs ad d9 σ Lx cap mk ev zl tx mt tn tc (lwd cs la wz) n tq hC9 (-1) hlo hfl) hC9.1 rfl (fun v ad1 dm1 w1 h => ⟨_, h.2.1⟩) (fun E h => h.elim (fun q => .inl q.1) (fun q => .inr (.inr q.1)))) (vx_cwSW 6 F.1.2.2.2.2 gL_law_L_does rfl rfl rfl (by decide +kernel) ⟨Nat.le_of_ble_eq_true rfl, Nat.le_of_ble_eq_true rfl⟩) rfl rfl (Nat.le_of_ble_eq_true rfl) dL_law_373 ⟨show ((((((((cells + 5) + 3) + 33) + 4) + 2) + 2) + 2) + 1) + 2 ≤ 600104 by omega, show ((((((((slots + 34) + 18) + 2200) + 90) + 12) + 12) + 12) + 6) + 12 ≤ 7301314 by omega⟩ (fun rz ad1 dm1 w1 hv => ?_)
                                    rcases hv with hp | ⟨hp, rfl, e1, e2, e3⟩ | ⟨hp, rfl, e1, e2, e3⟩ | ⟨hp, rfl, e1, e2, e3⟩
                                    ·
                                      exact absurd hp.1.1 (by decide)
                                    ·
                                      replace e1 := e1.symm
                                      subst e1
                                      replace e2 := e2.symm
                                      subst e2
                                      replace e3 := e3.symm
                                      subst e3
                                      have hp := (hp.resolve_right (fun q => absurd q.1 (by decide))).2
                                      refine g_st (st1 := [.int (-30)]) rfl ?_
                                      refine g_bipush F dL_law_376 (v := -30) (by decide) ?_
                                      refine g_icmp_ne F (tgt := 385) dL_law_378 (by decide) (fun zc10 => ?_) (fun zc10 => ?_)
                                      ·
                                        exact absurd zc10 (by decide)
                                      ·
                                        refine g_iconst F dL_law_381 (v := 1) (by decide) ?_
                                        refine g_goto F (tgt := 386) dL_law_382 (by decide) ?_
                                        exact g_widen (cells1 := 600104) (slots1 := 7301314) (show (((((((((cells + 5) + 3) + 33) + 4) + 2) + 2) + 2) + 1) + 2) ≤ 600104 by omega) (show (((((((((slots + 34) + 18) + 2200) + 90) + 12) + 12) + 12) + 6) + 12) ≤ 7301314 by omega) (hret _ _ _ _)
                                    ·
                                      exact absurd hp (fun q => q.elim (fun z => absurd z.1 (by decide)) (fun z => absurd z.1 (by decide)))
                                    ·
                                      replace e1 := e1.symm
                                      subst e1
                                      replace e2 := e2.symm
                                      subst e2
                                      replace e3 := e3.symm
                                      subst e3
                                      have hp := (hp.resolve_left (fun q => absurd q.1 (by decide))).2
                                      refine g_st (st1 := [.int (-10)]) rfl ?_
                                      exact absurd hp.1 (by decide)
                                ·
                                  exact absurd hp.1 (by decide)
                            ·
                              exact absurd hp (fun q => q.elim (fun z => absurd z.1 (by decide)) (fun z => absurd z.1 (by decide)))
                        ·
                          exact absurd hp (fun q => q.elim (fun z => absurd z.1 (by decide)) (fun z => absurd z.1 (by decide)))
                    ·
                      replace e1 := e1.symm
                      subst e1
                      replace e2 := e2.symm
                      subst e2
                      replace e3 := e3.symm
                      subst e3
                      have hp := (hp.resolve_left (fun q => absurd q.1 (by decide))).2
                      refine g_st (st1 := [.int (-20)]) rfl ?_
                      exact absurd hp.1 (by decide)
                    ·
                      exact absurd hp (fun q => q.elim (fun z => absurd z.1 (by decide)) (fun z => absurd z.1 (by decide)))
                ·
                  exact absurd hp (fun q => q.elim (fun z => absurd z.1 (by decide)) (fun z => absurd z.1 (by decide)))
                ·
                  replace e1 := e1.symm
                  subst e1
                  replace e2 := e2.symm
                  subst e2
                  replace e3 := e3.symm
                  subst e3
                  have hp := (hp.resolve_left (fun q => absurd q.1 (by decide))).2
                  refine g_st (st1 := [.int (-10)]) rfl ?_
                  exact absurd hp.1 (mg_m1 _)
            ·
              replace e1 := e1.symm
              subst e1
              replace e2 := e2.symm
              subst e2
              replace e3 := e3.symm
              subst e3
              have hp := ((hp.resolve_left (fun q => absurd q.1 (by decide))).resolve_right (fun q => absurd q.1 (by decide))).2
              refine g_st (st1 := [.int (-20)]) rfl ?_
              exact absurd hp.1.2 (by decide)
            ·
              replace e1 := e1.symm
              subst e1
              replace e2 := e2.symm
              subst e2
              replace e3 := e3.symm
              subst e3
              have hp := ((hp.resolve_left (fun q => absurd q.1 (by decide))).resolve_left (fun q => absurd q.1 (by decide))).2
              refine g_st (st1 := [.int (-10)]) rfl ?_
              exact absurd hp.1.2 (by decide)
        ·
          exact absurd hp (fun q => q.elim (fun z => absurd z.1 (by decide)) (fun z => absurd z.1 (by decide)))
    ·
      replace e1 := e1.symm
      subst e1
      replace e2 := e2.symm
      subst e2
      replace e3 := e3.symm
      subst e3
      have hp := (hp.resolve_left (fun q => absurd q.1 (by decide))).2
      refine g_st (st1 := [.int (-20)]) rfl ?_
      exact absurd hp.1 (by decide)
    ·
      exact absurd hp (fun q => q.elim (fun z => absurd z.1 (by decide)) (fun z => absurd z.1 (by decide)))
