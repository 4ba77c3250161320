/-- the state at the law's loop head: the record is up to date -/
def PT (D : va_G) (cs : Nat → ClassId) (xd : Nat → Nat) (tb : Nat) (ad : Nat → Nat → Nat) (dm : Nat → Nat → Prop) (w : CF) : Prop := ∃ (n tq t : Nat) (σ : SG) (Lx : Nat → List Nat) (cap : Nat → Nat) (mk : Nat → Int32) (ev : SG) (zl tx mt tn : Nat → Nat) (tc la : SG) (wz : CF) (kt rd : Nat → Nat), (∀ k, k ≤ 10 → ad k 0 = xd k) ∧ t ≤ tb ∧ CD dm n cap tq ∧ (∀ k, 1 ≤ k → k ≤ 7 → dm k 0) ∧ LO n Lx cap ∧ INV n tq t σ Lx ev zl tx mt tn tc ∧ LJ n t σ la Lx kt rd ∧ LT n σ la ∧ w = cw D ad cs σ Lx cap mk ev zl tx mt tn tc (lwd cs la wz)
set_option maxHeartbeats 8000000 in
set_option maxRecDepth 100000 in
theorem law_loop {p : Program} {l : Launch} {e : Env} {s : State} {m : MethodId} {args : Array Value} {below : List Frame} {meth : Method} {c : Code} {cells slots : Nat} {Q : State → Prop} {D : va_G} {A : Nat → Prop} {cs : Nat → ClassId} {ad : Nat → Nat → Nat} {dm : Nat → Nat → Prop} (F : FX p s m args c cL_law 11 wsL_law RL D A (tysG cs)) (hfl : l.stackTraces = false) {xd : Nat → Nat} {w : CF} (hPT : PT D cs xd (100 * 0) ad dm w) (hc : cells ≤ 10000 ∧ slots ≤ 100000) (hret : ∀ (ad : Nat → Nat → Nat) (dm : Nat → Nat → Prop) (w : CF) (lv : List (Nat × Value)), GG p l e room_1 s m args below meth c D A ad dm 11 600104 7301314 Q w 386 lv [.int 1]) : GG p l e room_1 s m args below meth c D A ad dm 11 cells slots Q w 144 [(0, .ref (D.2 100 40)), (1, .ref (xd 10)), (2, .ref (xd 1)), (3, .ref (xd 2)), (4, .ref (xd 3)), (5, .ref (xd 4)), (6, .ref (xd 5)), (7, .ref (xd 6)), (8, .ref (xd 7)), (9, .int 1), (10, .int 0)] [] := by
  obtain ⟨hc1, hc2⟩ := hc
  refine g_loopP 60 0 (Nat.zero_le _) (fun zk ad dm w lv => PT D cs xd (100 * zk) ad dm w ∧ lv = [(0, .ref (D.2 100 40)), (1, .ref (xd 10)), (2, .ref (xd 1)), (3, .ref (xd 2)), (4, .ref (xd 3)), (5, .ref (xd 4)), (6, .ref (xd 5)), (7, .ref (xd 6)), (8, .ref (xd 7)), (9, .int 1), (10, .int (nI zk))]) (fun zk => cells + 1700 * zk) (fun zk => slots + 12600 * zk) rfl rfl ⟨hPT, rfl⟩ ?_ (fun zk hz0 hz1 ih => ?_)
  ·
    intro ad dm w lv h9
    obtain ⟨⟨n, tq, t, σ, Lx, cap, mk, ev, zl, tx, mt, tn, tc, la, wz, kt, rd, hx, ht, hC, hd7, hlo, hI, hJ, hT, rfl⟩, rfl⟩ := h9
    have hg0 : la 7 0 = nI n := hJ.2.1
    have hn23 : n ≤ 23 := hJ.1
    show GG p l e room_1 s m args below meth c D A ad dm 11 (cells + 1700 * 60) (slots + 12600 * 60) Q (cw D ad cs σ Lx cap mk ev zl tx mt tn tc (lwd cs la wz)) 144 [(0, .ref (D.2 100 40)), (1, .ref (xd 10)), (2, .ref (xd 1)), (3, .ref (xd 2)), (4, .ref (xd 3)), (5, .ref (xd 4)), (6, .ref (xd 5)), (7, .ref (xd 6)), (8, .ref (xd 7)), (9, .int 1), (10, .int (nI 60))] []
    refine g_iload F 10 dL_law_144 rfl ?_
    refine g_bipush F dL_law_146 (v := 60) (by decide) ?_
    refine g_icmp_ge F (tgt := 242) dL_law_148 (by decide) (fun zc1 => ?_) (fun zc1 => ?_)
    ·
      refine g_lv (lv1 := [(9, .int 1), (1, .ref (xd 10))]) [9, 1] rfl ?_
      refine g_lve (lv1 := [(9, .int 1), (1, .ref (ad 10 0))]) (by rw [hx 10 (by decide)]) ?_
      exact law_end F hC hd7 hlo hI hJ (by omega) hfl ⟨show (cells + 1700 * 60) + 100 ≤ 600104 by omega, show (slots + 12600 * 60) + 5000 ≤ 7301314 by omega⟩ hret
    ·
      exact absurd ((nI_leE (show 60 = nI 60 from rfl) (show (nI 60) = nI 60 from rfl) (by omega) (by omega)).mpr (by omega)) zc1
  ·
    intro ad dm w lv h9
    obtain ⟨⟨n, tq, t, σ, Lx, cap, mk, ev, zl, tx, mt, tn, tc, la, wz, kt, rd, hx, ht, hC, hd7, hlo, hI, hJ, hT, rfl⟩, rfl⟩ := h9
    have hg0 : la 7 0 = nI n := hJ.2.1
    have hn23 : n ≤ 23 := hJ.1
    show GG p l e room_1 s m args below meth c D A ad dm 11 (cells + 1700 * zk) (slots + 12600 * zk) Q (cw D ad cs σ Lx cap mk ev zl tx mt tn tc (lwd cs la wz)) 144 [(0, .ref (D.2 100 40)), (1, .ref (xd 10)), (2, .ref (xd 1)), (3, .ref (xd 2)), (4, .ref (xd 3)), (5, .ref (xd 4)), (6, .ref (xd 5)), (7, .ref (xd 6)), (8, .ref (xd 7)), (9, .int 1), (10, .int (nI zk))] []
    refine g_iload F 10 dL_law_144 rfl ?_
    refine g_bipush F dL_law_146 (v := 60) (by decide) ?_
    refine g_icmp_ge F (tgt := 242) dL_law_148 (by decide) (fun zc2 => ?_) (fun zc2 => ?_)
    ·
      exact absurd ((nI_leE (show 60 = nI 60 from rfl) (show (nI zk) = nI zk from rfl) (by omega) (by omega)).mp zc2) (by omega)
    ·
      refine g_iload F 9 dL_law_151 rfl ?_
      refine g_if_eq F (tgt := 242) dL_law_153 (by decide) (fun zc3 => ?_) (fun zc3 => ?_)
      ·
        exact absurd zc3 (by decide)
      ·
        refine g_aload F 8 dL_law_156 rfl ?_
        refine g_iconst F dL_law_158 (v := 0) (by decide) ?_
        refine g_st (st1 := [.int 0, .ref (ad 7 0)]) (by rw [hx 7 (by decide)]) ?_
        refine l_ld F (K := 7) (j := 0) (v := (nI n)) hd7 ⟨by decide, by decide⟩ rfl (show 0 < 2 by omega) hg0 dL_law_159 ?_
        refine g_bipush F dL_law_160 (v := 22) (by decide) ?_
        refine g_icmp_gt F (tgt := 229) dL_law_162 (by decide) (fun zc4 => ?_) (fun zc4 => ?_)
        ·
          have zc4n : 22 < n := (nI_ltE (show 22 = nI 22 from rfl) (show (nI n) = nI n from rfl) (by omega) (by omega)).mp zc4
          refine g_iconst F dL_law_229 (v := 1) (by decide) ?_
          refine g_goto F (tgt := 234) dL_law_230 (by decide) ?_
          refine g_istore F (lv1 := [(9, .int 1), (0, .ref (D.2 100 40)), (1, .ref (xd 10)), (2, .ref (xd 1)), (3, .ref (xd 2)), (4, .ref (xd 3)), (5, .ref (xd 4)), (6, .ref (xd 5)), (7, .ref (xd 6)), (8, .ref (xd 7)), (10, .int (nI zk))]) dL_law_234 (by decide) rfl ?_
          refine g_iinc F (v := (nI (zk + 1))) (lv1 := [(10, .int (nI (zk + 1))), (9, .int 1), (0, .ref (D.2 100 40)), (1, .ref (xd 10)), (2, .ref (xd 1)), (3, .ref (xd 2)), (4, .ref (xd 3)), (5, .ref (xd 4)), (6, .ref (xd 5)), (7, .ref (xd 6)), (8, .ref (xd 7))]) 10 dL_law_236 rfl (nI_1 zk) (by decide) rfl ?_
          refine g_goto F (tgt := 144) dL_law_239 (by decide) ?_
          refine g_lv (lv1 := [(0, .ref (D.2 100 40)), (1, .ref (xd 10)), (2, .ref (xd 1)), (3, .ref (xd 2)), (4, .ref (xd 3)), (5, .ref (xd 4)), (6, .ref (xd 5)), (7, .ref (xd 6)), (8, .ref (xd 7)), (9, .int 1), (10, .int (nI (zk + 1)))]) [2, 3, 4, 5, 6, 7, 8, 9, 10, 1, 0] rfl ?_
          refine g_widen (cells1 := cells + 1700 * (zk + 1)) (slots1 := slots + 12600 * (zk + 1)) (show (cells + 1700 * zk) ≤ cells + 1700 * (zk + 1) by omega) (show (slots + 12600 * zk) ≤ slots + 12600 * (zk + 1) by omega) ?_
          exact ih _ _ _ _ ⟨⟨n, tq, t, σ, Lx, cap, mk, ev, zl, tx, mt, tn, tc, la, wz, kt, rd, hx, by omega, hC, hd7, hlo, hI, hJ, hT, rfl⟩, rfl⟩
        ·
          have zc4n : ¬ (22 < n) := fun q => zc4 ((nI_ltE (show 22 = nI 22 from rfl) (show (nI n) = nI n from rfl) (by omega) (by omega)).mpr q)
          refine g_aload_n F 1 dL_law_165 rfl rfl ?_
          refine g_aload_n F 0 dL_law_166 rfl rfl ?_
          refine g_iconst F dL_law_167 (v := 4) (by decide) ?_
          refine g_iload F 10 dL_law_168 rfl ?_
          refine g_imul F dL_law_170 ?_
          refine g_top (y := (nI (4 * zk))) (Eq.symm (nI_mulE (show 4 = nI 4 from rfl) (show (nI zk) = nI zk from rfl))) ?_
          refine g_aload_n F 2 dL_law_171 rfl rfl ?_
          refine g_aload_n F 3 dL_law_172 rfl rfl ?_
          refine g_aload F 4 dL_law_173 rfl ?_
          refine g_aload F 5 dL_law_175 rfl ?_
          refine g_aload F 6 dL_law_177 rfl ?_
          refine g_aload F 7 dL_law_179 rfl ?_
          refine g_aload F 8 dL_law_181 rfl ?_
          refine g_st (st1 := [.ref (ad 7 0), .ref (ad 6 0), .ref (ad 5 0), .ref (ad 4 0), .ref (ad 3 0), .ref (ad 2 0), .ref (ad 1 0), .int (nI (4 * zk)), .ref (D.2 100 40), .ref (ad 10 0)]) (by rw [hx 10 (by decide), hx 1 (by decide), hx 2 (by decide), hx 3 (by decide), hx 4 (by decide), hx 5 (by decide), hx 6 (by decide), hx 7 (by decide)]) ?_
          refine q_callS F (rest := []) [.ref (ad 10 0), .ref (D.2 100 40), .int (nI (4 * zk)), .ref (ad 1 0), .ref (ad 2 0), .ref (ad 3 0), .ref (ad 4 0), .ref (ad 5 0), .ref (ad 6 0), .ref (ad 7 0)] (lw_isDone l D A cs ad dm σ Lx cap mk ev zl tx mt tn tc la wz n tq t kt rd hC hd7 hlo hI hJ (by omega) hfl (4 * zk) (by omega) hT (by omega)) (va_cwS 10 F.1.2.2.2.2 gL_law_L_isDone rfl rfl rfl (by decide +kernel) ⟨Nat.le_of_ble_eq_true rfl, Nat.le_of_ble_eq_true rfl⟩) rfl rfl (Nat.le_of_ble_eq_true rfl) dL_law_183 ⟨show (cells + 1700 * zk) + 110 ≤ 600104 by omega, show (slots + 12600 * zk) + 3100 ≤ 7301314 by omega⟩ (fun _ ad1 dm1 w1 hv => ?_)
          obtain ⟨rfl, n1, tq1, t1, σ1, Lx1, cap1, mk1, ev1, zl1, tx1, mt1, tn1, tc1, la1, wz1, kt1, rd1, hx9, ht1, hC1, hd71, hlo1, hI1, hJ1, rfl⟩ := hv
          have hx1 : ∀ k, k ≤ 10 → ad1 k 0 = xd k := fun k hk => (hx9 k hk).trans (hx k hk)
          refine g_st (st1 := [.int 1]) rfl ?_
          refine g_if_eq F (tgt := 233) dL_law_186 (by decide) (fun zc5 => ?_) (fun zc5 => ?_)
          ·
            exact absurd zc5 (by decide)
          ·
            refine g_aload_n F 1 dL_law_189 rfl rfl ?_
            refine g_aload_n F 2 dL_law_190 rfl rfl ?_
            refine g_aload_n F 3 dL_law_191 rfl rfl ?_
            refine g_aload F 4 dL_law_192 rfl ?_
            refine g_aload F 5 dL_law_194 rfl ?_
            refine g_aload F 7 dL_law_196 rfl ?_
            refine g_aload F 8 dL_law_198 rfl ?_
            refine g_st (st1 := [.ref (ad1 7 0), .ref (ad1 6 0), .ref (ad1 4 0), .ref (ad1 3 0), .ref (ad1 2 0), .ref (ad1 1 0), .ref (ad1 10 0)]) (by rw [hx1 10 (by decide), hx1 1 (by decide), hx1 2 (by decide), hx1 3 (by decide), hx1 4 (by decide), hx1 6 (by decide), hx1 7 (by decide)]) ?_
            refine q_callS F (rest := []) [.ref (ad1 10 0), .ref (ad1 1 0), .ref (ad1 2 0), .ref (ad1 3 0), .ref (ad1 4 0), .ref (ad1 6 0), .ref (ad1 7 0)] (lw_areMessages l D A cs ad1 dm1 σ1 Lx1 cap1 mk1 ev1 zl1 tx1 mt1 tn1 tc1 la1 wz1 n1 tq1 t1 kt1 rd1 hC1 hd71 hlo1 hI1 hJ1 (by omega) hfl) (va_cwS 7 F.1.2.2.2.2 gL_law_L_areMessages rfl rfl rfl (by decide +kernel) ⟨Nat.le_of_ble_eq_true rfl, Nat.le_of_ble_eq_true rfl⟩) rfl rfl (Nat.le_of_ble_eq_true rfl) dL_law_200 ⟨show ((cells + 1700 * zk) + 110) + 1500 ≤ 600104 by omega, show ((slots + 12600 * zk) + 3100) + 9000 ≤ 7301314 by omega⟩ (fun _ _ _ _ hv => ?_)
            obtain ⟨rfl, rfl, rfl, lb, rfl, hJb, hTb⟩ := hv
            refine g_st (st1 := [.int 1]) rfl ?_
            refine g_if_eq F (tgt := 233) dL_law_203 (by decide) (fun zc6 => ?_) (fun zc6 => ?_)
            ·
              exact absurd zc6 (by decide)
            ·
              refine g_aload_n F 1 dL_law_206 rfl rfl ?_
              refine g_aload_n F 2 dL_law_207 rfl rfl ?_
              refine g_aload F 4 dL_law_208 rfl ?_
              refine g_aload F 6 dL_law_210 rfl ?_
              refine g_aload F 8 dL_law_212 rfl ?_
              refine g_st (st1 := [.ref (ad1 7 0), .ref (ad1 5 0), .ref (ad1 3 0), .ref (ad1 1 0), .ref (ad1 10 0)]) (by rw [hx1 10 (by decide), hx1 1 (by decide), hx1 3 (by decide), hx1 5 (by decide), hx1 7 (by decide)]) ?_
              refine q_callS F (rest := []) [.ref (ad1 10 0), .ref (ad1 1 0), .ref (ad1 3 0), .ref (ad1 5 0), .ref (ad1 7 0)] (lw_areRecipients l D A cs ad1 dm1 σ1 Lx1 cap1 mk1 ev1 zl1 tx1 mt1 tn1 tc1 lb wz1 n1 tq1 t1 kt1 rd1 hC1 hd71 hlo1 hI1 hJb (by omega) hfl hTb) (va_cwS 5 F.1.2.2.2.2 gL_law_L_areRecipients rfl rfl rfl (by decide +kernel) ⟨Nat.le_of_ble_eq_true rfl, Nat.le_of_ble_eq_true rfl⟩) rfl rfl (Nat.le_of_ble_eq_true rfl) dL_law_214 ⟨show (((cells + 1700 * zk) + 110) + 1500) + 60 ≤ 600104 by omega, show (((slots + 12600 * zk) + 3100) + 9000) + 360 ≤ 7301314 by omega⟩ (fun _ _ _ _ hv => ?_)
              obtain ⟨rfl, rfl, rfl, rfl⟩ := hv
              refine g_st (st1 := [.int 1]) rfl ?_
              refine g_if_eq F (tgt := 233) dL_law_217 (by decide) (fun zc7 => ?_) (fun zc7 => ?_)
              ·
                exact absurd zc7 (by decide)
              ·
                refine g_aload_n F 1 dL_law_220 rfl rfl ?_
                refine g_aload F 7 dL_law_221 rfl ?_
                refine g_st (st1 := [.ref (ad1 6 0), .ref (ad1 10 0)]) (by rw [hx1 10 (by decide), hx1 6 (by decide)]) ?_
                refine q_callS F (rest := []) [.ref (ad1 10 0), .ref (ad1 6 0)] (lw_areReceipts l D A cs ad1 dm1 σ1 Lx1 cap1 mk1 ev1 zl1 tx1 mt1 tn1 tc1 lb wz1 n1 tq1 t1 kt1 rd1 hC1 hd71 hlo1 hI1 hJb (by omega) hfl hTb) (va_cwS 2 F.1.2.2.2.2 gL_law_L_areReceipts rfl rfl rfl (by decide +kernel) ⟨Nat.le_of_ble_eq_true rfl, Nat.le_of_ble_eq_true rfl⟩) rfl rfl (Nat.le_of_ble_eq_true rfl) dL_law_223 ⟨show ((((cells + 1700 * zk) + 110) + 1500) + 60) + 10 ≤ 600104 by omega, show ((((slots + 12600 * zk) + 3100) + 9000) + 360) + 60 ≤ 7301314 by omega⟩ (fun _ _ _ _ hv => ?_)
                obtain ⟨rfl, rfl, rfl, rfl⟩ := hv
                refine g_st (st1 := [.int 1]) rfl ?_
                refine g_if_eq F (tgt := 233) dL_law_226 (by decide) (fun zc8 => ?_) (fun zc8 => ?_)
                ·
                  exact absurd zc8 (by decide)
                ·
                  refine g_iconst F dL_law_229 (v := 1) (by decide) ?_
                  refine g_goto F (tgt := 234) dL_law_230 (by decide) ?_
                  refine g_istore F (lv1 := [(9, .int 1), (0, .ref (D.2 100 40)), (1, .ref (xd 10)), (2, .ref (xd 1)), (3, .ref (xd 2)), (4, .ref (xd 3)), (5, .ref (xd 4)), (6, .ref (xd 5)), (7, .ref (xd 6)), (8, .ref (xd 7)), (10, .int (nI zk))]) dL_law_234 (by decide) rfl ?_
                  refine g_iinc F (v := (nI (zk + 1))) (lv1 := [(10, .int (nI (zk + 1))), (9, .int 1), (0, .ref (D.2 100 40)), (1, .ref (xd 10)), (2, .ref (xd 1)), (3, .ref (xd 2)), (4, .ref (xd 3)), (5, .ref (xd 4)), (6, .ref (xd 5)), (7, .ref (xd 6)), (8, .ref (xd 7))]) 10 dL_law_236 rfl (nI_1 zk) (by decide) rfl ?_
                  refine g_goto F (tgt := 144) dL_law_239 (by decide) ?_
                  refine g_lv (lv1 := [(0, .ref (D.2 100 40)), (1, .ref (xd 10)), (2, .ref (xd 1)), (3, .ref (xd 2)), (4, .ref (xd 3)), (5, .ref (xd 4)), (6, .ref (xd 5)), (7, .ref (xd 6)), (8, .ref (xd 7)), (9, .int 1), (10, .int (nI (zk + 1)))]) [2, 3, 4, 5, 6, 7, 8, 9, 10, 1, 0] rfl ?_
                  refine g_widen (cells1 := cells + 1700 * (zk + 1)) (slots1 := slots + 12600 * (zk + 1)) (show (((((cells + 1700 * zk) + 110) + 1500) + 60) + 10) ≤ cells + 1700 * (zk + 1) by omega) (show (((((slots + 12600 * zk) + 3100) + 9000) + 360) + 60) ≤ slots + 12600 * (zk + 1) by omega) ?_
                  exact ih _ _ _ _ ⟨⟨n1, tq1, t1, σ1, Lx1, cap1, mk1, ev1, zl1, tx1, mt1, tn1, tc1, lb, wz1, kt1, rd1, hx1, by omega, hC1, hd71, hlo1, hI1, hJb, hTb, rfl⟩, rfl⟩
