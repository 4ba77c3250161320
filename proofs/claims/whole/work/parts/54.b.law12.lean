set_option maxHeartbeats 8000000 in
set_option maxRecDepth 100000 in
theorem la_body {p : Program} {l : Launch} {e : Env} {s : State} {m : MethodId} {args : Array Value} {below : List Frame} {meth : Method} {c : Code} {cells slots : Nat} {Q : State → Prop} {D : va_G} {A : Nat → Prop} {cs : Nat → ClassId} {ad : Nat → Nat → Nat} {dm : Nat → Nat → Prop} (F : FX p s m args c cL_law 9 wsL_law RL D A (tysG cs)) {b L i x0 xm xo t : Nat} {xs : Nat → Int32} {σ : SG} {w : CF} (hX : va_X b L xs s s.heap) (hbl : b < s.heap.size) (hbA : ¬ A b) (hL9 : L ≤ 2560) (hi : i + 4 < L) (hfl : l.stackTraces = false) (ht : t < 900000) (hLI : LI D cs x0 xm xo t σ ad dm w) (hc : cells + 100 ≤ 601024 ∧ slots + 4000 ≤ 7293034) (kk : ∀ (t1 : Nat) (τ : SG) (ad1 : Nat → Nat → Nat) (dm1 : Nat → Nat → Prop) (w1 : CF), t1 ≤ t + 100 → LI D cs x0 xm xo t1 τ ad1 dm1 w1 → GG p l e room_1 s m args below meth c D A ad1 dm1 9 (cells + 100) (slots + 4000) Q w1 1645 [(0, .ref b), (1, .ref x0), (2, .ref xm), (3, .ref xo), (4, .int (nI i))] []) : GG p l e room_1 s m args below meth c D A ad dm 9 cells slots Q w 32 [(0, .ref b), (1, .ref x0), (2, .ref xm), (3, .ref xo), (4, .int (nI i))] [] := by
  refine la_arg0 F (jb := 0) (ji := 4) hX hbl hbA rfl rfl hL9 (by omega) dL_law_32 dL_law_33 dL_law_35 ?_
  refine g_bipush F dL_law_36 (v := 31) (by decide) ?_
  refine g_iand F dL_law_38 ?_
  obtain ⟨k, hk, ek⟩ := and31 (xs i)
  refine g_top ek.symm ?_
  rcases Nat.lt_or_ge k 25 with h | h
  · rcases (show k = 0 ∨ k = 1 ∨ k = 2 ∨ k = 3 ∨ k = 4 ∨ k = 5 ∨ k = 6 ∨ k = 7 ∨ k = 8 ∨ k = 9 ∨ k = 10 ∨ k = 11 ∨ k = 12 ∨ k = 13 ∨ k = 14 ∨ k = 15 ∨ k = 16 ∨ k = 17 ∨ k = 18 ∨ k = 19 ∨ k = 20 ∨ k = 21 ∨ k = 22 ∨ k = 23 ∨ k = 24 by omega) with rfl | rfl | rfl | rfl | rfl | rfl | rfl | rfl | rfl | rfl | rfl | rfl | rfl | rfl | rfl | rfl | rfl | rfl | rfl | rfl | rfl | rfl | rfl | rfl | rfl
    · exact g_tIn F (tgt := 152) dL_law_39 (by decide) (by decide) rfl (by decide) (op_draft F hX hbl hbA hL9 hi hfl ht hLI hc kk)
    · exact g_tIn F (tgt := 260) dL_law_39 (by decide) (by decide) rfl (by decide) (op_setOptions F hX hbl hbA hL9 hi hfl ht hLI hc kk)
    · exact g_tIn F (tgt := 348) dL_law_39 (by decide) (by decide) rfl (by decide) (op_setRate F hX hbl hbA hL9 hi hfl ht hLI hc kk)
    · exact g_tIn F (tgt := 428) dL_law_39 (by decide) (by decide) rfl (by decide) (op_submit F hX hbl hbA hL9 hi hfl ht hLI hc kk)
    · exact g_tIn F (tgt := 520) dL_law_39 (by decide) (by decide) rfl (by decide) (op_delete F hX hbl hbA hL9 hi hfl ht hLI hc kk)
    · exact g_tIn F (tgt := 576) dL_law_39 (by decide) (by decide) rfl (by decide) (op_messages F hX hbl hbA hL9 hi hfl ht hLI hc kk)
    · exact g_tIn F (tgt := 589) dL_law_39 (by decide) (by decide) rfl (by decide) (op_state F hX hbl hbA hL9 hi hfl ht hLI hc kk)
    · exact g_tIn F (tgt := 645) dL_law_39 (by decide) (by decide) rfl (by decide) (op_stateByLog F hX hbl hbA hL9 hi hfl ht hLI hc kk)
    · exact g_tIn F (tgt := 701) dL_law_39 (by decide) (by decide) rfl (by decide) (op_parts F hX hbl hbA hL9 hi hfl ht hLI hc kk)
    · exact g_tIn F (tgt := 757) dL_law_39 (by decide) (by decide) rfl (by decide) (op_lettersIn F hX hbl hbA hL9 hi hfl ht hLI hc kk)
    · exact g_tIn F (tgt := 825) dL_law_39 (by decide) (by decide) rfl (by decide) (op_delivered F hX hbl hbA hL9 hi hfl ht hLI hc kk)
    · exact g_tIn F (tgt := 881) dL_law_39 (by decide) (by decide) rfl (by decide) (op_attempts F hX hbl hbA hL9 hi hfl ht hLI hc kk)
    · exact g_tIn F (tgt := 937) dL_law_39 (by decide) (by decide) rfl (by decide) (op_due F hX hbl hbA hL9 hi hfl ht hLI hc kk)
    · exact g_tIn F (tgt := 993) dL_law_39 (by decide) (by decide) rfl (by decide) (op_setMode F hX hbl hbA hL9 hi hfl ht hLI hc kk)
    · exact g_tIn F (tgt := 1061) dL_law_39 (by decide) (by decide) rfl (by decide) (op_setRoom F hX hbl hbA hL9 hi hfl ht hLI hc kk)
    · exact g_tIn F (tgt := 1129) dL_law_39 (by decide) (by decide) rfl (by decide) (op_read F hX hbl hbA hL9 hi hfl ht hLI hc kk)
    · exact g_tIn F (tgt := 1197) dL_law_39 (by decide) (by decide) rfl (by decide) (op_inRoom F hX hbl hbA hL9 hi hfl ht hLI hc kk)
    · exact g_tIn F (tgt := 1253) dL_law_39 (by decide) (by decide) rfl (by decide) (op_marks F hX hbl hbA hL9 hi hfl ht hLI hc kk)
    · exact g_tIn F (tgt := 1309) dL_law_39 (by decide) (by decide) rfl (by decide) (op_waiting F hX hbl hbA hL9 hi hfl ht hLI hc kk)
    · exact g_tIn F (tgt := 1365) dL_law_39 (by decide) (by decide) rfl (by decide) (op_next F hX hbl hbA hL9 hi hfl ht hLI hc kk)
    · exact g_tIn F (tgt := 1421) dL_law_39 (by decide) (by decide) rfl (by decide) (op_pass F hX hbl hbA hL9 hi hfl ht hLI hc kk)
    · exact g_tIn F (tgt := 1477) dL_law_39 (by decide) (by decide) rfl (by decide) (op_now F hX hbl hbA hL9 hi hfl ht hLI hc kk)
    · exact g_tIn F (tgt := 1490) dL_law_39 (by decide) (by decide) rfl (by decide) (op_receipts F hX hbl hbA hL9 hi hfl ht hLI hc kk)
    · exact g_tIn F (tgt := 1546) dL_law_39 (by decide) (by decide) rfl (by decide) (op_takeReceipt F hX hbl hbA hL9 hi hfl ht hLI hc kk)
    · exact g_tIn F (tgt := 1602) dL_law_39 (by decide) (by decide) rfl (by decide) (op_share F hX hbl hbA hL9 hi hfl ht hLI hc kk)
  · refine g_tOut F (tgt := 1645) dL_law_39 (.inr (by rw [nI_toInt (by omega)]; omega)) (by decide) ?_
    exact g_widen (Nat.le_add_right _ _) (Nat.le_add_right _ _) (kk t σ ad dm w (Nat.le_add_right _ _) hLI)
set_option maxHeartbeats 8000000 in
set_option maxRecDepth 100000 in
theorem law_loop {p : Program} {l : Launch} {e : Env} {s : State} {m : MethodId} {args : Array Value} {below : List Frame} {meth : Method} {c : Code} {cells slots : Nat} {Q : State → Prop} {D : va_G} {A : Nat → Prop} {cs : Nat → ClassId} {ad : Nat → Nat → Nat} {dm : Nat → Nat → Prop} (F : FX p s m args c cL_law 9 wsL_law RL D A (tysG cs)) {b L x0 xm xo c0 s0 : Nat} {xs : Nat → Int32} {σ0 : SG} {w : CF} (hX : va_X b L xs s s.heap) (hbl : b < s.heap.size) (hbA : ¬ A b) (hL9 : L ≤ 2560) (hfl : l.stackTraces = false) (hLI : LI D cs x0 xm xo 0 σ0 ad dm w) (hc0 : cells = c0) (hs0 : slots = s0) (hc : c0 ≤ 500000 ∧ s0 ≤ 5000000)
    (hret : ∀ (ad : Nat → Nat → Nat) (dm : Nat → Nat → Prop) (w : CF) (lv : List (Nat × Value)), GG p l e room_1 s m args below meth c D A ad dm 9 601024 7293034 Q w 1652 lv [.int 1]) : GG p l e room_1 s m args below meth c D A ad dm 9 cells slots Q w 23 [(4, .int 0), (3, .ref xo), (2, .ref xm), (1, .ref x0), (0, .ref b)] [] := by
  subst hc0
  subst hs0
  refine g_lv [4, 3, 2, 1, 0] rfl ?_
  refine g_loopP (L / 5) 0 (Nat.zero_le _) (fun k ad dm w lv => ∃ (t : Nat) (σ : SG), t ≤ 100 * k ∧ LI D cs x0 xm xo t σ ad dm w ∧ lv = [(0, .ref b), (1, .ref x0), (2, .ref xm), (3, .ref xo), (4, .int (nI (5 * k)))]) (fun k => cells + 100 * k) (fun k => slots + 4000 * k) rfl rfl ⟨0, σ0, Nat.le_refl _, hLI, rfl⟩ ?_ ?_
  · intro ad dm w lv h
    obtain ⟨t, σ, ht, hI, rfl⟩ := h
    refine g_iload F 4 dL_law_23 rfl ?_
    refine g_aload_n F 0 dL_law_25 rfl rfl ?_
    refine la_len F hX hbl hbA dL_law_26 ?_
    refine g_iconst F dL_law_27 (v := 5) (by decide) ?_
    refine g_isub F dL_law_28 ?_
    refine g_icmp_gt F (tgt := 1651) dL_law_29 (by decide) (fun _ => ?_) (fun q => absurd ((lt_len hL9 (by omega)).mpr (by omega)) q)
    refine g_iconst F dL_law_1651 (v := 1) (by decide) ?_
    refine g_widen (cells1 := 601024) (slots1 := 7293034) ?_ ?_ (hret _ _ _ _)
    · show cells + 100 * (L / 5) ≤ 601024
      omega
    · show slots + 4000 * (L / 5) ≤ 7293034
      omega
  · intro k _ hk ih ad dm w lv h
    obtain ⟨t, σ, ht, hI, rfl⟩ := h
    have h5 : 5 * k + 5 ≤ L := by omega
    refine g_iload F 4 dL_law_23 rfl ?_
    refine g_aload_n F 0 dL_law_25 rfl rfl ?_
    refine la_len F hX hbl hbA dL_law_26 ?_
    refine g_iconst F dL_law_27 (v := 5) (by decide) ?_
    refine g_isub F dL_law_28 ?_
    refine g_icmp_gt F (tgt := 1651) dL_law_29 (by decide) (fun q => absurd ((lt_len hL9 (by omega)).mp q) (by omega)) (fun _ => ?_)
    refine la_body F hX hbl hbA hL9 (i := 5 * k) (by omega) hfl (show t < 900000 by omega) hI ⟨?_, ?_⟩ (fun t1 τ ad1 dm1 w1 h1 h2 => ?_)
    · show cells + 100 * k + 100 ≤ 601024
      omega
    · show slots + 4000 * k + 4000 ≤ 7293034
      omega
    · refine g_iinc F (v := nI (5 * (k + 1))) (lv1 := [(4, .int (nI (5 * (k + 1)))), (0, .ref b), (1, .ref x0), (2, .ref xm), (3, .ref xo)]) 4 dL_law_1645 rfl (nI_add (5 * k) 5) (by decide) rfl ?_
      refine g_goto F (tgt := 23) dL_law_1648 (by decide) ?_
      refine g_lv [1, 2, 3, 4, 0] rfl ?_
      refine g_widen (cells1 := cells + 100 * (k + 1)) (slots1 := slots + 4000 * (k + 1)) ?_ ?_ (ih _ _ _ _ ⟨t1, τ, by omega, h2, rfl⟩)
      · show cells + 100 * k + 100 ≤ cells + 100 * (k + 1)
        omega
      · show slots + 4000 * k + 4000 ≤ slots + 4000 * (k + 1)
        omega
