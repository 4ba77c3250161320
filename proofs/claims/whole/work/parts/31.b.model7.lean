set_option maxHeartbeats 4000000 in
set_option maxRecDepth 100000 in
theorem mi_tail {p : Program} {l : Launch} {e : Env} {R : Room} {s : State} {m : MethodId} {args : Array Value} {below : List Frame} {meth : Method} {c : Code} {cells slots mc ms : Nat} {D : va_G} {A : Nat → Prop} {cs : Nat → ClassId} {ad : Nat → Nat → Nat} {dm : Nat → Nat → Prop} {w0 : CF} {post : Option Value → (Nat → Nat → Nat) → (Nat → Nat → Prop) → CF → Prop} (F : FX p s m args c cX6_init 2 wsX6_init RX6 D A (tysG cs)) (hr : meth.sig.returnType = none) (hlocks : meth.locks = false) (hM : MD dm) (hmc : cells ≤ mc) (hms : slots ≤ ms) (hpost : post none ad dm (mw ad cs sgI w0)) : GG p l e R s m args below meth c D A ad dm 2 cells slots (MQ below (QW D A (tysG cs) post) args s mc ms A) (mw ad cs z0S w0) 236 [(0, .ref (ad 0 0))] [] := by
  have hin : ∀ w ∈ wsX60, w ∈ wsX6_init := by decide +kernel
  refine g_iconst F dX6_init_236 (v := 0) (by decide) ?_
  refine g_istore_n F (lv1 := [(1, .int 0), (0, .ref (ad 0 0))]) dX6_init_237 rfl (by decide) rfl ?_
  refine g_loop 4 0 (by omega) (fun zk1 => (mw ad cs (in1 zk1) w0)) (fun zk1 => [(1, .int (nI zk1)), (0, .ref (ad 0 0))]) (by rw [in1_0]) rfl ?_ (fun zk1 zhk3 zhk4 zih2 => ?_)
  ·
    show GG p l e _ s m _ below meth c D A ad dm _ _ _ _ (mw ad cs (in1 4) w0) 238 [(1, .int (nI 4)), (0, .ref (ad 0 0))] []
    refine g_iload_n F 0 dX6_init_238 rfl rfl ?_
    refine g_iconst F dX6_init_239 (v := 4) (by decide) ?_
    refine g_icmp_ge F (tgt := 279) dX6_init_240 (by decide) (fun zc5 => ?_) (fun zc5 => ?_)
    ·
      refine g_iconst F dX6_init_279 (v := 0) (by decide) ?_
      refine g_istore_n F (lv1 := [(1, .int 0), (0, .ref (ad 0 0))]) dX6_init_280 rfl (by decide) rfl ?_
      refine g_loop 6 0 (by omega) (fun zk6 => (mw ad cs (in2 zk6) w0)) (fun zk6 => [(1, .int (nI zk6)), (0, .ref (ad 0 0))]) (by rw [in2_0]) rfl ?_ (fun zk6 zhk8 zhk9 zih7 => ?_)
      ·
        show GG p l e _ s m _ below meth c D A ad dm _ _ _ _ (mw ad cs (in2 6) w0) 281 [(1, .int (nI 6)), (0, .ref (ad 0 0))] []
        refine g_iload_n F 0 dX6_init_281 rfl rfl ?_
        refine g_bipush F dX6_init_282 (v := 6) (by decide) ?_
        refine g_icmp_ge F (tgt := 301) dX6_init_284 (by decide) (fun zc10 => ?_) (fun zc10 => ?_)
        ·
          exact g_qv F hr hlocks (fun _ h => h) (by rw [in2_e]; exact hpost) (by omega) (by omega) dX6_init_301
        ·
          exact absurd ((nI_leE (show 6 = nI 6 from rfl) (show (nI 6) = nI 6 from rfl) (show 6 < 2 ^ 31 by omega) (show 6 < 2 ^ 31 by omega)).mpr (by omega)) zc10
      ·
        replace zih7 : GG p l e _ s m _ below meth c D A ad dm _ _ _ _ (mw ad cs (in2 (zk6 + 1)) w0) 281 [(1, .int (nI (zk6 + 1))), (0, .ref (ad 0 0))] [] := zih7
        show GG p l e _ s m _ below meth c D A ad dm _ _ _ _ (mw ad cs (in2 zk6) w0) 281 [(1, .int (nI zk6)), (0, .ref (ad 0 0))] []
        refine g_iload_n F 0 dX6_init_281 rfl rfl ?_
        refine g_bipush F dX6_init_282 (v := 6) (by decide) ?_
        refine g_icmp_ge F (tgt := 301) dX6_init_284 (by decide) (fun zc11 => ?_) (fun zc11 => ?_)
        ·
          exact absurd ((nI_leE (show 6 = nI 6 from rfl) (show (nI zk6) = nI zk6 from rfl) (show 6 < 2 ^ 31 by omega) (show zk6 < 2 ^ 31 by omega)).mp zc11) (by omega)
        ·
          refine g_aload_n F 1 dX6_init_287 rfl rfl ?_
          refine mg_get F hM hin 29 (by decide) rfl (by decide +kernel) rfl dX6_init_288 ?_
          refine g_iload_n F 0 dX6_init_291 rfl rfl ?_
          refine g_bipush F dX6_init_292 (v := 10) (by decide) ?_
          refine mg_ast F hM 29 rfl rfl (show zk6 < 6 by omega) dX6_init_294 ?_
          refine g_iinc F (v := (nI (zk6 + 1))) (lv1 := [(1, .int (nI (zk6 + 1))), (0, .ref (ad 0 0))]) 0 dX6_init_295 rfl (nI_1 zk6) (by decide) rfl ?_
          refine g_goto F (tgt := 281) dX6_init_298 (by decide) ?_
          exact g_lv [0, 1] rfl (g_w (w1 := (mw ad cs (in2 (zk6 + 1)) w0)) (by rw [in2_s]) zih7)
    ·
      exact absurd ((nI_leE (show 4 = nI 4 from rfl) (show (nI 4) = nI 4 from rfl) (show 4 < 2 ^ 31 by omega) (show 4 < 2 ^ 31 by omega)).mpr (by omega)) zc5
  ·
    replace zih2 : GG p l e _ s m _ below meth c D A ad dm _ _ _ _ (mw ad cs (in1 (zk1 + 1)) w0) 238 [(1, .int (nI (zk1 + 1))), (0, .ref (ad 0 0))] [] := zih2
    show GG p l e _ s m _ below meth c D A ad dm _ _ _ _ (mw ad cs (in1 zk1) w0) 238 [(1, .int (nI zk1)), (0, .ref (ad 0 0))] []
    refine g_iload_n F 0 dX6_init_238 rfl rfl ?_
    refine g_iconst F dX6_init_239 (v := 4) (by decide) ?_
    refine g_icmp_ge F (tgt := 279) dX6_init_240 (by decide) (fun zc12 => ?_) (fun zc12 => ?_)
    ·
      exact absurd ((nI_leE (show 4 = nI 4 from rfl) (show (nI zk1) = nI zk1 from rfl) (show 4 < 2 ^ 31 by omega) (show zk1 < 2 ^ 31 by omega)).mp zc12) (by omega)
    ·
      refine g_aload_n F 1 dX6_init_243 rfl rfl ?_
      refine mg_get F hM hin 1 (by decide) rfl (by decide +kernel) rfl dX6_init_244 ?_
      refine g_iload_n F 0 dX6_init_247 rfl rfl ?_
      refine g_iconst F dX6_init_248 (v := 1) (by decide) ?_
      refine mg_ast F hM 1 rfl rfl (show zk1 < 4 by omega) dX6_init_249 ?_
      refine g_aload_n F 1 dX6_init_250 rfl rfl ?_
      refine mg_get F hM hin 5 (by decide) rfl (by decide +kernel) rfl dX6_init_251 ?_
      refine g_iload_n F 0 dX6_init_254 rfl rfl ?_
      refine g_iconst F dX6_init_255 (v := -1) (by decide) ?_
      refine mg_ast F hM 5 rfl rfl (show zk1 < 4 by omega) dX6_init_256 ?_
      refine g_aload_n F 1 dX6_init_257 rfl rfl ?_
      refine mg_get F hM hin 7 (by decide) rfl (by decide +kernel) rfl dX6_init_258 ?_
      refine g_iload_n F 0 dX6_init_261 rfl rfl ?_
      refine g_bipush F dX6_init_262 (v := 20) (by decide) ?_
      refine mg_ast F hM 7 rfl rfl (show zk1 < 4 by omega) dX6_init_264 ?_
      refine g_aload_n F 1 dX6_init_265 rfl rfl ?_
      refine mg_get F hM hin 8 (by decide) rfl (by decide +kernel) rfl dX6_init_266 ?_
      refine g_iload_n F 0 dX6_init_269 rfl rfl ?_
      refine g_bipush F dX6_init_270 (v := 10) (by decide) ?_
      refine mg_ast F hM 8 rfl rfl (show zk1 < 4 by omega) dX6_init_272 ?_
      refine g_iinc F (v := (nI (zk1 + 1))) (lv1 := [(1, .int (nI (zk1 + 1))), (0, .ref (ad 0 0))]) 0 dX6_init_273 rfl (nI_1 zk1) (by decide) rfl ?_
      refine g_goto F (tgt := 238) dX6_init_276 (by decide) ?_
      exact g_lv [0, 1] rfl (g_w (w1 := (mw ad cs (in1 (zk1 + 1)) w0)) (by rw [in1_s]) zih2)
set_option maxHeartbeats 4000000 in
set_option maxRecDepth 100000 in
theorem mi_init (l : Launch) (D : va_G) (A : Nat → Prop) (cs : Nat → ClassId) (ad : Nat → Nat → Nat) (dm : Nat → Nat → Prop) (w : CF) (h00 : dm 0 0) (hdf1 : ∀ b, ¬ dm 1 b) (hw00 : w 0 0 = .inr (6, [.int 0, .null, .null, .null, .null, .null, .null, .null, .null, .null, .null, .int 0, .null, .null, .null, .null, .null, .null, .null, .null, .null, .null, .null, .null, .null, .null, .null, .null, .null, .null, .null, .null, .int 0])) : Met l yX6_init wsX6_init ({ frames := 1, cells := 30, slots := 940, locals := 20 }) (va_Pc [.ref (ad 0 0)] (PW D A (tysG cs) ad dm w)) (QW D A (tysG cs) (fun rz ad1 dm1 w1 => rz = none ∧ (∀ a b, dm a b → ad1 a b = ad a b) ∧ dm1 = dmp dm 32 ∧ w1 = mw ad1 cs sgI w)) 30 940 A := by
  refine g_start (own := RX6) [.ref (ad 0 0)] (cc := cX6_init) (maxL := 2) (ret := none) (lv0 := [(0, .ref (ad 0 0))]) (by decide) rfl rfl (Nat.le_of_ble_eq_true rfl) rfl ?_
  intro p e s m below meth c F hr hlocks hname
  have hin : ∀ w ∈ wsX60, w ∈ wsX6_init := by decide +kernel
  refine g_aload_n F 0 dX6_init_0 rfl rfl ?_
  refine g_obj F (by decide +kernel) (by decide +kernel) (List.mem_cons_of_mem _ (List.mem_append_left _ (List.mem_append_left _ (List.mem_of_getElem? (i := 2) rfl)))) (Nat.le_of_ble_eq_true rfl) (Nat.le_of_ble_eq_true rfl) dX6_init_1 ?_
  refine g_forget (dm1 := dmp dm 1) (ad1 := ad) (w1 := up2 (mz cs w) 0 0 (.inr (6, mfp ad 1))) (fun a b z => z.elim id (fun y => absurd y.2.2 (by rw [show b = 0 by omega]; decide))) (fun _ _ _ => rfl) (fun a b z => by
    have z := z.elim id (fun y => absurd y.2.2 (by rw [show b = 0 by omega]; decide))
    by_cases y : a = 0 ∧ b = 0
    · rw [y.1, y.2, up2_self, hw00]; rfl
    · rw [up2_ne _ _ y]
      unfold mz
      rw [if_neg (fun x => hdf1 b (by rw [← x]; exact z))]) ?_
  refine g_aload_n F 0 dX6_init_4 rfl rfl ?_
  refine g_iconst F dX6_init_5 (v := 4) (by decide) ?_
  refine mi_new (N := 4) F hname hin 1 (by decide) (by decide) rfl rfl (by decide) h00 hdf1 rfl (by decide) (by decide +kernel) (by exact Nat.le_of_ble_eq_true rfl) (by exact Nat.le_of_ble_eq_true rfl) (by decide +kernel) rfl rfl (by decide +kernel) rfl dX6_init_6 dX6_init_8 (fun ad1 h1 => ?_)
  have e1 : ad1 0 0 = ad 0 0 := (h1 0 0 (fun z => absurd z.1 (by decide))).trans rfl
  refine g_aload_n F 0 dX6_init_11 rfl rfl ?_
  refine g_iconst F dX6_init_12 (v := 4) (by decide) ?_
  refine mi_new (N := 4) F hname hin 2 (by decide) (by decide) rfl rfl (by decide) h00 hdf1 rfl (by decide) (by decide +kernel) (by exact Nat.le_of_ble_eq_true rfl) (by exact Nat.le_of_ble_eq_true rfl) (by decide +kernel) rfl rfl (by decide +kernel) e1 dX6_init_13 dX6_init_15 (fun ad2 h2 => ?_)
  have e2 : ad2 0 0 = ad 0 0 := (h2 0 0 (fun z => absurd z.1 (by decide))).trans e1
  refine g_aload_n F 0 dX6_init_18 rfl rfl ?_
  refine g_iconst F dX6_init_19 (v := 4) (by decide) ?_
  refine mi_nez (N := 4) F hname hin 3 (by decide) (by decide) rfl rfl (by decide) h00 hdf1 rfl (by decide) (by decide +kernel) (by exact Nat.le_of_ble_eq_true rfl) (by exact Nat.le_of_ble_eq_true rfl) (by decide +kernel) rfl rfl (by decide +kernel) e2 dX6_init_20 dX6_init_22 (fun ad3 h3 => ?_)
  have e3 : ad3 0 0 = ad 0 0 := (h3 0 0 (fun z => absurd z.1 (by decide))).trans e2
  refine g_aload_n F 0 dX6_init_25 rfl rfl ?_
  refine g_iconst F dX6_init_26 (v := 4) (by decide) ?_
  refine mi_new (N := 4) F hname hin 4 (by decide) (by decide) rfl rfl (by decide) h00 hdf1 rfl (by decide) (by decide +kernel) (by exact Nat.le_of_ble_eq_true rfl) (by exact Nat.le_of_ble_eq_true rfl) (by decide +kernel) rfl rfl (by decide +kernel) e3 dX6_init_27 dX6_init_29 (fun ad4 h4 => ?_)
  have e4 : ad4 0 0 = ad 0 0 := (h4 0 0 (fun z => absurd z.1 (by decide))).trans e3
  refine g_aload_n F 0 dX6_init_32 rfl rfl ?_
  refine g_iconst F dX6_init_33 (v := 4) (by decide) ?_
  refine mi_new (N := 4) F hname hin 5 (by decide) (by decide) rfl rfl (by decide) h00 hdf1 rfl (by decide) (by decide +kernel) (by exact Nat.le_of_ble_eq_true rfl) (by exact Nat.le_of_ble_eq_true rfl) (by decide +kernel) rfl rfl (by decide +kernel) e4 dX6_init_34 dX6_init_36 (fun ad5 h5 => ?_)
  have e5 : ad5 0 0 = ad 0 0 := (h5 0 0 (fun z => absurd z.1 (by decide))).trans e4
  refine g_aload_n F 0 dX6_init_39 rfl rfl ?_
  refine g_iconst F dX6_init_40 (v := 4) (by decide) ?_
  refine mi_nez (N := 4) F hname hin 6 (by decide) (by decide) rfl rfl (by decide) h00 hdf1 rfl (by decide) (by decide +kernel) (by exact Nat.le_of_ble_eq_true rfl) (by exact Nat.le_of_ble_eq_true rfl) (by decide +kernel) rfl rfl (by decide +kernel) e5 dX6_init_41 dX6_init_43 (fun ad6 h6 => ?_)
  have e6 : ad6 0 0 = ad 0 0 := (h6 0 0 (fun z => absurd z.1 (by decide))).trans e5
  refine g_aload_n F 0 dX6_init_46 rfl rfl ?_
  refine g_iconst F dX6_init_47 (v := 4) (by decide) ?_
  refine mi_new (N := 4) F hname hin 7 (by decide) (by decide) rfl rfl (by decide) h00 hdf1 rfl (by decide) (by decide +kernel) (by exact Nat.le_of_ble_eq_true rfl) (by exact Nat.le_of_ble_eq_true rfl) (by decide +kernel) rfl rfl (by decide +kernel) e6 dX6_init_48 dX6_init_50 (fun ad7 h7 => ?_)
  have e7 : ad7 0 0 = ad 0 0 := (h7 0 0 (fun z => absurd z.1 (by decide))).trans e6
  refine g_aload_n F 0 dX6_init_53 rfl rfl ?_
  refine g_iconst F dX6_init_54 (v := 4) (by decide) ?_
  refine mi_new (N := 4) F hname hin 8 (by decide) (by decide) rfl rfl (by decide) h00 hdf1 rfl (by decide) (by decide +kernel) (by exact Nat.le_of_ble_eq_true rfl) (by exact Nat.le_of_ble_eq_true rfl) (by decide +kernel) rfl rfl (by decide +kernel) e7 dX6_init_55 dX6_init_57 (fun ad8 h8 => ?_)
  have e8 : ad8 0 0 = ad 0 0 := (h8 0 0 (fun z => absurd z.1 (by decide))).trans e7
  refine g_aload_n F 0 dX6_init_60 rfl rfl ?_
  refine g_iconst F dX6_init_61 (v := 4) (by decide) ?_
  refine mi_new (N := 4) F hname hin 9 (by decide) (by decide) rfl rfl (by decide) h00 hdf1 rfl (by decide) (by decide +kernel) (by exact Nat.le_of_ble_eq_true rfl) (by exact Nat.le_of_ble_eq_true rfl) (by decide +kernel) rfl rfl (by decide +kernel) e8 dX6_init_62 dX6_init_64 (fun ad9 h9 => ?_)
  have e9 : ad9 0 0 = ad 0 0 := (h9 0 0 (fun z => absurd z.1 (by decide))).trans e8
  refine g_aload_n F 0 dX6_init_67 rfl rfl ?_
  refine g_sipush F dX6_init_68 (v := 160) (by decide) ?_
  refine mi_new (N := 160) F hname hin 10 (by decide) (by decide) rfl rfl (by decide) h00 hdf1 rfl (by decide) (by decide +kernel) (by exact Nat.le_of_ble_eq_true rfl) (by exact Nat.le_of_ble_eq_true rfl) (by decide +kernel) rfl rfl (by decide +kernel) e9 dX6_init_71 dX6_init_73 (fun ad10 h10 => ?_)
  have e10 : ad10 0 0 = ad 0 0 := (h10 0 0 (fun z => absurd z.1 (by decide))).trans e9
  refine g_forget (dm1 := dmp dm 12) (ad1 := ad10) (w1 := up2 (mz cs w) 0 0 (.inr (6, mfp ad10 12))) (fun a b z => z.imp id (fun y => ⟨y.1, by rcases Nat.lt_or_ge b 11 with x | x; exact x; exact absurd y.2.2 (by rw [show b = 11 by omega]; decide), y.2.2⟩)) (fun _ _ _ => rfl) (fun _ _ _ => rfl) ?_
  refine g_aload_n F 0 dX6_init_76 rfl rfl ?_
  refine g_bipush F dX6_init_77 (v := 40) (by decide) ?_
  refine mi_new (N := 40) F hname hin 12 (by decide) (by decide) rfl rfl (by decide) h00 hdf1 rfl (by decide) (by decide +kernel) (by exact Nat.le_of_ble_eq_true rfl) (by exact Nat.le_of_ble_eq_true rfl) (by decide +kernel) rfl rfl (by decide +kernel) e10 dX6_init_79 dX6_init_81 (fun ad12 h12 => ?_)
  have e12 : ad12 0 0 = ad 0 0 := (h12 0 0 (fun z => absurd z.1 (by decide))).trans e10
  refine g_aload_n F 0 dX6_init_84 rfl rfl ?_
  refine g_bipush F dX6_init_85 (v := 40) (by decide) ?_
  refine mi_new (N := 40) F hname hin 13 (by decide) (by decide) rfl rfl (by decide) h00 hdf1 rfl (by decide) (by decide +kernel) (by exact Nat.le_of_ble_eq_true rfl) (by exact Nat.le_of_ble_eq_true rfl) (by decide +kernel) rfl rfl (by decide +kernel) e12 dX6_init_87 dX6_init_89 (fun ad13 h13 => ?_)
  have e13 : ad13 0 0 = ad 0 0 := (h13 0 0 (fun z => absurd z.1 (by decide))).trans e12
  refine g_aload_n F 0 dX6_init_92 rfl rfl ?_
  refine g_bipush F dX6_init_93 (v := 40) (by decide) ?_
  refine mi_new (N := 40) F hname hin 14 (by decide) (by decide) rfl rfl (by decide) h00 hdf1 rfl (by decide) (by decide +kernel) (by exact Nat.le_of_ble_eq_true rfl) (by exact Nat.le_of_ble_eq_true rfl) (by decide +kernel) rfl rfl (by decide +kernel) e13 dX6_init_95 dX6_init_97 (fun ad14 h14 => ?_)
  have e14 : ad14 0 0 = ad 0 0 := (h14 0 0 (fun z => absurd z.1 (by decide))).trans e13
  refine g_aload_n F 0 dX6_init_100 rfl rfl ?_
  refine g_bipush F dX6_init_101 (v := 40) (by decide) ?_
  refine mi_new (N := 40) F hname hin 15 (by decide) (by decide) rfl rfl (by decide) h00 hdf1 rfl (by decide) (by decide +kernel) (by exact Nat.le_of_ble_eq_true rfl) (by exact Nat.le_of_ble_eq_true rfl) (by decide +kernel) rfl rfl (by decide +kernel) e14 dX6_init_103 dX6_init_105 (fun ad15 h15 => ?_)
  have e15 : ad15 0 0 = ad 0 0 := (h15 0 0 (fun z => absurd z.1 (by decide))).trans e14
  refine g_aload_n F 0 dX6_init_108 rfl rfl ?_
  refine g_bipush F dX6_init_109 (v := 40) (by decide) ?_
  refine mi_new (N := 40) F hname hin 16 (by decide) (by decide) rfl rfl (by decide) h00 hdf1 rfl (by decide) (by decide +kernel) (by exact Nat.le_of_ble_eq_true rfl) (by exact Nat.le_of_ble_eq_true rfl) (by decide +kernel) rfl rfl (by decide +kernel) e15 dX6_init_111 dX6_init_113 (fun ad16 h16 => ?_)
  have e16 : ad16 0 0 = ad 0 0 := (h16 0 0 (fun z => absurd z.1 (by decide))).trans e15
  refine g_aload_n F 0 dX6_init_116 rfl rfl ?_
  refine g_bipush F dX6_init_117 (v := 40) (by decide) ?_
  refine mi_new (N := 40) F hname hin 17 (by decide) (by decide) rfl rfl (by decide) h00 hdf1 rfl (by decide) (by decide +kernel) (by exact Nat.le_of_ble_eq_true rfl) (by exact Nat.le_of_ble_eq_true rfl) (by decide +kernel) rfl rfl (by decide +kernel) e16 dX6_init_119 dX6_init_121 (fun ad17 h17 => ?_)
  have e17 : ad17 0 0 = ad 0 0 := (h17 0 0 (fun z => absurd z.1 (by decide))).trans e16
  refine g_aload_n F 0 dX6_init_124 rfl rfl ?_
  refine g_bipush F dX6_init_125 (v := 40) (by decide) ?_
  refine mi_new (N := 40) F hname hin 18 (by decide) (by decide) rfl rfl (by decide) h00 hdf1 rfl (by decide) (by decide +kernel) (by exact Nat.le_of_ble_eq_true rfl) (by exact Nat.le_of_ble_eq_true rfl) (by decide +kernel) rfl rfl (by decide +kernel) e17 dX6_init_127 dX6_init_129 (fun ad18 h18 => ?_)
  have e18 : ad18 0 0 = ad 0 0 := (h18 0 0 (fun z => absurd z.1 (by decide))).trans e17
  refine g_aload_n F 0 dX6_init_132 rfl rfl ?_
  refine g_bipush F dX6_init_133 (v := 40) (by decide) ?_
  refine mi_nez (N := 40) F hname hin 19 (by decide) (by decide) rfl rfl (by decide) h00 hdf1 rfl (by decide) (by decide +kernel) (by exact Nat.le_of_ble_eq_true rfl) (by exact Nat.le_of_ble_eq_true rfl) (by decide +kernel) rfl rfl (by decide +kernel) e18 dX6_init_135 dX6_init_137 (fun ad19 h19 => ?_)
  have e19 : ad19 0 0 = ad 0 0 := (h19 0 0 (fun z => absurd z.1 (by decide))).trans e18
  refine g_aload_n F 0 dX6_init_140 rfl rfl ?_
  refine g_bipush F dX6_init_141 (v := 40) (by decide) ?_
  refine mi_new (N := 40) F hname hin 20 (by decide) (by decide) rfl rfl (by decide) h00 hdf1 rfl (by decide) (by decide +kernel) (by exact Nat.le_of_ble_eq_true rfl) (by exact Nat.le_of_ble_eq_true rfl) (by decide +kernel) rfl rfl (by decide +kernel) e19 dX6_init_143 dX6_init_145 (fun ad20 h20 => ?_)
  have e20 : ad20 0 0 = ad 0 0 := (h20 0 0 (fun z => absurd z.1 (by decide))).trans e19
  refine g_aload_n F 0 dX6_init_148 rfl rfl ?_
  refine g_bipush F dX6_init_149 (v := 40) (by decide) ?_
  refine mi_new (N := 40) F hname hin 21 (by decide) (by decide) rfl rfl (by decide) h00 hdf1 rfl (by decide) (by decide +kernel) (by exact Nat.le_of_ble_eq_true rfl) (by exact Nat.le_of_ble_eq_true rfl) (by decide +kernel) rfl rfl (by decide +kernel) e20 dX6_init_151 dX6_init_153 (fun ad21 h21 => ?_)
  have e21 : ad21 0 0 = ad 0 0 := (h21 0 0 (fun z => absurd z.1 (by decide))).trans e20
  refine g_aload_n F 0 dX6_init_156 rfl rfl ?_
  refine g_bipush F dX6_init_157 (v := 40) (by decide) ?_
  refine mi_nez (N := 40) F hname hin 22 (by decide) (by decide) rfl rfl (by decide) h00 hdf1 rfl (by decide) (by decide +kernel) (by exact Nat.le_of_ble_eq_true rfl) (by exact Nat.le_of_ble_eq_true rfl) (by decide +kernel) rfl rfl (by decide +kernel) e21 dX6_init_159 dX6_init_161 (fun ad22 h22 => ?_)
  have e22 : ad22 0 0 = ad 0 0 := (h22 0 0 (fun z => absurd z.1 (by decide))).trans e21
  refine g_aload_n F 0 dX6_init_164 rfl rfl ?_
  refine g_bipush F dX6_init_165 (v := 40) (by decide) ?_
  refine mi_new (N := 40) F hname hin 23 (by decide) (by decide) rfl rfl (by decide) h00 hdf1 rfl (by decide) (by decide +kernel) (by exact Nat.le_of_ble_eq_true rfl) (by exact Nat.le_of_ble_eq_true rfl) (by decide +kernel) rfl rfl (by decide +kernel) e22 dX6_init_167 dX6_init_169 (fun ad23 h23 => ?_)
  have e23 : ad23 0 0 = ad 0 0 := (h23 0 0 (fun z => absurd z.1 (by decide))).trans e22
  refine g_aload_n F 0 dX6_init_172 rfl rfl ?_
  refine g_bipush F dX6_init_173 (v := 40) (by decide) ?_
  refine mi_new (N := 40) F hname hin 24 (by decide) (by decide) rfl rfl (by decide) h00 hdf1 rfl (by decide) (by decide +kernel) (by exact Nat.le_of_ble_eq_true rfl) (by exact Nat.le_of_ble_eq_true rfl) (by decide +kernel) rfl rfl (by decide +kernel) e23 dX6_init_175 dX6_init_177 (fun ad24 h24 => ?_)
  have e24 : ad24 0 0 = ad 0 0 := (h24 0 0 (fun z => absurd z.1 (by decide))).trans e23
  refine g_aload_n F 0 dX6_init_180 rfl rfl ?_
  refine g_bipush F dX6_init_181 (v := 40) (by decide) ?_
  refine mi_new (N := 40) F hname hin 25 (by decide) (by decide) rfl rfl (by decide) h00 hdf1 rfl (by decide) (by decide +kernel) (by exact Nat.le_of_ble_eq_true rfl) (by exact Nat.le_of_ble_eq_true rfl) (by decide +kernel) rfl rfl (by decide +kernel) e24 dX6_init_183 dX6_init_185 (fun ad25 h25 => ?_)
  have e25 : ad25 0 0 = ad 0 0 := (h25 0 0 (fun z => absurd z.1 (by decide))).trans e24
  refine g_aload_n F 0 dX6_init_188 rfl rfl ?_
  refine g_bipush F dX6_init_189 (v := 40) (by decide) ?_
  refine mi_new (N := 40) F hname hin 26 (by decide) (by decide) rfl rfl (by decide) h00 hdf1 rfl (by decide) (by decide +kernel) (by exact Nat.le_of_ble_eq_true rfl) (by exact Nat.le_of_ble_eq_true rfl) (by decide +kernel) rfl rfl (by decide +kernel) e25 dX6_init_191 dX6_init_193 (fun ad26 h26 => ?_)
  have e26 : ad26 0 0 = ad 0 0 := (h26 0 0 (fun z => absurd z.1 (by decide))).trans e25
  refine g_aload_n F 0 dX6_init_196 rfl rfl ?_
  refine g_bipush F dX6_init_197 (v := 120) (by decide) ?_
  refine mi_new (N := 120) F hname hin 27 (by decide) (by decide) rfl rfl (by decide) h00 hdf1 rfl (by decide) (by decide +kernel) (by exact Nat.le_of_ble_eq_true rfl) (by exact Nat.le_of_ble_eq_true rfl) (by decide +kernel) rfl rfl (by decide +kernel) e26 dX6_init_199 dX6_init_201 (fun ad27 h27 => ?_)
  have e27 : ad27 0 0 = ad 0 0 := (h27 0 0 (fun z => absurd z.1 (by decide))).trans e26
  refine g_aload_n F 0 dX6_init_204 rfl rfl ?_
  refine g_bipush F dX6_init_205 (v := 6) (by decide) ?_
  refine mi_new (N := 6) F hname hin 28 (by decide) (by decide) rfl rfl (by decide) h00 hdf1 rfl (by decide) (by decide +kernel) (by exact Nat.le_of_ble_eq_true rfl) (by exact Nat.le_of_ble_eq_true rfl) (by decide +kernel) rfl rfl (by decide +kernel) e27 dX6_init_207 dX6_init_209 (fun ad28 h28 => ?_)
  have e28 : ad28 0 0 = ad 0 0 := (h28 0 0 (fun z => absurd z.1 (by decide))).trans e27
  refine g_aload_n F 0 dX6_init_212 rfl rfl ?_
  refine g_bipush F dX6_init_213 (v := 6) (by decide) ?_
  refine mi_new (N := 6) F hname hin 29 (by decide) (by decide) rfl rfl (by decide) h00 hdf1 rfl (by decide) (by decide +kernel) (by exact Nat.le_of_ble_eq_true rfl) (by exact Nat.le_of_ble_eq_true rfl) (by decide +kernel) rfl rfl (by decide +kernel) e28 dX6_init_215 dX6_init_217 (fun ad29 h29 => ?_)
  have e29 : ad29 0 0 = ad 0 0 := (h29 0 0 (fun z => absurd z.1 (by decide))).trans e28
  refine g_aload_n F 0 dX6_init_220 rfl rfl ?_
  refine g_bipush F dX6_init_221 (v := 6) (by decide) ?_
  refine mi_new (N := 6) F hname hin 30 (by decide) (by decide) rfl rfl (by decide) h00 hdf1 rfl (by decide) (by decide +kernel) (by exact Nat.le_of_ble_eq_true rfl) (by exact Nat.le_of_ble_eq_true rfl) (by decide +kernel) rfl rfl (by decide +kernel) e29 dX6_init_223 dX6_init_225 (fun ad30 h30 => ?_)
  have e30 : ad30 0 0 = ad 0 0 := (h30 0 0 (fun z => absurd z.1 (by decide))).trans e29
  refine g_aload_n F 0 dX6_init_228 rfl rfl ?_
  refine g_bipush F dX6_init_229 (v := 6) (by decide) ?_
  refine mi_new (N := 6) F hname hin 31 (by decide) (by decide) rfl rfl (by decide) h00 hdf1 rfl (by decide) (by decide +kernel) (by exact Nat.le_of_ble_eq_true rfl) (by exact Nat.le_of_ble_eq_true rfl) (by decide +kernel) rfl rfl (by decide +kernel) e30 dX6_init_231 dX6_init_233 (fun ad31 h31 => ?_)
  have e31 : ad31 0 0 = ad 0 0 := (h31 0 0 (fun z => absurd z.1 (by decide))).trans e30
  have hag : ∀ a b, a ≠ 1 → ad31 a b = ad a b := fun a b hab => (h31 a b (fun z => hab z.1)).trans <| (h30 a b (fun z => hab z.1)).trans <| (h29 a b (fun z => hab z.1)).trans <| (h28 a b (fun z => hab z.1)).trans <| (h27 a b (fun z => hab z.1)).trans <| (h26 a b (fun z => hab z.1)).trans <| (h25 a b (fun z => hab z.1)).trans <| (h24 a b (fun z => hab z.1)).trans <| (h23 a b (fun z => hab z.1)).trans <| (h22 a b (fun z => hab z.1)).trans <| (h21 a b (fun z => hab z.1)).trans <| (h20 a b (fun z => hab z.1)).trans <| (h19 a b (fun z => hab z.1)).trans <| (h18 a b (fun z => hab z.1)).trans <| (h17 a b (fun z => hab z.1)).trans <| (h16 a b (fun z => hab z.1)).trans <| (h15 a b (fun z => hab z.1)).trans <| (h14 a b (fun z => hab z.1)).trans <| (h13 a b (fun z => hab z.1)).trans <| (h12 a b (fun z => hab z.1)).trans <| (h10 a b (fun z => hab z.1)).trans <| (h9 a b (fun z => hab z.1)).trans <| (h8 a b (fun z => hab z.1)).trans <| (h7 a b (fun z => hab z.1)).trans <| (h6 a b (fun z => hab z.1)).trans <| (h5 a b (fun z => hab z.1)).trans <| (h4 a b (fun z => hab z.1)).trans <| (h3 a b (fun z => hab z.1)).trans <| (h2 a b (fun z => hab z.1)).trans <| h1 a b (fun z => hab z.1)
  refine g_w (w1 := mw ad31 cs z0S w) mz_e.symm ?_
  refine g_ls (lv1 := [(0, .ref (ad31 0 0))]) (st1 := []) (by rw [hag 0 0 (by decide)]) rfl ?_
  exact mi_tail F hr hlocks ⟨.inl h00, fun f hf => .inr ⟨rfl, by unfold mlen at hf; split at hf <;> first | omega | (split at hf <;> first | omega | (split at hf <;> first | omega | (split at hf <;> first | omega | (split at hf <;> first | omega | (split at hf <;> omega))))), hf⟩⟩ (by decide) (by decide) ⟨rfl, fun a b z => hag a b (fun y => hdf1 b (by rw [← y]; exact z)), rfl, rfl⟩
