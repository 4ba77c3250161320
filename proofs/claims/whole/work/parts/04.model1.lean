/-! the reference's words -/
abbrev inR (v a b : Int32) : Prop := ¬ v < a ∧ ¬ b < v
abbrev accP (v : Int32) : Prop := inR v 0 3
abbrev recP (v : Int32) : Prop := inR v 0 5
def ix (v : Int32) : Nat := v.toNatClampNeg
theorem ix_nI {n : Nat} (h : n < 2 ^ 31) : ix (nI n) = n := nI_clamp h
theorem ix_in {v b : Int32} {n : Nat} (hb : b.toInt = n) (h : inR v 0 b) : v = nI (ix v) ∧ ix v < n + 1 := by
  have h2 : v ≤ b := Int32.not_lt.mp h.2
  obtain ⟨j, hj, rfl⟩ := nI_of2 hb h.1 h2
  have hn : n < 2 ^ 31 := by
    have := b.toInt_lt
    omega
  rw [ix_nI (by omega)]
  exact ⟨rfl, by omega⟩
theorem ix_acc {v : Int32} (h : accP v) : v = nI (ix v) ∧ ix v < 4 := ix_in (n := 3) rfl h
theorem ix_rec {v : Int32} (h : recP v) : v = nI (ix v) ∧ ix v < 6 := ix_in (n := 5) rfl h
theorem cd_ok {P Q : Prop} [Decidable P] [Decidable Q] : (if P then (if Q then (0 : Int32) else 2) else 1) ≤ 0 ↔ P ∧ Q := by
  by_cases hp : P <;> by_cases hq : Q <;> simp [hp, hq] <;> decide
theorem cd_ok1 {P : Prop} [Decidable P] : (bi (¬ P)) ≤ 0 ↔ P := by
  by_cases hp : P <;> simp [bi, hp] <;> decide
set_option maxHeartbeats 4000000 in
set_option maxRecDepth 100000 in
theorem mc_isIn (l : Launch) (D : va_G) (A : Nat → Prop) (cs : Nat → ClassId) (ad : Nat → Nat → Nat) (dm : Nat → Nat → Prop) (w : CF) (v a b : Int32)  : Met l yX6_isIn wsX6_isIn ({ frames := 0, cells := 0, slots := 0, locals := 0 }) (va_Pc [.int v, .int a, .int b] (PW D A (tysG cs) ad dm w)) (va_Qi (fun r (_ : Unit) => r = (bi (inR v a b))) (fun _ t => PW D A (tysG cs) ad dm w t) A) 0 0 A := by
  refine g_start (own := RX6) [.int v, .int a, .int b] (cc := cX6_isIn) (maxL := 3) (ret := (some .boolean)) (lv0 := [(0, .int v), (1, .int a), (2, .int b)]) (by decide) rfl rfl (Nat.le_of_ble_eq_true rfl) rfl ?_
  intro p e s m below meth c F hr hlocks hname
  refine g_iload_n F 0 dX6_isIn_0 rfl rfl ?_
  refine g_iload_n F 1 dX6_isIn_1 rfl rfl ?_
  refine g_cut (w2 := w) (pc2 := 15) (lv2 := [(0, .int v), (1, .int a), (2, .int b)]) (st2 := [.int (bi (((¬ v < a) ∧ (¬ b < v))))]) ?_ (fun hJ1 => ?_)
  ·
    exact g_zret F hr (bi_nar _) (rfl) hlocks (fun _ h => h) dX6_isIn_15
  ·
    refine g_icmp_lt F (tgt := 14) dX6_isIn_2 (by decide) (fun c2 => ?_) (fun c2 => ?_)
    ·
      refine g_iconst F dX6_isIn_14 (v := 0) (by decide) ?_
      exact g_top (bi_f (fun q => (fun q => q c2) q.1)) hJ1
    ·
      refine g_iload_n F 0 dX6_isIn_5 rfl rfl ?_
      refine g_iload_n F 2 dX6_isIn_6 rfl rfl ?_
      refine g_icmp_gt F (tgt := 14) dX6_isIn_7 (by decide) (fun c3 => ?_) (fun c3 => ?_)
      ·
        refine g_iconst F dX6_isIn_14 (v := 0) (by decide) ?_
        exact g_top (bi_f (fun q => (fun q => q c3) q.2)) hJ1
      ·
        refine g_iconst F dX6_isIn_10 (v := 1) (by decide) ?_
        refine g_goto F (tgt := 15) dX6_isIn_11 (by decide) ?_
        exact g_top (bi_t ⟨c2, c3⟩) hJ1
set_option maxHeartbeats 4000000 in
set_option maxRecDepth 100000 in
theorem mc_isAccount (l : Launch) (D : va_G) (A : Nat → Prop) (cs : Nat → ClassId) (ad : Nat → Nat → Nat) (dm : Nat → Nat → Prop) (w : CF) (v : Int32)  : Met l yX6_isAccount wsX6_isAccount ({ frames := 1, cells := 0, slots := 0, locals := 22 }) (va_Pc [.int v] (PW D A (tysG cs) ad dm w)) (va_Qi (fun r (_ : Unit) => r = (bi (accP v))) (fun _ t => PW D A (tysG cs) ad dm w t) A) 0 0 A := by
  refine g_start (own := RX6) [.int v] (cc := cX6_isAccount) (maxL := 1) (ret := (some .boolean)) (lv0 := [(0, .int v)]) (by decide) rfl rfl (Nat.le_of_ble_eq_true rfl) rfl ?_
  intro p e s m below meth c F hr hlocks hname
  refine g_iload_n F 0 dX6_isAccount_0 rfl rfl ?_
  refine g_iconst F dX6_isAccount_1 (v := 0) (by decide) ?_
  refine g_iconst F dX6_isAccount_2 (v := 3) (by decide) ?_
  refine g_callSi F (rest := []) [.int v, .int 0, .int 3] (mc_isIn l D A cs ad dm w v 0 3) (va_cwS 3 F.1.2.2.2.2 gX6_isAccount_X6_isIn rfl rfl rfl (by decide +kernel) ⟨Nat.le_of_ble_eq_true rfl, Nat.le_of_ble_eq_true rfl⟩) rfl rfl (Nat.le_of_ble_eq_true rfl) dX6_isAccount_3 ⟨Nat.le_of_ble_eq_true rfl, Nat.le_of_ble_eq_true rfl⟩ ?_
  exact g_zret F hr (bi_nar _) (rfl) hlocks (fun _ h => h) dX6_isAccount_6
set_option maxHeartbeats 4000000 in
set_option maxRecDepth 100000 in
theorem mc_isRecipient (l : Launch) (D : va_G) (A : Nat → Prop) (cs : Nat → ClassId) (ad : Nat → Nat → Nat) (dm : Nat → Nat → Prop) (w : CF) (v : Int32)  : Met l yX6_isRecipient wsX6_isRecipient ({ frames := 1, cells := 0, slots := 0, locals := 22 }) (va_Pc [.int v] (PW D A (tysG cs) ad dm w)) (va_Qi (fun r (_ : Unit) => r = (bi (recP v))) (fun _ t => PW D A (tysG cs) ad dm w t) A) 0 0 A := by
  refine g_start (own := RX6) [.int v] (cc := cX6_isRecipient) (maxL := 1) (ret := (some .boolean)) (lv0 := [(0, .int v)]) (by decide) rfl rfl (Nat.le_of_ble_eq_true rfl) rfl ?_
  intro p e s m below meth c F hr hlocks hname
  refine g_iload_n F 0 dX6_isRecipient_0 rfl rfl ?_
  refine g_iconst F dX6_isRecipient_1 (v := 0) (by decide) ?_
  refine g_iconst F dX6_isRecipient_2 (v := 5) (by decide) ?_
  refine g_callSi F (rest := []) [.int v, .int 0, .int 5] (mc_isIn l D A cs ad dm w v 0 5) (va_cwS 3 F.1.2.2.2.2 gX6_isRecipient_X6_isIn rfl rfl rfl (by decide +kernel) ⟨Nat.le_of_ble_eq_true rfl, Nat.le_of_ble_eq_true rfl⟩) rfl rfl (Nat.le_of_ble_eq_true rfl) dX6_isRecipient_3 ⟨Nat.le_of_ble_eq_true rfl, Nat.le_of_ble_eq_true rfl⟩ ?_
  exact g_zret F hr (bi_nar _) (rfl) hlocks (fun _ h => h) dX6_isRecipient_6
set_option maxHeartbeats 4000000 in
set_option maxRecDepth 100000 in
theorem mc_fails (l : Launch) (D : va_G) (A : Nat → Prop) (cs : Nat → ClassId) (ad : Nat → Nat → Nat) (dm : Nat → Nat → Prop) (w0 : CF) (σ : SG) (v : Int32) (hM : MD dm)  : Met l yX6_fails wsX6_fails ({ frames := 0, cells := 0, slots := 0, locals := 0 }) (va_Pc [.ref (ad 0 0), .int v] (PW D A (tysG cs) ad dm (mw ad cs σ w0))) (va_Qi (fun r (_ : Unit) => r = (bi (¬ v ≤ 0))) (fun _ t => PW D A (tysG cs) ad dm (mw ad cs (up2 σ 32 0 v) w0) t) A) 0 0 A := by
  refine g_start (own := RX6) [.ref (ad 0 0), .int v] (cc := cX6_fails) (maxL := 2) (ret := (some .boolean)) (lv0 := [(0, .ref (ad 0 0)), (1, .int v)]) (by decide) rfl rfl (Nat.le_of_ble_eq_true rfl) rfl ?_
  intro p e s m below meth c F hr hlocks hname
  have hin : ∀ w ∈ wsX60, w ∈ wsX6_fails := by decide +kernel
  refine g_aload_n F 0 dX6_fails_0 rfl rfl ?_
  refine g_iload_n F 1 dX6_fails_1 rfl rfl ?_
  refine mg_put F hM hin 32 (by decide) rfl (fun x => mset_32 ad _ x) (by decide +kernel) rfl rfl (by decide +kernel) dX6_fails_2 ?_
  refine g_iload_n F 1 dX6_fails_5 rfl rfl ?_
  refine g_cut (w2 := (mw ad cs (up2 σ 32 0 v) w0)) (pc2 := 14) (lv2 := [(0, .ref (ad 0 0)), (1, .int v)]) (st2 := [.int (bi (¬ v ≤ 0))]) ?_ (fun hJ1 => ?_)
  ·
    exact g_zret F hr (bi_nar _) rfl hlocks (fun _ h => h) dX6_fails_14
  ·
    refine g_if_le F (tgt := 13) dX6_fails_6 (by decide) (fun c2 => ?_) (fun c2 => ?_)
    ·
      refine g_iconst F dX6_fails_13 (v := 0) (by decide) ?_
      exact g_top (bi_f (fun q => q c2)) hJ1
    ·
      refine g_iconst F dX6_fails_9 (v := 1) (by decide) ?_
      refine g_goto F (tgt := 14) dX6_fails_10 (by decide) ?_
      exact g_top (bi_t c2) hJ1
set_option maxHeartbeats 4000000 in
set_option maxRecDepth 100000 in
theorem mc_tells (l : Launch) (D : va_G) (A : Nat → Prop) (cs : Nat → ClassId) (ad : Nat → Nat → Nat) (dm : Nat → Nat → Prop) (w0 : CF) (σ : SG) (v : Int32) (hM : MD dm)  : Met l yX6_tells wsX6_tells ({ frames := 0, cells := 0, slots := 0, locals := 0 }) (va_Pc [.ref (ad 0 0), .int v] (PW D A (tysG cs) ad dm (mw ad cs σ w0))) (va_Qi (fun r (_ : Unit) => r = v) (fun _ t => PW D A (tysG cs) ad dm (mw ad cs (up2 σ 32 0 0) w0) t) A) 0 0 A := by
  refine g_start (own := RX6) [.ref (ad 0 0), .int v] (cc := cX6_tells) (maxL := 2) (ret := (some .int)) (lv0 := [(0, .ref (ad 0 0)), (1, .int v)]) (by decide) rfl rfl (Nat.le_of_ble_eq_true rfl) rfl ?_
  intro p e s m below meth c F hr hlocks hname
  have hin : ∀ w ∈ wsX60, w ∈ wsX6_tells := by decide +kernel
  refine g_aload_n F 0 dX6_tells_0 rfl rfl ?_
  refine g_iconst F dX6_tells_1 (v := 0) (by decide) ?_
  refine mg_put F hM hin 32 (by decide) rfl (fun x => mset_32 ad _ x) (by decide +kernel) rfl rfl (by decide +kernel) dX6_tells_2 ?_
  refine g_iload_n F 1 dX6_tells_5 rfl rfl ?_
  exact g_iret F hr rfl hlocks (fun _ h => h) dX6_tells_6
set_option maxHeartbeats 4000000 in
set_option maxRecDepth 100000 in
theorem mc_thrown (l : Launch) (D : va_G) (A : Nat → Prop) (cs : Nat → ClassId) (ad : Nat → Nat → Nat) (dm : Nat → Nat → Prop) (w0 : CF) (σ : SG)  (hM : MD dm)  : Met l yX6_thrown wsX6_thrown ({ frames := 0, cells := 0, slots := 0, locals := 0 }) (va_Pc [.ref (ad 0 0)] (PW D A (tysG cs) ad dm (mw ad cs σ w0))) (va_Qi (fun r (_ : Unit) => r = (σ 32 0)) (fun _ t => PW D A (tysG cs) ad dm (mw ad cs σ w0) t) A) 0 0 A := by
  refine g_start (own := RX6) [.ref (ad 0 0)] (cc := cX6_thrown) (maxL := 1) (ret := (some .int)) (lv0 := [(0, .ref (ad 0 0))]) (by decide) rfl rfl (Nat.le_of_ble_eq_true rfl) rfl ?_
  intro p e s m below meth c F hr hlocks hname
  have hin : ∀ w ∈ wsX60, w ∈ wsX6_thrown := by decide +kernel
  refine g_aload_n F 0 dX6_thrown_0 rfl rfl ?_
  refine mg_get F hM hin 32 (by decide) rfl (by decide +kernel) rfl dX6_thrown_1 ?_
  exact g_iret F hr rfl hlocks (fun _ h => h) dX6_thrown_4
set_option maxHeartbeats 4000000 in
set_option maxRecDepth 100000 in
theorem mc_messages (l : Launch) (D : va_G) (A : Nat → Prop) (cs : Nat → ClassId) (ad : Nat → Nat → Nat) (dm : Nat → Nat → Prop) (w0 : CF) (σ : SG)  (hM : MD dm)  : Met l yX6_messages wsX6_messages ({ frames := 1, cells := 0, slots := 0, locals := 21 }) (va_Pc [.ref (ad 0 0)] (PW D A (tysG cs) ad dm (mw ad cs σ w0))) (va_Qi (fun r (_ : Unit) => r = (σ 11 0)) (fun _ t => PW D A (tysG cs) ad dm (mw ad cs (up2 σ 32 0 0) w0) t) A) 0 0 A := by
  refine g_start (own := RX6) [.ref (ad 0 0)] (cc := cX6_messages) (maxL := 1) (ret := (some .int)) (lv0 := [(0, .ref (ad 0 0))]) (by decide) rfl rfl (Nat.le_of_ble_eq_true rfl) rfl ?_
  intro p e s m below meth c F hr hlocks hname
  have hin : ∀ w ∈ wsX60, w ∈ wsX6_messages := by decide +kernel
  refine g_aload_n F 0 dX6_messages_0 rfl rfl ?_
  refine g_aload_n F 0 dX6_messages_1 rfl rfl ?_
  refine mg_get F hM hin 11 (by decide) rfl (by decide +kernel) rfl dX6_messages_2 ?_
  refine g_callVi F (C := RX6) (k := 0) (i := 0) (ci := 6) (T := TX6) (N := 33) (rest := []) [.int (σ 11 0)] (mc_tells l D A cs ad dm w0 σ (σ 11 0) hM) (cwV 1 F.1.2.2.2.2 gX6_messages_X6_tells rfl rfl rfl (by decide +kernel) ⟨Nat.le_of_ble_eq_true rfl, Nat.le_of_ble_eq_true rfl⟩) rfl hM.1 rfl rfl rfl rfl (Nat.le_of_ble_eq_true rfl) dX6_messages_5 ⟨Nat.le_of_ble_eq_true rfl, Nat.le_of_ble_eq_true rfl⟩ ?_
  exact g_iret F hr rfl hlocks (fun _ h => h) dX6_messages_8
set_option maxHeartbeats 4000000 in
set_option maxRecDepth 100000 in
theorem mc_now (l : Launch) (D : va_G) (A : Nat → Prop) (cs : Nat → ClassId) (ad : Nat → Nat → Nat) (dm : Nat → Nat → Prop) (w0 : CF) (σ : SG)  (hM : MD dm)  : Met l yX6_now wsX6_now ({ frames := 1, cells := 0, slots := 0, locals := 21 }) (va_Pc [.ref (ad 0 0)] (PW D A (tysG cs) ad dm (mw ad cs σ w0))) (va_Qi (fun r (_ : Unit) => r = (σ 0 0)) (fun _ t => PW D A (tysG cs) ad dm (mw ad cs (up2 σ 32 0 0) w0) t) A) 0 0 A := by
  refine g_start (own := RX6) [.ref (ad 0 0)] (cc := cX6_now) (maxL := 1) (ret := (some .int)) (lv0 := [(0, .ref (ad 0 0))]) (by decide) rfl rfl (Nat.le_of_ble_eq_true rfl) rfl ?_
  intro p e s m below meth c F hr hlocks hname
  have hin : ∀ w ∈ wsX60, w ∈ wsX6_now := by decide +kernel
  refine g_aload_n F 0 dX6_now_0 rfl rfl ?_
  refine g_aload_n F 0 dX6_now_1 rfl rfl ?_
  refine mg_get F hM hin 0 (by decide) rfl (by decide +kernel) rfl dX6_now_2 ?_
  refine g_callVi F (C := RX6) (k := 0) (i := 0) (ci := 6) (T := TX6) (N := 33) (rest := []) [.int (σ 0 0)] (mc_tells l D A cs ad dm w0 σ (σ 0 0) hM) (cwV 1 F.1.2.2.2.2 gX6_now_X6_tells rfl rfl rfl (by decide +kernel) ⟨Nat.le_of_ble_eq_true rfl, Nat.le_of_ble_eq_true rfl⟩) rfl hM.1 rfl rfl rfl rfl (Nat.le_of_ble_eq_true rfl) dX6_now_5 ⟨Nat.le_of_ble_eq_true rfl, Nat.le_of_ble_eq_true rfl⟩ ?_
  exact g_iret F hr rfl hlocks (fun _ h => h) dX6_now_8
set_option maxHeartbeats 4000000 in
set_option maxRecDepth 100000 in
theorem mc_isMessage (l : Launch) (D : va_G) (A : Nat → Prop) (cs : Nat → ClassId) (ad : Nat → Nat → Nat) (dm : Nat → Nat → Prop) (w0 : CF) (σ : SG) (v : Int32) (hM : MD dm)  : Met l yX6_isMessage wsX6_isMessage ({ frames := 1, cells := 0, slots := 0, locals := 22 }) (va_Pc [.ref (ad 0 0), .int v] (PW D A (tysG cs) ad dm (mw ad cs σ w0))) (va_Qi (fun r (_ : Unit) => r = (bi (inR v 0 (σ 11 0 - 1)))) (fun _ t => PW D A (tysG cs) ad dm (mw ad cs σ w0) t) A) 0 0 A := by
  refine g_start (own := RX6) [.ref (ad 0 0), .int v] (cc := cX6_isMessage) (maxL := 2) (ret := (some .boolean)) (lv0 := [(0, .ref (ad 0 0)), (1, .int v)]) (by decide) rfl rfl (Nat.le_of_ble_eq_true rfl) rfl ?_
  intro p e s m below meth c F hr hlocks hname
  have hin : ∀ w ∈ wsX60, w ∈ wsX6_isMessage := by decide +kernel
  refine g_iload_n F 1 dX6_isMessage_0 rfl rfl ?_
  refine g_iconst F dX6_isMessage_1 (v := 0) (by decide) ?_
  refine g_aload_n F 0 dX6_isMessage_2 rfl rfl ?_
  refine mg_get F hM hin 11 (by decide) rfl (by decide +kernel) rfl dX6_isMessage_3 ?_
  refine g_iconst F dX6_isMessage_6 (v := 1) (by decide) ?_
  refine g_isub F dX6_isMessage_7 ?_
  refine g_callSi F (rest := []) [.int v, .int 0, .int ((σ 11 0) - 1)] (mc_isIn l D A cs ad dm (mw ad cs σ w0) v 0 ((σ 11 0) - 1)) (va_cwS 3 F.1.2.2.2.2 gX6_isMessage_X6_isIn rfl rfl rfl (by decide +kernel) ⟨Nat.le_of_ble_eq_true rfl, Nat.le_of_ble_eq_true rfl⟩) rfl rfl (Nat.le_of_ble_eq_true rfl) dX6_isMessage_8 ⟨Nat.le_of_ble_eq_true rfl, Nat.le_of_ble_eq_true rfl⟩ ?_
  exact g_zret F hr (bi_nar _) (rfl) hlocks (fun _ h => h) dX6_isMessage_11
abbrev waitsP (σ : SG) (j : Nat) (r : Int32) : Prop := σ 23 j = 0 ∧ σ 13 j = r
set_option maxHeartbeats 4000000 in
set_option maxRecDepth 100000 in
theorem mc_waits (l : Launch) (D : va_G) (A : Nat → Prop) (cs : Nat → ClassId) (ad : Nat → Nat → Nat) (dm : Nat → Nat → Prop) (w0 : CF) (σ : SG) (v its : Int32) (j : Nat) (hM : MD dm) (hv : v = nI j) (hj : j < 40) : Met l yX6_waits wsX6_waits ({ frames := 0, cells := 0, slots := 0, locals := 0 }) (va_Pc [.ref (ad 0 0), .int v, .int its] (PW D A (tysG cs) ad dm (mw ad cs σ w0))) (va_Qi (fun r (_ : Unit) => r = (bi (waitsP σ j its))) (fun _ t => PW D A (tysG cs) ad dm (mw ad cs σ w0) t) A) 0 0 A := by
  refine g_start (own := RX6) [.ref (ad 0 0), .int v, .int its] (cc := cX6_waits) (maxL := 3) (ret := (some .boolean)) (lv0 := [(0, .ref (ad 0 0)), (1, .int v), (2, .int its)]) (by decide) rfl rfl (Nat.le_of_ble_eq_true rfl) rfl ?_
  intro p e s m below meth c F hr hlocks hname
  have hin : ∀ w ∈ wsX60, w ∈ wsX6_waits := by decide +kernel
  refine g_aload_n F 0 dX6_waits_0 rfl rfl ?_
  refine mg_get F hM hin 23 (by decide) rfl (by decide +kernel) rfl dX6_waits_1 ?_
  refine g_iload_n F 1 dX6_waits_4 rfl rfl ?_
  refine mg_ald F hM 23 rfl hv (show j < 40 by omega) (v := (σ 23 j)) rfl dX6_waits_5 ?_
  refine g_cut (w2 := (mw ad cs σ w0)) (pc2 := 24) (lv2 := [(0, .ref (ad 0 0)), (1, .int v), (2, .int its)]) (st2 := [.int (bi ((((σ 23 j) = 0) ∧ ((σ 13 j) = its))))]) ?_ (fun hJ1 => ?_)
  ·
    exact g_zret F hr (bi_nar _) (rfl) hlocks (fun _ h => h) dX6_waits_24
  ·
    refine g_if_ne F (tgt := 23) dX6_waits_6 (by decide) (fun c2 => ?_) (fun c2 => ?_)
    ·
      refine g_iconst F dX6_waits_23 (v := 0) (by decide) ?_
      exact g_top (bi_f (fun q => c2 q.1)) hJ1
    ·
      refine g_aload_n F 0 dX6_waits_9 rfl rfl ?_
      refine mg_get F hM hin 13 (by decide) rfl (by decide +kernel) rfl dX6_waits_10 ?_
      refine g_iload_n F 1 dX6_waits_13 rfl rfl ?_
      refine mg_ald F hM 13 rfl hv (show j < 40 by omega) (v := (σ 13 j)) rfl dX6_waits_14 ?_
      refine g_iload_n F 2 dX6_waits_15 rfl rfl ?_
      refine g_icmp_ne F (tgt := 23) dX6_waits_16 (by decide) (fun c3 => ?_) (fun c3 => ?_)
      ·
        refine g_iconst F dX6_waits_23 (v := 0) (by decide) ?_
        exact g_top (bi_f (fun q => c3 q.2)) hJ1
      ·
        refine g_iconst F dX6_waits_19 (v := 1) (by decide) ?_
        refine g_goto F (tgt := 24) dX6_waits_20 (by decide) ?_
        exact g_top (bi_t ⟨c2, c3⟩) hJ1
