theorem cd_sub {P Q K Z M : Prop} [Decidable P] [Decidable Q] [Decidable K] [Decidable Z] [Decidable M] : (if P then (if Q then (if K then (if Z then (if M then (3 : Int32) else 0) else 3) else 0) else 2) else 1) ≤ 0 ↔ (P ∧ Q) ∧ (K → (Z ∧ ¬ M)) := by
  by_cases hp : P <;> by_cases hq : Q <;> by_cases hk : K <;> by_cases hz : Z <;> by_cases hm : M <;> simp [hp, hq, hk, hz, hm] <;> decide
abbrev dlP (σ : SG) (a : Nat) (v to : Int32) (j : Nat) : Prop := (σ 23 j) = 0 ∧ (σ 12 j) = v ∧ (σ 13 j) = to ∧ (σ 20 j) = (σ 4 a) ∧ (σ 24 j) = 0
def dlF (σ : SG) (a : Nat) (v to : Int32) : Nat → SG
  | 0 => σ
  | k + 1 => if dlP (dlF σ a v to k) a v to k then enS (dlF σ a v to k) k (nI k) 3 else dlF σ a v to k
def dlG (σ : SG) (a : Nat) (v to : Int32) (k : Nat) : SG := if (σ 4 a) = 0 then σ else dlF σ a v to k
theorem enS_ne (σ : SG) (j : Nat) (v how : Int32) {f : Nat} (h1 : f ≠ 23) (h2 : f ≠ 10) (h3 : f ≠ 9) (i : Nat) : enS σ j v how f i = σ f i := by
  unfold enS
  split
  · rw [up2_ne _ _ (fun h => h1 h.1)]
  · rw [up2_ne _ _ (fun h => h3 h.1), up2_ne _ _ (fun h => h2 h.1), up2_ne _ _ (fun h => h1 h.1)]
theorem dlF_ne (σ : SG) (a : Nat) (v to : Int32) {f : Nat} (h1 : f ≠ 23) (h2 : f ≠ 10) (h3 : f ≠ 9) (i : Nat) : ∀ k, dlF σ a v to k f i = σ f i
  | 0 => rfl
  | k + 1 => by
    unfold dlF
    split
    · rw [enS_ne _ _ _ _ h1 h2 h3]; exact dlF_ne σ a v to h1 h2 h3 i k
    · exact dlF_ne σ a v to h1 h2 h3 i k
theorem dlG_ne (σ : SG) (a : Nat) (v to : Int32) {f : Nat} (h1 : f ≠ 23) (h2 : f ≠ 10) (h3 : f ≠ 9) (i k : Nat) : dlG σ a v to k f i = σ f i := by
  unfold dlG
  split
  · rfl
  · exact dlF_ne σ a v to h1 h2 h3 i k
theorem dlG_0 (σ : SG) (a : Nat) (v to : Int32) : dlG σ a v to 0 = σ := by unfold dlG; split <;> rfl
theorem dlG_none {σ : SG} {a : Nat} (v to : Int32) (k : Nat) (h : (σ 4 a) = 0) : dlG σ a v to k = σ := if_pos h
theorem dlG_y {σ : SG} {a : Nat} (v to : Int32) (k : Nat) (h : ¬ (σ 4 a) = 0) (h2 : dlP (dlG σ a v to k) a v to k) : dlG σ a v to (k + 1) = enS (dlG σ a v to k) k (nI k) 3 := by
  have e : dlG σ a v to k = dlF σ a v to k := if_neg h
  rw [e] at h2 ⊢
  unfold dlG
  rw [if_neg h]
  conv => lhs; unfold dlF
  rw [if_pos h2]
theorem dlG_n {σ : SG} {a : Nat} (v to : Int32) (k : Nat) (h : ¬ (σ 4 a) = 0) (h2 : ¬ dlP (dlG σ a v to k) a v to k) : dlG σ a v to (k + 1) = dlG σ a v to k := by
  have e : dlG σ a v to k = dlF σ a v to k := if_neg h
  rw [e] at h2 ⊢
  unfold dlG
  rw [if_neg h]
  conv => lhs; unfold dlF
  rw [if_neg h2]
def nwS (τ σ : SG) (a n : Nat) (v to rank ticks : Int32) : SG := (up2 (up2 (up2 (up2 (up2 (up2 (up2 (up2 (up2 (up2 (up2 (up2 (up2 τ 12 n v) 13 n to) 14 n rank) 15 n ticks) 16 n (σ 0 0)) 26 n (σ 0 0)) 17 n (σ 1 a)) 18 n (σ 2 a)) 19 n (σ 3 a)) 20 n (σ 4 a)) 21 n (σ 5 a)) 22 n (σ 6 a)) 11 0 ((nI n) + 1))
set_option maxHeartbeats 4000000 in
set_option maxRecDepth 100000 in
theorem mc_submit (l : Launch) (D : va_G) (A : Nat → Prop) (cs : Nat → ClassId) (ad : Nat → Nat → Nat) (dm : Nat → Nat → Prop) (w0 : CF) (σ : SG) (its to rank ticks : Int32) (n : Nat) (hM : MD dm) (hn : σ 11 0 = nI n) (hn40 : n ≤ 40) (hw3 : accP its → (σ 3 (ix its)) = bi ((σ 3 (ix its)) = 1)) (hw6 : accP its → (σ 6 (ix its)) = bi ((σ 6 (ix its)) = 1)) (hdl : ∀ k, k < n → dlP (dlG (nwS (up2 σ 32 0 (if ((accP its) ∧ (recP to)) then (if ((inR rank 0 3) ∧ (inR ticks 1 500)) then (if (if ((accP its) ∧ (recP to)) then (knG σ (ix its) its to n) else (-1) : Int32) = (-1) then (if (thF σ (ix its) its n) < (σ 7 (ix its)) then (if (nI n) = 40 then 3 else 0) else 3) else 0) else 2) else 1 : Int32)) σ (ix its) n its to rank ticks) (ix its) its to k) (ix its) its to k → enOK (dlG (nwS (up2 σ 32 0 (if ((accP its) ∧ (recP to)) then (if ((inR rank 0 3) ∧ (inR ticks 1 500)) then (if (if ((accP its) ∧ (recP to)) then (knG σ (ix its) its to n) else (-1) : Int32) = (-1) then (if (thF σ (ix its) its n) < (σ 7 (ix its)) then (if (nI n) = 40 then 3 else 0) else 3) else 0) else 2) else 1 : Int32)) σ (ix its) n its to rank ticks) (ix its) its to k) k) : Met l yX6_submit wsX6_submit ({ frames := 2, cells := 0, slots := 0, locals := 42 }) (va_Pc [.ref (ad 0 0), .int its, .int to, .int rank, .int ticks] (PW D A (tysG cs) ad dm (mw ad cs σ w0))) (va_Qi (fun r (_ : Unit) => r = (if (((((accP its) ∧ (recP to))) ∧ (((inR rank 0 3) ∧ (inR ticks 1 500)))) ∧ (((if ((accP its) ∧ (recP to)) then (knG σ (ix its) its to n) else (-1) : Int32) = (-1)) → (((thF σ (ix its) its n) < (σ 7 (ix its))) ∧ ¬ ((nI n) = 40)))) then (if (if ((accP its) ∧ (recP to)) then (knG σ (ix its) its to n) else (-1) : Int32) = (-1) then (nI n) else (if ((accP its) ∧ (recP to)) then (knG σ (ix its) its to n) else (-1) : Int32)) else 0)) (fun _ t => PW D A (tysG cs) ad dm (mw ad cs (if (((((accP its) ∧ (recP to))) ∧ (((inR rank 0 3) ∧ (inR ticks 1 500)))) ∧ (((if ((accP its) ∧ (recP to)) then (knG σ (ix its) its to n) else (-1) : Int32) = (-1)) → (((thF σ (ix its) its n) < (σ 7 (ix its))) ∧ ¬ ((nI n) = 40)))) then (if (if ((accP its) ∧ (recP to)) then (knG σ (ix its) its to n) else (-1) : Int32) = (-1) then (dlG (nwS (up2 σ 32 0 (if ((accP its) ∧ (recP to)) then (if ((inR rank 0 3) ∧ (inR ticks 1 500)) then (if (if ((accP its) ∧ (recP to)) then (knG σ (ix its) its to n) else (-1) : Int32) = (-1) then (if (thF σ (ix its) its n) < (σ 7 (ix its)) then (if (nI n) = 40 then 3 else 0) else 3) else 0) else 2) else 1 : Int32)) σ (ix its) n its to rank ticks) (ix its) its to n) else (up2 σ 32 0 (if ((accP its) ∧ (recP to)) then (if ((inR rank 0 3) ∧ (inR ticks 1 500)) then (if (if ((accP its) ∧ (recP to)) then (knG σ (ix its) its to n) else (-1) : Int32) = (-1) then (if (thF σ (ix its) its n) < (σ 7 (ix its)) then (if (nI n) = 40 then 3 else 0) else 3) else 0) else 2) else 1 : Int32))) else (up2 σ 32 0 (if ((accP its) ∧ (recP to)) then (if ((inR rank 0 3) ∧ (inR ticks 1 500)) then (if (if ((accP its) ∧ (recP to)) then (knG σ (ix its) its to n) else (-1) : Int32) = (-1) then (if (thF σ (ix its) its n) < (σ 7 (ix its)) then (if (nI n) = 40 then 3 else 0) else 3) else 0) else 2) else 1 : Int32))) w0) t) A) 0 0 A := by
  refine g_start (own := RX6) [.ref (ad 0 0), .int its, .int to, .int rank, .int ticks] (cc := cX6_submit) (maxL := 10) (ret := (some .int)) (lv0 := [(0, .ref (ad 0 0)), (1, .int its), (2, .int to), (3, .int rank), (4, .int ticks)]) (by decide) rfl rfl (Nat.le_of_ble_eq_true rfl) rfl ?_
  intro p e s m below meth c F hr hlocks hname
  have hin : ∀ w ∈ wsX60, w ∈ wsX6_submit := by decide +kernel
  refine g_iload_n F 1 dX6_submit_0 rfl rfl ?_
  refine g_callSi F (rest := []) [.int its] (mc_isAccount l D A cs ad dm (mw ad cs σ w0) its) (va_cwS 1 F.1.2.2.2.2 gX6_submit_X6_isAccount rfl rfl rfl (by decide +kernel) ⟨Nat.le_of_ble_eq_true rfl, Nat.le_of_ble_eq_true rfl⟩) rfl rfl (Nat.le_of_ble_eq_true rfl) dX6_submit_1 ⟨Nat.le_of_ble_eq_true rfl, Nat.le_of_ble_eq_true rfl⟩ ?_
  refine g_cut (w2 := (mw ad cs σ w0)) (pc2 := 19) (lv2 := [(0, .ref (ad 0 0)), (1, .int its), (2, .int to), (3, .int rank), (4, .int ticks)]) (st2 := [.int (bi (((accP its) ∧ (recP to))))]) ?_ (fun hJ1 => ?_)
  ·
    refine g_istore F (lv1 := [(5, .int (bi (((accP its) ∧ (recP to))))), (0, .ref (ad 0 0)), (1, .int its), (2, .int to), (3, .int rank), (4, .int ticks)]) dX6_submit_19 (by decide) rfl ?_
    refine g_iload_n F 4 dX6_submit_21 rfl rfl ?_
    refine g_iconst F dX6_submit_22 (v := 0) (by decide) ?_
    refine g_iconst F dX6_submit_23 (v := 3) (by decide) ?_
    refine g_callSi F (rest := []) [.int rank, .int 0, .int 3] (mc_isIn l D A cs ad dm (mw ad cs σ w0) rank 0 3) (va_cwS 3 F.1.2.2.2.2 gX6_submit_X6_isIn rfl rfl rfl (by decide +kernel) ⟨Nat.le_of_ble_eq_true rfl, Nat.le_of_ble_eq_true rfl⟩) rfl rfl (Nat.le_of_ble_eq_true rfl) dX6_submit_24 ⟨Nat.le_of_ble_eq_true rfl, Nat.le_of_ble_eq_true rfl⟩ ?_
    refine g_cut (w2 := (mw ad cs σ w0)) (pc2 := 47) (lv2 := [(5, .int (bi (((accP its) ∧ (recP to))))), (0, .ref (ad 0 0)), (1, .int its), (2, .int to), (3, .int rank), (4, .int ticks)]) (st2 := [.int (bi (((inR rank 0 3) ∧ (inR ticks 1 500))))]) ?_ (fun hJ2 => ?_)
    ·
      refine g_istore F (lv1 := [(6, .int (bi (((inR rank 0 3) ∧ (inR ticks 1 500))))), (5, .int (bi (((accP its) ∧ (recP to))))), (0, .ref (ad 0 0)), (1, .int its), (2, .int to), (3, .int rank), (4, .int ticks)]) dX6_submit_47 (by decide) rfl ?_
      refine g_iload F 1 dX6_submit_49 rfl ?_
      refine g_cut (w2 := (mw ad cs σ w0)) (pc2 := 64) (lv2 := [(6, .int (bi (((inR rank 0 3) ∧ (inR ticks 1 500))))), (5, .int (bi (((accP its) ∧ (recP to))))), (0, .ref (ad 0 0)), (1, .int its), (2, .int to), (3, .int rank), (4, .int ticks)]) (st2 := [.int (if ((accP its) ∧ (recP to)) then (knG σ (ix its) its to n) else (-1) : Int32)]) ?_ (fun hJ3 => ?_)
      ·
        refine g_istore F (lv1 := [(7, .int (if ((accP its) ∧ (recP to)) then (knG σ (ix its) its to n) else (-1) : Int32)), (6, .int (bi (((inR rank 0 3) ∧ (inR ticks 1 500))))), (5, .int (bi (((accP its) ∧ (recP to))))), (0, .ref (ad 0 0)), (1, .int its), (2, .int to), (3, .int rank), (4, .int ticks)]) dX6_submit_64 (by decide) rfl ?_
        refine g_aload_n F 3 dX6_submit_66 rfl rfl ?_
        refine g_iload F 2 dX6_submit_67 rfl ?_
        refine g_cut (w2 := (mw ad cs σ w0)) (pc2 := 113) (lv2 := [(7, .int (if ((accP its) ∧ (recP to)) then (knG σ (ix its) its to n) else (-1) : Int32)), (6, .int (bi (((inR rank 0 3) ∧ (inR ticks 1 500))))), (5, .int (bi (((accP its) ∧ (recP to))))), (0, .ref (ad 0 0)), (1, .int its), (2, .int to), (3, .int rank), (4, .int ticks)]) (st2 := [.int (if ((accP its) ∧ (recP to)) then (if ((inR rank 0 3) ∧ (inR ticks 1 500)) then (if (if ((accP its) ∧ (recP to)) then (knG σ (ix its) its to n) else (-1) : Int32) = (-1) then (if (thF σ (ix its) its n) < (σ 7 (ix its)) then (if (nI n) = 40 then 3 else 0) else 3) else 0) else 2) else 1 : Int32), .ref (ad 0 0)]) ?_ (fun hJ4 => ?_)
        ·
          refine g_callVi F (C := RX6) (k := 0) (i := 0) (ci := 6) (T := TX6) (N := 33) (rest := []) [.int (if ((accP its) ∧ (recP to)) then (if ((inR rank 0 3) ∧ (inR ticks 1 500)) then (if (if ((accP its) ∧ (recP to)) then (knG σ (ix its) its to n) else (-1) : Int32) = (-1) then (if (thF σ (ix its) its n) < (σ 7 (ix its)) then (if (nI n) = 40 then 3 else 0) else 3) else 0) else 2) else 1 : Int32)] (mc_fails l D A cs ad dm w0 σ (if ((accP its) ∧ (recP to)) then (if ((inR rank 0 3) ∧ (inR ticks 1 500)) then (if (if ((accP its) ∧ (recP to)) then (knG σ (ix its) its to n) else (-1) : Int32) = (-1) then (if (thF σ (ix its) its n) < (σ 7 (ix its)) then (if (nI n) = 40 then 3 else 0) else 3) else 0) else 2) else 1 : Int32) hM) (cwV 1 F.1.2.2.2.2 gX6_submit_X6_fails rfl rfl rfl (by decide +kernel) ⟨Nat.le_of_ble_eq_true rfl, Nat.le_of_ble_eq_true rfl⟩) rfl hM.1 rfl rfl rfl rfl (Nat.le_of_ble_eq_true rfl) dX6_submit_113 ⟨Nat.le_of_ble_eq_true rfl, Nat.le_of_ble_eq_true rfl⟩ ?_
          refine g_ifb_eq F (tgt := 121) dX6_submit_116 (by decide) (fun c5 => ?_) (fun c5 => ?_)
          ·
            replace c5 := Classical.not_not.mp c5
            have hok := cd_sub.mp c5
            obtain ⟨hia, hia4⟩ := ix_acc hok.1.1.1
            refine g_iload F 0 dX6_submit_121 rfl ?_
            refine g_iconst F dX6_submit_123 (v := -1) (by decide) ?_
            refine g_icmp_eq F (tgt := 130) dX6_submit_124 (by decide) (fun c6 => ?_) (fun c6 => ?_)
            ·
              have hn4 : n < 40 := by
                rcases Nat.lt_or_ge n 40 with q | q
                · exact q
                · exact absurd (show (nI n) = 40 by rw [show n = 40 by omega]; rfl) (hok.2 c6).2
              refine g_aload_n F 3 dX6_submit_130 rfl rfl ?_
              refine mg_get F hM hin 11 (by decide) (congrArg (fun z : Int32 => some (Value.int z)) (show (up2 σ 32 0 (if ((accP its) ∧ (recP to)) then (if ((inR rank 0 3) ∧ (inR ticks 1 500)) then (if (if ((accP its) ∧ (recP to)) then (knG σ (ix its) its to n) else (-1) : Int32) = (-1) then (if (thF σ (ix its) its n) < (σ 7 (ix its)) then (if (nI n) = 40 then 3 else 0) else 3) else 0) else 2) else 1 : Int32)) 11 0 = (nI n) from (((up2_ne _ _ (fun h => absurd h.1 (by decide))).trans rfl).trans hn))) (by decide +kernel) rfl dX6_submit_131 ?_
              refine g_istore F (lv1 := [(8, .int (nI n)), (7, .int (if ((accP its) ∧ (recP to)) then (knG σ (ix its) its to n) else (-1) : Int32)), (6, .int (bi (((inR rank 0 3) ∧ (inR ticks 1 500))))), (5, .int (bi (((accP its) ∧ (recP to))))), (0, .ref (ad 0 0)), (1, .int its), (2, .int to), (3, .int rank), (4, .int ticks)]) dX6_submit_134 (by decide) rfl ?_
              refine g_aload_n F 4 dX6_submit_136 rfl rfl ?_
              refine mg_get F hM hin 12 (by decide) rfl (by decide +kernel) rfl dX6_submit_137 ?_
              refine g_iload F 0 dX6_submit_140 rfl ?_
              refine g_iload_n F 5 dX6_submit_142 rfl rfl ?_
              refine mg_ast F hM 12 rfl rfl (show n < 40 by omega) dX6_submit_143 ?_
              refine g_aload_n F 4 dX6_submit_144 rfl rfl ?_
              refine mg_get F hM hin 13 (by decide) rfl (by decide +kernel) rfl dX6_submit_145 ?_
              refine g_iload F 0 dX6_submit_148 rfl ?_
              refine g_iload_n F 6 dX6_submit_150 rfl rfl ?_
              refine mg_ast F hM 13 rfl rfl (show n < 40 by omega) dX6_submit_151 ?_
              refine g_aload_n F 4 dX6_submit_152 rfl rfl ?_
              refine mg_get F hM hin 14 (by decide) rfl (by decide +kernel) rfl dX6_submit_153 ?_
              refine g_iload F 0 dX6_submit_156 rfl ?_
              refine g_iload_n F 7 dX6_submit_158 rfl rfl ?_
              refine mg_ast F hM 14 rfl rfl (show n < 40 by omega) dX6_submit_159 ?_
              refine g_aload_n F 4 dX6_submit_160 rfl rfl ?_
              refine mg_get F hM hin 15 (by decide) rfl (by decide +kernel) rfl dX6_submit_161 ?_
              refine g_iload F 0 dX6_submit_164 rfl ?_
              refine g_iload F 8 dX6_submit_166 rfl ?_
              refine mg_ast F hM 15 rfl rfl (show n < 40 by omega) dX6_submit_168 ?_
              refine g_aload_n F 4 dX6_submit_169 rfl rfl ?_
              refine mg_get F hM hin 16 (by decide) rfl (by decide +kernel) rfl dX6_submit_170 ?_
              refine g_iload F 0 dX6_submit_173 rfl ?_
              refine g_aload_n F 4 dX6_submit_175 rfl rfl ?_
              refine mg_get F hM hin 0 (by decide) (congrArg (fun z : Int32 => some (Value.int z)) (show (up2 (up2 (up2 (up2 (up2 σ 32 0 (if ((accP its) ∧ (recP to)) then (if ((inR rank 0 3) ∧ (inR ticks 1 500)) then (if (if ((accP its) ∧ (recP to)) then (knG σ (ix its) its to n) else (-1) : Int32) = (-1) then (if (thF σ (ix its) its n) < (σ 7 (ix its)) then (if (nI n) = 40 then 3 else 0) else 3) else 0) else 2) else 1 : Int32)) 12 n its) 13 n to) 14 n rank) 15 n ticks) 0 0 = (σ 0 0) from ((up2_ne _ _ (fun h => absurd h.1 (by decide))).trans ((up2_ne _ _ (fun h => absurd h.1 (by decide))).trans ((up2_ne _ _ (fun h => absurd h.1 (by decide))).trans ((up2_ne _ _ (fun h => absurd h.1 (by decide))).trans ((up2_ne _ _ (fun h => absurd h.1 (by decide))).trans rfl))))))) (by decide +kernel) rfl dX6_submit_176 ?_
              refine mg_ast F hM 16 rfl rfl (show n < 40 by omega) dX6_submit_179 ?_
              refine g_aload_n F 4 dX6_submit_180 rfl rfl ?_
              refine mg_get F hM hin 26 (by decide) rfl (by decide +kernel) rfl dX6_submit_181 ?_
              refine g_iload F 0 dX6_submit_184 rfl ?_
              refine g_aload_n F 4 dX6_submit_186 rfl rfl ?_
              refine mg_get F hM hin 0 (by decide) (congrArg (fun z : Int32 => some (Value.int z)) (show (up2 (up2 (up2 (up2 (up2 (up2 σ 32 0 (if ((accP its) ∧ (recP to)) then (if ((inR rank 0 3) ∧ (inR ticks 1 500)) then (if (if ((accP its) ∧ (recP to)) then (knG σ (ix its) its to n) else (-1) : Int32) = (-1) then (if (thF σ (ix its) its n) < (σ 7 (ix its)) then (if (nI n) = 40 then 3 else 0) else 3) else 0) else 2) else 1 : Int32)) 12 n its) 13 n to) 14 n rank) 15 n ticks) 16 n (σ 0 0)) 0 0 = (σ 0 0) from ((up2_ne _ _ (fun h => absurd h.1 (by decide))).trans ((up2_ne _ _ (fun h => absurd h.1 (by decide))).trans ((up2_ne _ _ (fun h => absurd h.1 (by decide))).trans ((up2_ne _ _ (fun h => absurd h.1 (by decide))).trans ((up2_ne _ _ (fun h => absurd h.1 (by decide))).trans ((up2_ne _ _ (fun h => absurd h.1 (by decide))).trans rfl)))))))) (by decide +kernel) rfl dX6_submit_187 ?_
              refine mg_ast F hM 26 rfl rfl (show n < 40 by omega) dX6_submit_190 ?_
              refine g_aload_n F 4 dX6_submit_191 rfl rfl ?_
              refine mg_get F hM hin 17 (by decide) rfl (by decide +kernel) rfl dX6_submit_192 ?_
              refine g_iload F 0 dX6_submit_195 rfl ?_
              refine g_aload_n F 4 dX6_submit_197 rfl rfl ?_
              refine mg_get F hM hin 1 (by decide) rfl (by decide +kernel) rfl dX6_submit_198 ?_
              refine g_iload_n F 5 dX6_submit_201 rfl rfl ?_
              refine mg_ald F hM 1 rfl hia (show (ix its) < 4 by omega) (v := (σ 1 (ix its))) ((up2_ne _ _ (fun h => absurd h.1 (by decide))).trans ((up2_ne _ _ (fun h => absurd h.1 (by decide))).trans ((up2_ne _ _ (fun h => absurd h.1 (by decide))).trans ((up2_ne _ _ (fun h => absurd h.1 (by decide))).trans ((up2_ne _ _ (fun h => absurd h.1 (by decide))).trans ((up2_ne _ _ (fun h => absurd h.1 (by decide))).trans ((up2_ne _ _ (fun h => absurd h.1 (by decide))).trans rfl))))))) dX6_submit_202 ?_
              refine mg_ast F hM 17 rfl rfl (show n < 40 by omega) dX6_submit_203 ?_
              refine g_aload_n F 4 dX6_submit_204 rfl rfl ?_
              refine mg_get F hM hin 18 (by decide) rfl (by decide +kernel) rfl dX6_submit_205 ?_
              refine g_iload F 0 dX6_submit_208 rfl ?_
              refine g_aload_n F 4 dX6_submit_210 rfl rfl ?_
              refine mg_get F hM hin 2 (by decide) rfl (by decide +kernel) rfl dX6_submit_211 ?_
              refine g_iload_n F 5 dX6_submit_214 rfl rfl ?_
              refine mg_ald F hM 2 rfl hia (show (ix its) < 4 by omega) (v := (σ 2 (ix its))) ((up2_ne _ _ (fun h => absurd h.1 (by decide))).trans ((up2_ne _ _ (fun h => absurd h.1 (by decide))).trans ((up2_ne _ _ (fun h => absurd h.1 (by decide))).trans ((up2_ne _ _ (fun h => absurd h.1 (by decide))).trans ((up2_ne _ _ (fun h => absurd h.1 (by decide))).trans ((up2_ne _ _ (fun h => absurd h.1 (by decide))).trans ((up2_ne _ _ (fun h => absurd h.1 (by decide))).trans ((up2_ne _ _ (fun h => absurd h.1 (by decide))).trans rfl)))))))) dX6_submit_215 ?_
              refine mg_ast F hM 18 rfl rfl (show n < 40 by omega) dX6_submit_216 ?_
              refine g_aload_n F 4 dX6_submit_217 rfl rfl ?_
              refine mg_get F hM hin 19 (by decide) rfl (by decide +kernel) rfl dX6_submit_218 ?_
              refine g_iload F 0 dX6_submit_221 rfl ?_
              refine g_aload_n F 4 dX6_submit_223 rfl rfl ?_
              refine mg_get F hM hin 3 (by decide) rfl (by decide +kernel) rfl dX6_submit_224 ?_
              refine g_iload_n F 5 dX6_submit_227 rfl rfl ?_
              refine mg_zld F hM 3 rfl hia (show (ix its) < 4 by omega) (v := (σ 3 (ix its))) ((up2_ne _ _ (fun h => absurd h.1 (by decide))).trans ((up2_ne _ _ (fun h => absurd h.1 (by decide))).trans ((up2_ne _ _ (fun h => absurd h.1 (by decide))).trans ((up2_ne _ _ (fun h => absurd h.1 (by decide))).trans ((up2_ne _ _ (fun h => absurd h.1 (by decide))).trans ((up2_ne _ _ (fun h => absurd h.1 (by decide))).trans ((up2_ne _ _ (fun h => absurd h.1 (by decide))).trans ((up2_ne _ _ (fun h => absurd h.1 (by decide))).trans ((up2_ne _ _ (fun h => absurd h.1 (by decide))).trans rfl))))))))) dX6_submit_228 ?_
              refine mg_zst F hM 19 rfl rfl (show n < 40 by omega) (by rw [hw3 hok.1.1.1]; exact bi_vn _) dX6_submit_229 ?_
              refine g_aload_n F 4 dX6_submit_230 rfl rfl ?_
              refine mg_get F hM hin 20 (by decide) rfl (by decide +kernel) rfl dX6_submit_231 ?_
              refine g_iload F 0 dX6_submit_234 rfl ?_
              refine g_aload_n F 4 dX6_submit_236 rfl rfl ?_
              refine mg_get F hM hin 4 (by decide) rfl (by decide +kernel) rfl dX6_submit_237 ?_
              refine g_iload_n F 5 dX6_submit_240 rfl rfl ?_
              refine mg_ald F hM 4 rfl hia (show (ix its) < 4 by omega) (v := (σ 4 (ix its))) ((up2_ne _ _ (fun h => absurd h.1 (by decide))).trans ((up2_ne _ _ (fun h => absurd h.1 (by decide))).trans ((up2_ne _ _ (fun h => absurd h.1 (by decide))).trans ((up2_ne _ _ (fun h => absurd h.1 (by decide))).trans ((up2_ne _ _ (fun h => absurd h.1 (by decide))).trans ((up2_ne _ _ (fun h => absurd h.1 (by decide))).trans ((up2_ne _ _ (fun h => absurd h.1 (by decide))).trans ((up2_ne _ _ (fun h => absurd h.1 (by decide))).trans ((up2_ne _ _ (fun h => absurd h.1 (by decide))).trans ((up2_ne _ _ (fun h => absurd h.1 (by decide))).trans rfl)))))))))) dX6_submit_241 ?_
              refine mg_ast F hM 20 rfl rfl (show n < 40 by omega) dX6_submit_242 ?_
              refine g_aload_n F 4 dX6_submit_243 rfl rfl ?_
              refine mg_get F hM hin 21 (by decide) rfl (by decide +kernel) rfl dX6_submit_244 ?_
              refine g_iload F 0 dX6_submit_247 rfl ?_
              refine g_aload_n F 4 dX6_submit_249 rfl rfl ?_
              refine mg_get F hM hin 5 (by decide) rfl (by decide +kernel) rfl dX6_submit_250 ?_
              refine g_iload_n F 5 dX6_submit_253 rfl rfl ?_
              refine mg_ald F hM 5 rfl hia (show (ix its) < 4 by omega) (v := (σ 5 (ix its))) ((up2_ne _ _ (fun h => absurd h.1 (by decide))).trans ((up2_ne _ _ (fun h => absurd h.1 (by decide))).trans ((up2_ne _ _ (fun h => absurd h.1 (by decide))).trans ((up2_ne _ _ (fun h => absurd h.1 (by decide))).trans ((up2_ne _ _ (fun h => absurd h.1 (by decide))).trans ((up2_ne _ _ (fun h => absurd h.1 (by decide))).trans ((up2_ne _ _ (fun h => absurd h.1 (by decide))).trans ((up2_ne _ _ (fun h => absurd h.1 (by decide))).trans ((up2_ne _ _ (fun h => absurd h.1 (by decide))).trans ((up2_ne _ _ (fun h => absurd h.1 (by decide))).trans ((up2_ne _ _ (fun h => absurd h.1 (by decide))).trans rfl))))))))))) dX6_submit_254 ?_
              refine mg_ast F hM 21 rfl rfl (show n < 40 by omega) dX6_submit_255 ?_
              refine g_aload_n F 4 dX6_submit_256 rfl rfl ?_
              refine mg_get F hM hin 22 (by decide) rfl (by decide +kernel) rfl dX6_submit_257 ?_
              refine g_iload F 0 dX6_submit_260 rfl ?_
              refine g_aload_n F 4 dX6_submit_262 rfl rfl ?_
              refine mg_get F hM hin 6 (by decide) rfl (by decide +kernel) rfl dX6_submit_263 ?_
              refine g_iload_n F 5 dX6_submit_266 rfl rfl ?_
              refine mg_zld F hM 6 rfl hia (show (ix its) < 4 by omega) (v := (σ 6 (ix its))) ((up2_ne _ _ (fun h => absurd h.1 (by decide))).trans ((up2_ne _ _ (fun h => absurd h.1 (by decide))).trans ((up2_ne _ _ (fun h => absurd h.1 (by decide))).trans ((up2_ne _ _ (fun h => absurd h.1 (by decide))).trans ((up2_ne _ _ (fun h => absurd h.1 (by decide))).trans ((up2_ne _ _ (fun h => absurd h.1 (by decide))).trans ((up2_ne _ _ (fun h => absurd h.1 (by decide))).trans ((up2_ne _ _ (fun h => absurd h.1 (by decide))).trans ((up2_ne _ _ (fun h => absurd h.1 (by decide))).trans ((up2_ne _ _ (fun h => absurd h.1 (by decide))).trans ((up2_ne _ _ (fun h => absurd h.1 (by decide))).trans ((up2_ne _ _ (fun h => absurd h.1 (by decide))).trans rfl)))))))))))) dX6_submit_267 ?_
              refine mg_zst F hM 22 rfl rfl (show n < 40 by omega) (by rw [hw6 hok.1.1.1]; exact bi_vn _) dX6_submit_268 ?_
              refine g_aload_n F 4 dX6_submit_269 rfl rfl ?_
              refine g_dup F dX6_submit_270 rfl ?_
              refine mg_get F hM hin 11 (by decide) (congrArg (fun z : Int32 => some (Value.int z)) (show (up2 (up2 (up2 (up2 (up2 (up2 (up2 (up2 (up2 (up2 (up2 (up2 (up2 σ 32 0 (if ((accP its) ∧ (recP to)) then (if ((inR rank 0 3) ∧ (inR ticks 1 500)) then (if (if ((accP its) ∧ (recP to)) then (knG σ (ix its) its to n) else (-1) : Int32) = (-1) then (if (thF σ (ix its) its n) < (σ 7 (ix its)) then (if (nI n) = 40 then 3 else 0) else 3) else 0) else 2) else 1 : Int32)) 12 n its) 13 n to) 14 n rank) 15 n ticks) 16 n (σ 0 0)) 26 n (σ 0 0)) 17 n (σ 1 (ix its))) 18 n (σ 2 (ix its))) 19 n (σ 3 (ix its))) 20 n (σ 4 (ix its))) 21 n (σ 5 (ix its))) 22 n (σ 6 (ix its))) 11 0 = (nI n) from (((up2_ne _ _ (fun h => absurd h.1 (by decide))).trans ((up2_ne _ _ (fun h => absurd h.1 (by decide))).trans ((up2_ne _ _ (fun h => absurd h.1 (by decide))).trans ((up2_ne _ _ (fun h => absurd h.1 (by decide))).trans ((up2_ne _ _ (fun h => absurd h.1 (by decide))).trans ((up2_ne _ _ (fun h => absurd h.1 (by decide))).trans ((up2_ne _ _ (fun h => absurd h.1 (by decide))).trans ((up2_ne _ _ (fun h => absurd h.1 (by decide))).trans ((up2_ne _ _ (fun h => absurd h.1 (by decide))).trans ((up2_ne _ _ (fun h => absurd h.1 (by decide))).trans ((up2_ne _ _ (fun h => absurd h.1 (by decide))).trans ((up2_ne _ _ (fun h => absurd h.1 (by decide))).trans ((up2_ne _ _ (fun h => absurd h.1 (by decide))).trans rfl))))))))))))).trans hn))) (by decide +kernel) rfl dX6_submit_271 ?_
              refine g_iconst F dX6_submit_274 (v := 1) (by decide) ?_
              refine g_iadd F dX6_submit_275 ?_
              refine mg_put F hM hin 11 (by decide) rfl (fun x => mset_11 ad _ x) (by decide +kernel) rfl rfl (by decide +kernel) dX6_submit_276 ?_
              refine g_w (w1 := (mw ad cs (nwS (up2 σ 32 0 (if ((accP its) ∧ (recP to)) then (if ((inR rank 0 3) ∧ (inR ticks 1 500)) then (if (if ((accP its) ∧ (recP to)) then (knG σ (ix its) its to n) else (-1) : Int32) = (-1) then (if (thF σ (ix its) its n) < (σ 7 (ix its)) then (if (nI n) = 40 then 3 else 0) else 3) else 0) else 2) else 1 : Int32)) σ (ix its) n its to rank ticks) w0)) rfl ?_
              refine g_iconst F dX6_submit_279 (v := 0) (by decide) ?_
              refine g_istore F (lv1 := [(9, .int 0), (8, .int (nI n)), (7, .int (if ((accP its) ∧ (recP to)) then (knG σ (ix its) its to n) else (-1) : Int32)), (6, .int (bi (((inR rank 0 3) ∧ (inR ticks 1 500))))), (5, .int (bi (((accP its) ∧ (recP to))))), (0, .ref (ad 0 0)), (1, .int its), (2, .int to), (3, .int rank), (4, .int ticks)]) dX6_submit_280 (by decide) rfl ?_
              refine g_loop n 0 (by omega) (fun k7 => (mw ad cs (dlG (nwS (up2 σ 32 0 (if ((accP its) ∧ (recP to)) then (if ((inR rank 0 3) ∧ (inR ticks 1 500)) then (if (if ((accP its) ∧ (recP to)) then (knG σ (ix its) its to n) else (-1) : Int32) = (-1) then (if (thF σ (ix its) its n) < (σ 7 (ix its)) then (if (nI n) = 40 then 3 else 0) else 3) else 0) else 2) else 1 : Int32)) σ (ix its) n its to rank ticks) (ix its) its to k7) w0)) (fun k7 => [(9, .int (nI k7)), (8, .int (nI n)), (7, .int (if ((accP its) ∧ (recP to)) then (knG σ (ix its) its to n) else (-1) : Int32)), (6, .int (bi (((inR rank 0 3) ∧ (inR ticks 1 500))))), (5, .int (bi (((accP its) ∧ (recP to))))), (0, .ref (ad 0 0)), (1, .int its), (2, .int to), (3, .int rank), (4, .int ticks)]) (by rw [dlG_0]) rfl ?_ (fun k7 hk9 hk10 ih8 => ?_)
              ·
                show GG p l e _ s m _ below meth c D A ad dm _ _ _ _ (mw ad cs (dlG (nwS (up2 σ 32 0 (if ((accP its) ∧ (recP to)) then (if ((inR rank 0 3) ∧ (inR ticks 1 500)) then (if (if ((accP its) ∧ (recP to)) then (knG σ (ix its) its to n) else (-1) : Int32) = (-1) then (if (thF σ (ix its) its n) < (σ 7 (ix its)) then (if (nI n) = 40 then 3 else 0) else 3) else 0) else 2) else 1 : Int32)) σ (ix its) n its to rank ticks) (ix its) its to n) w0) 282 [(9, .int (nI n)), (8, .int (nI n)), (7, .int (if ((accP its) ∧ (recP to)) then (knG σ (ix its) its to n) else (-1) : Int32)), (6, .int (bi (((inR rank 0 3) ∧ (inR ticks 1 500))))), (5, .int (bi (((accP its) ∧ (recP to))))), (0, .ref (ad 0 0)), (1, .int its), (2, .int to), (3, .int rank), (4, .int ticks)] []
                refine g_iload F 0 dX6_submit_282 rfl ?_
                refine g_iload F 1 dX6_submit_284 rfl ?_
                refine g_icmp_ge F (tgt := 369) dX6_submit_286 (by decide) (fun c11 => ?_) (fun c11 => ?_)
                ·
                  refine g_iload F 1 dX6_submit_369 rfl ?_
                  exact g_iret F hr ((by rw [if_pos hok, if_pos c6])) hlocks (fun _ h => by rw [show (mw ad cs (if (((((accP its) ∧ (recP to))) ∧ (((inR rank 0 3) ∧ (inR ticks 1 500)))) ∧ (((if ((accP its) ∧ (recP to)) then (knG σ (ix its) its to n) else (-1) : Int32) = (-1)) → (((thF σ (ix its) its n) < (σ 7 (ix its))) ∧ ¬ ((nI n) = 40)))) then (if (if ((accP its) ∧ (recP to)) then (knG σ (ix its) its to n) else (-1) : Int32) = (-1) then (dlG (nwS (up2 σ 32 0 (if ((accP its) ∧ (recP to)) then (if ((inR rank 0 3) ∧ (inR ticks 1 500)) then (if (if ((accP its) ∧ (recP to)) then (knG σ (ix its) its to n) else (-1) : Int32) = (-1) then (if (thF σ (ix its) its n) < (σ 7 (ix its)) then (if (nI n) = 40 then 3 else 0) else 3) else 0) else 2) else 1 : Int32)) σ (ix its) n its to rank ticks) (ix its) its to n) else (up2 σ 32 0 (if ((accP its) ∧ (recP to)) then (if ((inR rank 0 3) ∧ (inR ticks 1 500)) then (if (if ((accP its) ∧ (recP to)) then (knG σ (ix its) its to n) else (-1) : Int32) = (-1) then (if (thF σ (ix its) its n) < (σ 7 (ix its)) then (if (nI n) = 40 then 3 else 0) else 3) else 0) else 2) else 1 : Int32))) else (up2 σ 32 0 (if ((accP its) ∧ (recP to)) then (if ((inR rank 0 3) ∧ (inR ticks 1 500)) then (if (if ((accP its) ∧ (recP to)) then (knG σ (ix its) its to n) else (-1) : Int32) = (-1) then (if (thF σ (ix its) its n) < (σ 7 (ix its)) then (if (nI n) = 40 then 3 else 0) else 3) else 0) else 2) else 1 : Int32))) w0) = (mw ad cs (dlG (nwS (up2 σ 32 0 (if ((accP its) ∧ (recP to)) then (if ((inR rank 0 3) ∧ (inR ticks 1 500)) then (if (if ((accP its) ∧ (recP to)) then (knG σ (ix its) its to n) else (-1) : Int32) = (-1) then (if (thF σ (ix its) its n) < (σ 7 (ix its)) then (if (nI n) = 40 then 3 else 0) else 3) else 0) else 2) else 1 : Int32)) σ (ix its) n its to rank ticks) (ix its) its to n) w0) from (by rw [if_pos hok, if_pos c6])]; exact h) dX6_submit_371
                ·
                  exact absurd ((nI_leE (show (nI n) = nI n from rfl) (show (nI n) = nI n from rfl) (show n < 2 ^ 31 by omega) (show n < 2 ^ 31 by omega)).mpr (by omega)) c11
              ·
                replace ih8 : GG p l e _ s m _ below meth c D A ad dm _ _ _ _ (mw ad cs (dlG (nwS (up2 σ 32 0 (if ((accP its) ∧ (recP to)) then (if ((inR rank 0 3) ∧ (inR ticks 1 500)) then (if (if ((accP its) ∧ (recP to)) then (knG σ (ix its) its to n) else (-1) : Int32) = (-1) then (if (thF σ (ix its) its n) < (σ 7 (ix its)) then (if (nI n) = 40 then 3 else 0) else 3) else 0) else 2) else 1 : Int32)) σ (ix its) n its to rank ticks) (ix its) its to (k7 + 1)) w0) 282 [(9, .int (nI (k7 + 1))), (8, .int (nI n)), (7, .int (if ((accP its) ∧ (recP to)) then (knG σ (ix its) its to n) else (-1) : Int32)), (6, .int (bi (((inR rank 0 3) ∧ (inR ticks 1 500))))), (5, .int (bi (((accP its) ∧ (recP to))))), (0, .ref (ad 0 0)), (1, .int its), (2, .int to), (3, .int rank), (4, .int ticks)] [] := ih8
                show GG p l e _ s m _ below meth c D A ad dm _ _ _ _ (mw ad cs (dlG (nwS (up2 σ 32 0 (if ((accP its) ∧ (recP to)) then (if ((inR rank 0 3) ∧ (inR ticks 1 500)) then (if (if ((accP its) ∧ (recP to)) then (knG σ (ix its) its to n) else (-1) : Int32) = (-1) then (if (thF σ (ix its) its n) < (σ 7 (ix its)) then (if (nI n) = 40 then 3 else 0) else 3) else 0) else 2) else 1 : Int32)) σ (ix its) n its to rank ticks) (ix its) its to k7) w0) 282 [(9, .int (nI k7)), (8, .int (nI n)), (7, .int (if ((accP its) ∧ (recP to)) then (knG σ (ix its) its to n) else (-1) : Int32)), (6, .int (bi (((inR rank 0 3) ∧ (inR ticks 1 500))))), (5, .int (bi (((accP its) ∧ (recP to))))), (0, .ref (ad 0 0)), (1, .int its), (2, .int to), (3, .int rank), (4, .int ticks)] []
                refine g_iload F 0 dX6_submit_282 rfl ?_
                refine g_iload F 1 dX6_submit_284 rfl ?_
                refine g_icmp_ge F (tgt := 369) dX6_submit_286 (by decide) (fun c12 => ?_) (fun c12 => ?_)
                ·
                  exact absurd ((nI_leE (show (nI n) = nI n from rfl) (show (nI k7) = nI k7 from rfl) (show n < 2 ^ 31 by omega) (show k7 < 2 ^ 31 by omega)).mp c12) (by omega)
                ·
                  refine g_aload_n F 5 dX6_submit_289 rfl rfl ?_
                  refine mg_get F hM hin 4 (by decide) rfl (by decide +kernel) rfl dX6_submit_290 ?_
                  refine g_iload_n F 6 dX6_submit_293 rfl rfl ?_
                  refine mg_ald F hM 4 rfl hia (show (ix its) < 4 by omega) (v := ((dlG (nwS (up2 σ 32 0 (if ((accP its) ∧ (recP to)) then (if ((inR rank 0 3) ∧ (inR ticks 1 500)) then (if (if ((accP its) ∧ (recP to)) then (knG σ (ix its) its to n) else (-1) : Int32) = (-1) then (if (thF σ (ix its) its n) < (σ 7 (ix its)) then (if (nI n) = 40 then 3 else 0) else 3) else 0) else 2) else 1 : Int32)) σ (ix its) n its to rank ticks) (ix its) its to k7) 4 (ix its))) rfl dX6_submit_294 ?_
                  refine g_if_eq F (tgt := 369) dX6_submit_295 (by decide) (fun c13 => ?_) (fun c13 => ?_)
                  ·
                    refine g_iload F 1 dX6_submit_369 rfl ?_
                    exact g_iret F hr ((by rw [if_pos hok, if_pos c6])) hlocks (fun _ h => by rw [show (mw ad cs (if (((((accP its) ∧ (recP to))) ∧ (((inR rank 0 3) ∧ (inR ticks 1 500)))) ∧ (((if ((accP its) ∧ (recP to)) then (knG σ (ix its) its to n) else (-1) : Int32) = (-1)) → (((thF σ (ix its) its n) < (σ 7 (ix its))) ∧ ¬ ((nI n) = 40)))) then (if (if ((accP its) ∧ (recP to)) then (knG σ (ix its) its to n) else (-1) : Int32) = (-1) then (dlG (nwS (up2 σ 32 0 (if ((accP its) ∧ (recP to)) then (if ((inR rank 0 3) ∧ (inR ticks 1 500)) then (if (if ((accP its) ∧ (recP to)) then (knG σ (ix its) its to n) else (-1) : Int32) = (-1) then (if (thF σ (ix its) its n) < (σ 7 (ix its)) then (if (nI n) = 40 then 3 else 0) else 3) else 0) else 2) else 1 : Int32)) σ (ix its) n its to rank ticks) (ix its) its to n) else (up2 σ 32 0 (if ((accP its) ∧ (recP to)) then (if ((inR rank 0 3) ∧ (inR ticks 1 500)) then (if (if ((accP its) ∧ (recP to)) then (knG σ (ix its) its to n) else (-1) : Int32) = (-1) then (if (thF σ (ix its) its n) < (σ 7 (ix its)) then (if (nI n) = 40 then 3 else 0) else 3) else 0) else 2) else 1 : Int32))) else (up2 σ 32 0 (if ((accP its) ∧ (recP to)) then (if ((inR rank 0 3) ∧ (inR ticks 1 500)) then (if (if ((accP its) ∧ (recP to)) then (knG σ (ix its) its to n) else (-1) : Int32) = (-1) then (if (thF σ (ix its) its n) < (σ 7 (ix its)) then (if (nI n) = 40 then 3 else 0) else 3) else 0) else 2) else 1 : Int32))) w0) = (mw ad cs (dlG (nwS (up2 σ 32 0 (if ((accP its) ∧ (recP to)) then (if ((inR rank 0 3) ∧ (inR ticks 1 500)) then (if (if ((accP its) ∧ (recP to)) then (knG σ (ix its) its to n) else (-1) : Int32) = (-1) then (if (thF σ (ix its) its n) < (σ 7 (ix its)) then (if (nI n) = 40 then 3 else 0) else 3) else 0) else 2) else 1 : Int32)) σ (ix its) n its to rank ticks) (ix its) its to k7) w0) from (by rw [if_pos hok, if_pos c6]; rw [dlG_none its to n (by rw [← dlG_ne (nwS (up2 σ 32 0 (if ((accP its) ∧ (recP to)) then (if ((inR rank 0 3) ∧ (inR ticks 1 500)) then (if (if ((accP its) ∧ (recP to)) then (knG σ (ix its) its to n) else (-1) : Int32) = (-1) then (if (thF σ (ix its) its n) < (σ 7 (ix its)) then (if (nI n) = 40 then 3 else 0) else 3) else 0) else 2) else 1 : Int32)) σ (ix its) n its to rank ticks) (ix its) its to (f := 4) (by decide) (by decide) (by decide) (ix its) k7]; exact c13), dlG_none its to k7 (by rw [← dlG_ne (nwS (up2 σ 32 0 (if ((accP its) ∧ (recP to)) then (if ((inR rank 0 3) ∧ (inR ticks 1 500)) then (if (if ((accP its) ∧ (recP to)) then (knG σ (ix its) its to n) else (-1) : Int32) = (-1) then (if (thF σ (ix its) its n) < (σ 7 (ix its)) then (if (nI n) = 40 then 3 else 0) else 3) else 0) else 2) else 1 : Int32)) σ (ix its) n its to rank ticks) (ix its) its to (f := 4) (by decide) (by decide) (by decide) (ix its) k7]; exact c13)])]; exact h) dX6_submit_371
                  ·
                    refine g_aload_n F 5 dX6_submit_298 rfl rfl ?_
                    refine mg_get F hM hin 23 (by decide) rfl (by decide +kernel) rfl dX6_submit_299 ?_
                    refine g_iload F 0 dX6_submit_302 rfl ?_
                    refine mg_ald F hM 23 rfl rfl (show k7 < 40 by omega) (v := ((dlG (nwS (up2 σ 32 0 (if ((accP its) ∧ (recP to)) then (if ((inR rank 0 3) ∧ (inR ticks 1 500)) then (if (if ((accP its) ∧ (recP to)) then (knG σ (ix its) its to n) else (-1) : Int32) = (-1) then (if (thF σ (ix its) its n) < (σ 7 (ix its)) then (if (nI n) = 40 then 3 else 0) else 3) else 0) else 2) else 1 : Int32)) σ (ix its) n its to rank ticks) (ix its) its to k7) 23 k7)) rfl dX6_submit_304 ?_
                    refine g_if_ne F (tgt := 363) dX6_submit_305 (by decide) (fun c14 => ?_) (fun c14 => ?_)
                    ·
                      refine g_iinc F (v := (nI (k7 + 1))) (lv1 := [(9, .int (nI (k7 + 1))), (8, .int (nI n)), (7, .int (if ((accP its) ∧ (recP to)) then (knG σ (ix its) its to n) else (-1) : Int32)), (6, .int (bi (((inR rank 0 3) ∧ (inR ticks 1 500))))), (5, .int (bi (((accP its) ∧ (recP to))))), (0, .ref (ad 0 0)), (1, .int its), (2, .int to), (3, .int rank), (4, .int ticks)]) 0 dX6_submit_363 rfl (nI_1 k7) (by decide) rfl ?_
                      refine g_goto F (tgt := 282) dX6_submit_366 (by decide) ?_
                      exact g_lv [0, 1, 2, 3, 4, 5, 6, 7, 8, 9] rfl (g_w (w1 := (mw ad cs (dlG (nwS (up2 σ 32 0 (if ((accP its) ∧ (recP to)) then (if ((inR rank 0 3) ∧ (inR ticks 1 500)) then (if (if ((accP its) ∧ (recP to)) then (knG σ (ix its) its to n) else (-1) : Int32) = (-1) then (if (thF σ (ix its) its n) < (σ 7 (ix its)) then (if (nI n) = 40 then 3 else 0) else 3) else 0) else 2) else 1 : Int32)) σ (ix its) n its to rank ticks) (ix its) its to (k7 + 1)) w0)) (by rw [dlG_n its to k7 (by rw [← dlG_ne (nwS (up2 σ 32 0 (if ((accP its) ∧ (recP to)) then (if ((inR rank 0 3) ∧ (inR ticks 1 500)) then (if (if ((accP its) ∧ (recP to)) then (knG σ (ix its) its to n) else (-1) : Int32) = (-1) then (if (thF σ (ix its) its n) < (σ 7 (ix its)) then (if (nI n) = 40 then 3 else 0) else 3) else 0) else 2) else 1 : Int32)) σ (ix its) n its to rank ticks) (ix its) its to (f := 4) (by decide) (by decide) (by decide) (ix its) k7]; exact c13) (fun q => c14 q.1)]) ih8)
                    ·
                      refine g_aload_n F 5 dX6_submit_308 rfl rfl ?_
                      refine mg_get F hM hin 12 (by decide) rfl (by decide +kernel) rfl dX6_submit_309 ?_
                      refine g_iload F 0 dX6_submit_312 rfl ?_
                      refine mg_ald F hM 12 rfl rfl (show k7 < 40 by omega) (v := ((dlG (nwS (up2 σ 32 0 (if ((accP its) ∧ (recP to)) then (if ((inR rank 0 3) ∧ (inR ticks 1 500)) then (if (if ((accP its) ∧ (recP to)) then (knG σ (ix its) its to n) else (-1) : Int32) = (-1) then (if (thF σ (ix its) its n) < (σ 7 (ix its)) then (if (nI n) = 40 then 3 else 0) else 3) else 0) else 2) else 1 : Int32)) σ (ix its) n its to rank ticks) (ix its) its to k7) 12 k7)) rfl dX6_submit_314 ?_
                      refine g_iload_n F 6 dX6_submit_315 rfl rfl ?_
                      refine g_icmp_ne F (tgt := 363) dX6_submit_316 (by decide) (fun c15 => ?_) (fun c15 => ?_)
                      ·
                        refine g_iinc F (v := (nI (k7 + 1))) (lv1 := [(9, .int (nI (k7 + 1))), (8, .int (nI n)), (7, .int (if ((accP its) ∧ (recP to)) then (knG σ (ix its) its to n) else (-1) : Int32)), (6, .int (bi (((inR rank 0 3) ∧ (inR ticks 1 500))))), (5, .int (bi (((accP its) ∧ (recP to))))), (0, .ref (ad 0 0)), (1, .int its), (2, .int to), (3, .int rank), (4, .int ticks)]) 0 dX6_submit_363 rfl (nI_1 k7) (by decide) rfl ?_
                        refine g_goto F (tgt := 282) dX6_submit_366 (by decide) ?_
                        exact g_lv [0, 1, 2, 3, 4, 5, 6, 7, 8, 9] rfl (g_w (w1 := (mw ad cs (dlG (nwS (up2 σ 32 0 (if ((accP its) ∧ (recP to)) then (if ((inR rank 0 3) ∧ (inR ticks 1 500)) then (if (if ((accP its) ∧ (recP to)) then (knG σ (ix its) its to n) else (-1) : Int32) = (-1) then (if (thF σ (ix its) its n) < (σ 7 (ix its)) then (if (nI n) = 40 then 3 else 0) else 3) else 0) else 2) else 1 : Int32)) σ (ix its) n its to rank ticks) (ix its) its to (k7 + 1)) w0)) (by rw [dlG_n its to k7 (by rw [← dlG_ne (nwS (up2 σ 32 0 (if ((accP its) ∧ (recP to)) then (if ((inR rank 0 3) ∧ (inR ticks 1 500)) then (if (if ((accP its) ∧ (recP to)) then (knG σ (ix its) its to n) else (-1) : Int32) = (-1) then (if (thF σ (ix its) its n) < (σ 7 (ix its)) then (if (nI n) = 40 then 3 else 0) else 3) else 0) else 2) else 1 : Int32)) σ (ix its) n its to rank ticks) (ix its) its to (f := 4) (by decide) (by decide) (by decide) (ix its) k7]; exact c13) (fun q => c15 q.2.1)]) ih8)
                      ·
                        refine g_aload_n F 5 dX6_submit_319 rfl rfl ?_
                        refine mg_get F hM hin 13 (by decide) rfl (by decide +kernel) rfl dX6_submit_320 ?_
                        refine g_iload F 0 dX6_submit_323 rfl ?_
                        refine mg_ald F hM 13 rfl rfl (show k7 < 40 by omega) (v := ((dlG (nwS (up2 σ 32 0 (if ((accP its) ∧ (recP to)) then (if ((inR rank 0 3) ∧ (inR ticks 1 500)) then (if (if ((accP its) ∧ (recP to)) then (knG σ (ix its) its to n) else (-1) : Int32) = (-1) then (if (thF σ (ix its) its n) < (σ 7 (ix its)) then (if (nI n) = 40 then 3 else 0) else 3) else 0) else 2) else 1 : Int32)) σ (ix its) n its to rank ticks) (ix its) its to k7) 13 k7)) rfl dX6_submit_325 ?_
                        refine g_iload_n F 7 dX6_submit_326 rfl rfl ?_
                        refine g_icmp_ne F (tgt := 363) dX6_submit_327 (by decide) (fun c16 => ?_) (fun c16 => ?_)
                        ·
                          refine g_iinc F (v := (nI (k7 + 1))) (lv1 := [(9, .int (nI (k7 + 1))), (8, .int (nI n)), (7, .int (if ((accP its) ∧ (recP to)) then (knG σ (ix its) its to n) else (-1) : Int32)), (6, .int (bi (((inR rank 0 3) ∧ (inR ticks 1 500))))), (5, .int (bi (((accP its) ∧ (recP to))))), (0, .ref (ad 0 0)), (1, .int its), (2, .int to), (3, .int rank), (4, .int ticks)]) 0 dX6_submit_363 rfl (nI_1 k7) (by decide) rfl ?_
                          refine g_goto F (tgt := 282) dX6_submit_366 (by decide) ?_
                          exact g_lv [0, 1, 2, 3, 4, 5, 6, 7, 8, 9] rfl (g_w (w1 := (mw ad cs (dlG (nwS (up2 σ 32 0 (if ((accP its) ∧ (recP to)) then (if ((inR rank 0 3) ∧ (inR ticks 1 500)) then (if (if ((accP its) ∧ (recP to)) then (knG σ (ix its) its to n) else (-1) : Int32) = (-1) then (if (thF σ (ix its) its n) < (σ 7 (ix its)) then (if (nI n) = 40 then 3 else 0) else 3) else 0) else 2) else 1 : Int32)) σ (ix its) n its to rank ticks) (ix its) its to (k7 + 1)) w0)) (by rw [dlG_n its to k7 (by rw [← dlG_ne (nwS (up2 σ 32 0 (if ((accP its) ∧ (recP to)) then (if ((inR rank 0 3) ∧ (inR ticks 1 500)) then (if (if ((accP its) ∧ (recP to)) then (knG σ (ix its) its to n) else (-1) : Int32) = (-1) then (if (thF σ (ix its) its n) < (σ 7 (ix its)) then (if (nI n) = 40 then 3 else 0) else 3) else 0) else 2) else 1 : Int32)) σ (ix its) n its to rank ticks) (ix its) its to (f := 4) (by decide) (by decide) (by decide) (ix its) k7]; exact c13) (fun q => c16 q.2.2.1)]) ih8)
                        ·
                          refine g_aload_n F 5 dX6_submit_330 rfl rfl ?_
                          refine mg_get F hM hin 20 (by decide) rfl (by decide +kernel) rfl dX6_submit_331 ?_
                          refine g_iload F 0 dX6_submit_334 rfl ?_
                          refine mg_ald F hM 20 rfl rfl (show k7 < 40 by omega) (v := ((dlG (nwS (up2 σ 32 0 (if ((accP its) ∧ (recP to)) then (if ((inR rank 0 3) ∧ (inR ticks 1 500)) then (if (if ((accP its) ∧ (recP to)) then (knG σ (ix its) its to n) else (-1) : Int32) = (-1) then (if (thF σ (ix its) its n) < (σ 7 (ix its)) then (if (nI n) = 40 then 3 else 0) else 3) else 0) else 2) else 1 : Int32)) σ (ix its) n its to rank ticks) (ix its) its to k7) 20 k7)) rfl dX6_submit_336 ?_
                          refine g_aload_n F 5 dX6_submit_337 rfl rfl ?_
                          refine mg_get F hM hin 4 (by decide) rfl (by decide +kernel) rfl dX6_submit_338 ?_
                          refine g_iload_n F 6 dX6_submit_341 rfl rfl ?_
                          refine mg_ald F hM 4 rfl hia (show (ix its) < 4 by omega) (v := ((dlG (nwS (up2 σ 32 0 (if ((accP its) ∧ (recP to)) then (if ((inR rank 0 3) ∧ (inR ticks 1 500)) then (if (if ((accP its) ∧ (recP to)) then (knG σ (ix its) its to n) else (-1) : Int32) = (-1) then (if (thF σ (ix its) its n) < (σ 7 (ix its)) then (if (nI n) = 40 then 3 else 0) else 3) else 0) else 2) else 1 : Int32)) σ (ix its) n its to rank ticks) (ix its) its to k7) 4 (ix its))) rfl dX6_submit_342 ?_
                          refine g_icmp_ne F (tgt := 363) dX6_submit_343 (by decide) (fun c17 => ?_) (fun c17 => ?_)
                          ·
                            refine g_iinc F (v := (nI (k7 + 1))) (lv1 := [(9, .int (nI (k7 + 1))), (8, .int (nI n)), (7, .int (if ((accP its) ∧ (recP to)) then (knG σ (ix its) its to n) else (-1) : Int32)), (6, .int (bi (((inR rank 0 3) ∧ (inR ticks 1 500))))), (5, .int (bi (((accP its) ∧ (recP to))))), (0, .ref (ad 0 0)), (1, .int its), (2, .int to), (3, .int rank), (4, .int ticks)]) 0 dX6_submit_363 rfl (nI_1 k7) (by decide) rfl ?_
                            refine g_goto F (tgt := 282) dX6_submit_366 (by decide) ?_
                            exact g_lv [0, 1, 2, 3, 4, 5, 6, 7, 8, 9] rfl (g_w (w1 := (mw ad cs (dlG (nwS (up2 σ 32 0 (if ((accP its) ∧ (recP to)) then (if ((inR rank 0 3) ∧ (inR ticks 1 500)) then (if (if ((accP its) ∧ (recP to)) then (knG σ (ix its) its to n) else (-1) : Int32) = (-1) then (if (thF σ (ix its) its n) < (σ 7 (ix its)) then (if (nI n) = 40 then 3 else 0) else 3) else 0) else 2) else 1 : Int32)) σ (ix its) n its to rank ticks) (ix its) its to (k7 + 1)) w0)) (by rw [dlG_n its to k7 (by rw [← dlG_ne (nwS (up2 σ 32 0 (if ((accP its) ∧ (recP to)) then (if ((inR rank 0 3) ∧ (inR ticks 1 500)) then (if (if ((accP its) ∧ (recP to)) then (knG σ (ix its) its to n) else (-1) : Int32) = (-1) then (if (thF σ (ix its) its n) < (σ 7 (ix its)) then (if (nI n) = 40 then 3 else 0) else 3) else 0) else 2) else 1 : Int32)) σ (ix its) n its to rank ticks) (ix its) its to (f := 4) (by decide) (by decide) (by decide) (ix its) k7]; exact c13) (fun q => c17 q.2.2.2.1)]) ih8)
                          ·
                            refine g_aload_n F 5 dX6_submit_346 rfl rfl ?_
                            refine mg_get F hM hin 24 (by decide) rfl (by decide +kernel) rfl dX6_submit_347 ?_
                            refine g_iload F 0 dX6_submit_350 rfl ?_
                            refine mg_ald F hM 24 rfl rfl (show k7 < 40 by omega) (v := ((dlG (nwS (up2 σ 32 0 (if ((accP its) ∧ (recP to)) then (if ((inR rank 0 3) ∧ (inR ticks 1 500)) then (if (if ((accP its) ∧ (recP to)) then (knG σ (ix its) its to n) else (-1) : Int32) = (-1) then (if (thF σ (ix its) its n) < (σ 7 (ix its)) then (if (nI n) = 40 then 3 else 0) else 3) else 0) else 2) else 1 : Int32)) σ (ix its) n its to rank ticks) (ix its) its to k7) 24 k7)) rfl dX6_submit_352 ?_
                            refine g_if_ne F (tgt := 363) dX6_submit_353 (by decide) (fun c18 => ?_) (fun c18 => ?_)
                            ·
                              refine g_iinc F (v := (nI (k7 + 1))) (lv1 := [(9, .int (nI (k7 + 1))), (8, .int (nI n)), (7, .int (if ((accP its) ∧ (recP to)) then (knG σ (ix its) its to n) else (-1) : Int32)), (6, .int (bi (((inR rank 0 3) ∧ (inR ticks 1 500))))), (5, .int (bi (((accP its) ∧ (recP to))))), (0, .ref (ad 0 0)), (1, .int its), (2, .int to), (3, .int rank), (4, .int ticks)]) 0 dX6_submit_363 rfl (nI_1 k7) (by decide) rfl ?_
                              refine g_goto F (tgt := 282) dX6_submit_366 (by decide) ?_
                              exact g_lv [0, 1, 2, 3, 4, 5, 6, 7, 8, 9] rfl (g_w (w1 := (mw ad cs (dlG (nwS (up2 σ 32 0 (if ((accP its) ∧ (recP to)) then (if ((inR rank 0 3) ∧ (inR ticks 1 500)) then (if (if ((accP its) ∧ (recP to)) then (knG σ (ix its) its to n) else (-1) : Int32) = (-1) then (if (thF σ (ix its) its n) < (σ 7 (ix its)) then (if (nI n) = 40 then 3 else 0) else 3) else 0) else 2) else 1 : Int32)) σ (ix its) n its to rank ticks) (ix its) its to (k7 + 1)) w0)) (by rw [dlG_n its to k7 (by rw [← dlG_ne (nwS (up2 σ 32 0 (if ((accP its) ∧ (recP to)) then (if ((inR rank 0 3) ∧ (inR ticks 1 500)) then (if (if ((accP its) ∧ (recP to)) then (knG σ (ix its) its to n) else (-1) : Int32) = (-1) then (if (thF σ (ix its) its n) < (σ 7 (ix its)) then (if (nI n) = 40 then 3 else 0) else 3) else 0) else 2) else 1 : Int32)) σ (ix its) n its to rank ticks) (ix its) its to (f := 4) (by decide) (by decide) (by decide) (ix its) k7]; exact c13) (fun q => c18 q.2.2.2.2)]) ih8)
                            ·
                              refine g_aload_n F 5 dX6_submit_356 rfl rfl ?_
                              refine g_iload F 0 dX6_submit_357 rfl ?_
                              refine g_iconst F dX6_submit_359 (v := 3) (by decide) ?_
                              refine g_callVv F (C := RX6) (k := 0) (i := 0) (ci := 6) (T := TX6) (N := 33) (rest := []) [.int (nI k7), .int 3] (mc_ends l D A cs ad dm w0 (dlG (nwS (up2 σ 32 0 (if ((accP its) ∧ (recP to)) then (if ((inR rank 0 3) ∧ (inR ticks 1 500)) then (if (if ((accP its) ∧ (recP to)) then (knG σ (ix its) its to n) else (-1) : Int32) = (-1) then (if (thF σ (ix its) its n) < (σ 7 (ix its)) then (if (nI n) = 40 then 3 else 0) else 3) else 0) else 2) else 1 : Int32)) σ (ix its) n its to rank ticks) (ix its) its to k7) (nI k7) 3 k7 hM rfl (by omega) (hdl k7 hk10 ⟨c14, c15, c16, c17, c18⟩)) (cwV 2 F.1.2.2.2.2 gX6_submit_X6_ends rfl rfl rfl (by decide +kernel) ⟨Nat.le_of_ble_eq_true rfl, Nat.le_of_ble_eq_true rfl⟩) rfl hM.1 rfl rfl rfl rfl (Nat.le_of_ble_eq_true rfl) dX6_submit_360 ⟨Nat.le_of_ble_eq_true rfl, Nat.le_of_ble_eq_true rfl⟩ ?_
                              refine g_iinc F (v := (nI (k7 + 1))) (lv1 := [(9, .int (nI (k7 + 1))), (8, .int (nI n)), (7, .int (if ((accP its) ∧ (recP to)) then (knG σ (ix its) its to n) else (-1) : Int32)), (6, .int (bi (((inR rank 0 3) ∧ (inR ticks 1 500))))), (5, .int (bi (((accP its) ∧ (recP to))))), (0, .ref (ad 0 0)), (1, .int its), (2, .int to), (3, .int rank), (4, .int ticks)]) 0 dX6_submit_363 rfl (nI_1 k7) (by decide) rfl ?_
                              refine g_goto F (tgt := 282) dX6_submit_366 (by decide) ?_
                              exact g_lv [0, 1, 2, 3, 4, 5, 6, 7, 8, 9] rfl (g_w (w1 := (mw ad cs (dlG (nwS (up2 σ 32 0 (if ((accP its) ∧ (recP to)) then (if ((inR rank 0 3) ∧ (inR ticks 1 500)) then (if (if ((accP its) ∧ (recP to)) then (knG σ (ix its) its to n) else (-1) : Int32) = (-1) then (if (thF σ (ix its) its n) < (σ 7 (ix its)) then (if (nI n) = 40 then 3 else 0) else 3) else 0) else 2) else 1 : Int32)) σ (ix its) n its to rank ticks) (ix its) its to (k7 + 1)) w0)) (by rw [dlG_y its to k7 (by rw [← dlG_ne (nwS (up2 σ 32 0 (if ((accP its) ∧ (recP to)) then (if ((inR rank 0 3) ∧ (inR ticks 1 500)) then (if (if ((accP its) ∧ (recP to)) then (knG σ (ix its) its to n) else (-1) : Int32) = (-1) then (if (thF σ (ix its) its n) < (σ 7 (ix its)) then (if (nI n) = 40 then 3 else 0) else 3) else 0) else 2) else 1 : Int32)) σ (ix its) n its to rank ticks) (ix its) its to (f := 4) (by decide) (by decide) (by decide) (ix its) k7]; exact c13) ⟨c14, c15, c16, c17, c18⟩]) ih8)
            ·
              refine g_iload F 0 dX6_submit_127 rfl ?_
              exact g_iret F hr ((by rw [if_pos hok, if_neg c6])) hlocks (fun _ h => by rw [show (mw ad cs (if (((((accP its) ∧ (recP to))) ∧ (((inR rank 0 3) ∧ (inR ticks 1 500)))) ∧ (((if ((accP its) ∧ (recP to)) then (knG σ (ix its) its to n) else (-1) : Int32) = (-1)) → (((thF σ (ix its) its n) < (σ 7 (ix its))) ∧ ¬ ((nI n) = 40)))) then (if (if ((accP its) ∧ (recP to)) then (knG σ (ix its) its to n) else (-1) : Int32) = (-1) then (dlG (nwS (up2 σ 32 0 (if ((accP its) ∧ (recP to)) then (if ((inR rank 0 3) ∧ (inR ticks 1 500)) then (if (if ((accP its) ∧ (recP to)) then (knG σ (ix its) its to n) else (-1) : Int32) = (-1) then (if (thF σ (ix its) its n) < (σ 7 (ix its)) then (if (nI n) = 40 then 3 else 0) else 3) else 0) else 2) else 1 : Int32)) σ (ix its) n its to rank ticks) (ix its) its to n) else (up2 σ 32 0 (if ((accP its) ∧ (recP to)) then (if ((inR rank 0 3) ∧ (inR ticks 1 500)) then (if (if ((accP its) ∧ (recP to)) then (knG σ (ix its) its to n) else (-1) : Int32) = (-1) then (if (thF σ (ix its) its n) < (σ 7 (ix its)) then (if (nI n) = 40 then 3 else 0) else 3) else 0) else 2) else 1 : Int32))) else (up2 σ 32 0 (if ((accP its) ∧ (recP to)) then (if ((inR rank 0 3) ∧ (inR ticks 1 500)) then (if (if ((accP its) ∧ (recP to)) then (knG σ (ix its) its to n) else (-1) : Int32) = (-1) then (if (thF σ (ix its) its n) < (σ 7 (ix its)) then (if (nI n) = 40 then 3 else 0) else 3) else 0) else 2) else 1 : Int32))) w0) = (mw ad cs (up2 σ 32 0 (if ((accP its) ∧ (recP to)) then (if ((inR rank 0 3) ∧ (inR ticks 1 500)) then (if (if ((accP its) ∧ (recP to)) then (knG σ (ix its) its to n) else (-1) : Int32) = (-1) then (if (thF σ (ix its) its n) < (σ 7 (ix its)) then (if (nI n) = 40 then 3 else 0) else 3) else 0) else 2) else 1 : Int32)) w0) from (by rw [if_pos hok, if_neg c6])]; exact h) dX6_submit_129
          ·
            refine g_iconst F dX6_submit_119 (v := 0) (by decide) ?_
            exact g_iret F hr ((if_neg (fun q => c5 (cd_sub.mpr q))).symm) hlocks (fun _ h => by rw [show (mw ad cs (if (((((accP its) ∧ (recP to))) ∧ (((inR rank 0 3) ∧ (inR ticks 1 500)))) ∧ (((if ((accP its) ∧ (recP to)) then (knG σ (ix its) its to n) else (-1) : Int32) = (-1)) → (((thF σ (ix its) its n) < (σ 7 (ix its))) ∧ ¬ ((nI n) = 40)))) then (if (if ((accP its) ∧ (recP to)) then (knG σ (ix its) its to n) else (-1) : Int32) = (-1) then (dlG (nwS (up2 σ 32 0 (if ((accP its) ∧ (recP to)) then (if ((inR rank 0 3) ∧ (inR ticks 1 500)) then (if (if ((accP its) ∧ (recP to)) then (knG σ (ix its) its to n) else (-1) : Int32) = (-1) then (if (thF σ (ix its) its n) < (σ 7 (ix its)) then (if (nI n) = 40 then 3 else 0) else 3) else 0) else 2) else 1 : Int32)) σ (ix its) n its to rank ticks) (ix its) its to n) else (up2 σ 32 0 (if ((accP its) ∧ (recP to)) then (if ((inR rank 0 3) ∧ (inR ticks 1 500)) then (if (if ((accP its) ∧ (recP to)) then (knG σ (ix its) its to n) else (-1) : Int32) = (-1) then (if (thF σ (ix its) its n) < (σ 7 (ix its)) then (if (nI n) = 40 then 3 else 0) else 3) else 0) else 2) else 1 : Int32))) else (up2 σ 32 0 (if ((accP its) ∧ (recP to)) then (if ((inR rank 0 3) ∧ (inR ticks 1 500)) then (if (if ((accP its) ∧ (recP to)) then (knG σ (ix its) its to n) else (-1) : Int32) = (-1) then (if (thF σ (ix its) its n) < (σ 7 (ix its)) then (if (nI n) = 40 then 3 else 0) else 3) else 0) else 2) else 1 : Int32))) w0) = (mw ad cs (up2 σ 32 0 (if ((accP its) ∧ (recP to)) then (if ((inR rank 0 3) ∧ (inR ticks 1 500)) then (if (if ((accP its) ∧ (recP to)) then (knG σ (ix its) its to n) else (-1) : Int32) = (-1) then (if (thF σ (ix its) its n) < (σ 7 (ix its)) then (if (nI n) = 40 then 3 else 0) else 3) else 0) else 2) else 1 : Int32)) w0) from (by rw [if_neg (fun q => c5 (cd_sub.mpr q))])]; exact h) dX6_submit_120
        ·
          refine g_ifb_ne F (tgt := 76) dX6_submit_69 (by decide) (fun c19 => ?_) (fun c19 => ?_)
          ·
            refine g_iload F 1 dX6_submit_76 rfl ?_
            refine g_ifb_ne F (tgt := 85) dX6_submit_78 (by decide) (fun c20 => ?_) (fun c20 => ?_)
            ·
              refine g_iload F 0 dX6_submit_85 rfl ?_
              refine g_iconst F dX6_submit_87 (v := -1) (by decide) ?_
              refine g_icmp_ne F (tgt := 112) dX6_submit_88 (by decide) (fun c21 => ?_) (fun c21 => ?_)
              ·
                refine g_iconst F dX6_submit_112 (v := 0) (by decide) ?_
                exact g_top (by rw [if_pos c19, if_pos c20, if_neg c21]) hJ4
              ·
                refine g_aload_n F 3 dX6_submit_91 rfl rfl ?_
                refine g_iload_n F 4 dX6_submit_92 rfl rfl ?_
                refine g_callVi F (C := RX6) (k := 0) (i := 0) (ci := 6) (T := TX6) (N := 33) (rest := [.ref (ad 0 0)]) [.int its] (mc_isThrottled l D A cs ad dm w0 σ its (ix its) n hM (by first | exact hn | (simp only [up2]; exact hn) | (simp [up2]; exact hn)) hn40 (ix_acc (And.left ‹accP its ∧ recP to›)).1 (ix_acc (And.left ‹accP its ∧ recP to›)).2) (cwV 1 F.1.2.2.2.2 gX6_submit_X6_isThrottled rfl rfl rfl (by decide +kernel) ⟨Nat.le_of_ble_eq_true rfl, Nat.le_of_ble_eq_true rfl⟩) rfl hM.1 rfl rfl rfl rfl (Nat.le_of_ble_eq_true rfl) dX6_submit_93 ⟨Nat.le_of_ble_eq_true rfl, Nat.le_of_ble_eq_true rfl⟩ ?_
                refine g_ifb_ne F (tgt := 108) dX6_submit_96 (by decide) (fun c22 => ?_) (fun c22 => ?_)
                ·
                  refine g_iconst F dX6_submit_108 (v := 3) (by decide) ?_
                  refine g_goto F (tgt := 113) dX6_submit_109 (by decide) ?_
                  exact g_top (by rw [if_pos c19, if_pos c20, if_pos c21, if_neg c22]) hJ4
                ·
                  replace c22 := Classical.not_not.mp c22
                  refine g_aload_n F 3 dX6_submit_99 rfl rfl ?_
                  refine mg_get F hM hin 11 (by decide) (congrArg (fun z : Int32 => some (Value.int z)) (show σ 11 0 = (nI n) from hn)) (by decide +kernel) rfl dX6_submit_100 ?_
                  refine g_bipush F dX6_submit_103 (v := 40) (by decide) ?_
                  refine g_icmp_ne F (tgt := 112) dX6_submit_105 (by decide) (fun c23 => ?_) (fun c23 => ?_)
                  ·
                    refine g_iconst F dX6_submit_112 (v := 0) (by decide) ?_
                    exact g_top (by rw [if_pos c19, if_pos c20, if_pos c21, if_pos c22, if_neg c23]) hJ4
                  ·
                    refine g_iconst F dX6_submit_108 (v := 3) (by decide) ?_
                    refine g_goto F (tgt := 113) dX6_submit_109 (by decide) ?_
                    exact g_top (by rw [if_pos c19, if_pos c20, if_pos c21, if_pos c22, if_pos c23]) hJ4
            ·
              refine g_iconst F dX6_submit_81 (v := 2) (by decide) ?_
              refine g_goto F (tgt := 113) dX6_submit_82 (by decide) ?_
              exact g_top (by rw [if_pos c19, if_neg c20]) hJ4
          ·
            refine g_iconst F dX6_submit_72 (v := 1) (by decide) ?_
            refine g_goto F (tgt := 113) dX6_submit_73 (by decide) ?_
            exact g_top (by rw [if_neg c19]) hJ4
      ·
        refine g_ifb_eq F (tgt := 63) dX6_submit_51 (by decide) (fun c24 => ?_) (fun c24 => ?_)
        ·
          refine g_iconst F dX6_submit_63 (v := -1) (by decide) ?_
          exact g_top (by rw [if_neg c24]) hJ3
        ·
          refine g_aload_n F 2 dX6_submit_54 rfl rfl ?_
          refine g_iload_n F 3 dX6_submit_55 rfl rfl ?_
          refine g_iload_n F 4 dX6_submit_56 rfl rfl ?_
          refine g_callVi F (C := RX6) (k := 0) (i := 0) (ci := 6) (T := TX6) (N := 33) (rest := []) [.int its, .int to] (mc_known l D A cs ad dm w0 σ its to (ix its) n hM (by first | exact hn | (simp only [up2]; exact hn) | (simp [up2]; exact hn)) hn40 (ix_acc (And.left ‹accP its ∧ recP to›)).1 (ix_acc (And.left ‹accP its ∧ recP to›)).2) (cwV 2 F.1.2.2.2.2 gX6_submit_X6_known rfl rfl rfl (by decide +kernel) ⟨Nat.le_of_ble_eq_true rfl, Nat.le_of_ble_eq_true rfl⟩) rfl hM.1 rfl rfl rfl rfl (Nat.le_of_ble_eq_true rfl) dX6_submit_57 ⟨Nat.le_of_ble_eq_true rfl, Nat.le_of_ble_eq_true rfl⟩ ?_
          refine g_goto F (tgt := 64) dX6_submit_60 (by decide) ?_
          exact g_top (by rw [if_pos c24]) hJ3
    ·
      refine g_ifb_eq F (tgt := 46) dX6_submit_27 (by decide) (fun c25 => ?_) (fun c25 => ?_)
      ·
        refine g_iconst F dX6_submit_46 (v := 0) (by decide) ?_
        exact g_top (bi_f (fun q => c25 q.1)) hJ2
      ·
        refine g_iload F 5 dX6_submit_30 rfl ?_
        refine g_iconst F dX6_submit_32 (v := 1) (by decide) ?_
        refine g_sipush F dX6_submit_33 (v := 500) (by decide) ?_
        refine g_callSi F (rest := []) [.int ticks, .int 1, .int 500] (mc_isIn l D A cs ad dm (mw ad cs σ w0) ticks 1 500) (va_cwS 3 F.1.2.2.2.2 gX6_submit_X6_isIn rfl rfl rfl (by decide +kernel) ⟨Nat.le_of_ble_eq_true rfl, Nat.le_of_ble_eq_true rfl⟩) rfl rfl (Nat.le_of_ble_eq_true rfl) dX6_submit_36 ⟨Nat.le_of_ble_eq_true rfl, Nat.le_of_ble_eq_true rfl⟩ ?_
        refine g_ifb_eq F (tgt := 46) dX6_submit_39 (by decide) (fun c26 => ?_) (fun c26 => ?_)
        ·
          refine g_iconst F dX6_submit_46 (v := 0) (by decide) ?_
          exact g_top (bi_f (fun q => c26 q.2)) hJ2
        ·
          refine g_iconst F dX6_submit_42 (v := 1) (by decide) ?_
          refine g_goto F (tgt := 47) dX6_submit_43 (by decide) ?_
          exact g_top (bi_t ⟨c25, c26⟩) hJ2
  ·
    refine g_ifb_eq F (tgt := 18) dX6_submit_4 (by decide) (fun c27 => ?_) (fun c27 => ?_)
    ·
      refine g_iconst F dX6_submit_18 (v := 0) (by decide) ?_
      exact g_top (bi_f (fun q => c27 q.1)) hJ1
    ·
      refine g_iload_n F 2 dX6_submit_7 rfl rfl ?_
      refine g_callSi F (rest := []) [.int to] (mc_isRecipient l D A cs ad dm (mw ad cs σ w0) to) (va_cwS 1 F.1.2.2.2.2 gX6_submit_X6_isRecipient rfl rfl rfl (by decide +kernel) ⟨Nat.le_of_ble_eq_true rfl, Nat.le_of_ble_eq_true rfl⟩) rfl rfl (Nat.le_of_ble_eq_true rfl) dX6_submit_8 ⟨Nat.le_of_ble_eq_true rfl, Nat.le_of_ble_eq_true rfl⟩ ?_
      refine g_ifb_eq F (tgt := 18) dX6_submit_11 (by decide) (fun c28 => ?_) (fun c28 => ?_)
      ·
        refine g_iconst F dX6_submit_18 (v := 0) (by decide) ?_
        exact g_top (bi_f (fun q => c28 q.2)) hJ1
      ·
        refine g_iconst F dX6_submit_14 (v := 1) (by decide) ?_
        refine g_goto F (tgt := 19) dX6_submit_15 (by decide) ?_
        exact g_top (bi_t ⟨c27, c28⟩) hJ1
def pt1 (σ : SG) : SG := up2 σ 0 0 ((σ 0 0) + 1)
abbrev exP (σ : SG) (k : Nat) : Prop := (σ 23 k) = 0 ∧ ¬ ((σ 0 0) - (σ 16 k)) < (σ 15 k)
def exF (σ : SG) : Nat → SG
  | 0 => σ
  | k + 1 => if exP (exF σ k) k then enS (exF σ k) k (nI k) 2 else exF σ k
theorem exF_ne (σ : SG) {f : Nat} (h1 : f ≠ 23) (h2 : f ≠ 10) (h3 : f ≠ 9) (i : Nat) : ∀ k, exF σ k f i = σ f i
  | 0 => rfl
  | k + 1 => by
    unfold exF
    split
    · rw [enS_ne _ _ _ _ h1 h2 h3]; exact exF_ne σ h1 h2 h3 i k
    · exact exF_ne σ h1 h2 h3 i k
def atB (σ : SG) (n r : Nat) : Int32 := frF σ (nI r) (σ 0 0) n
def atF (σ : SG) (n : Nat) : Nat → SG
  | 0 => σ
  | r + 1 => if atB (atF σ n r) n r = (-1) then atF σ n r else trS (atF σ n r) (ix (atB (atF σ n r) n r)) (atB (atF σ n r) n r)
def atN (σ : SG) (n : Nat) (x : Int32) : Nat → Int32
  | 0 => x
  | r + 1 => (atN σ n x r + (if atB (atF σ n r) n r = (-1) then 0 else trR (atF σ n r) (ix (atB (atF σ n r) n r))))
theorem atN_y {σ : SG} {n : Nat} (x : Int32) {r : Nat} (h : atB (atF σ n r) n r = (-1)) : atN σ n x (r + 1) = (atN σ n x r + 0) := by
  show (_ + (if _ then _ else _)) = _
  rw [if_pos h]
theorem atN_n {σ : SG} {n : Nat} (x : Int32) {r : Nat} (h : ¬ atB (atF σ n r) n r = (-1)) : atN σ n x (r + 1) = (atN σ n x r + trR (atF σ n r) (ix (atB (atF σ n r) n r))) := by
  show (_ + (if _ then _ else _)) = _
  rw [if_neg h]
def psF (σ : SG) (n : Nat) : Nat → SG
  | 0 => σ
  | t + 1 => atF (exF (pt1 (psF σ n t)) n) n 6
def psN (σ : SG) (n : Nat) : Nat → Int32
  | 0 => 0
  | t + 1 => atN (exF (pt1 (psF σ n t)) n) n (psN σ n t) 6
theorem faS_ne (σ : SG) (j : Nat) (cz : Int32) (c : Nat) {f : Nat} (h1 : f ≠ 27) (h2 : f ≠ 26) (h3 : f ≠ 31) (i : Nat) : faS σ j cz c f i = σ f i := by
  unfold faS
  rw [up2_ne _ _ (fun h => h3 h.1), up2_ne _ _ (fun h => h2 h.1), up2_ne _ _ (fun h => h1 h.1)]
theorem tr1_ne (σ : SG) (j : Nat) {f : Nat} (h1 : f ≠ 27) (h2 : f ≠ 26) (h3 : f ≠ 24) (h4 : f ≠ 30) (h5 : f ≠ 25) (i : Nat) : tr1 σ j f i = σ f i := by
  unfold tr1 tr0
  rw [clF_ne _ _ h1, up2_ne _ _ (fun h => h2 h.1), up2_ne _ _ (fun h => h3 h.1), up2_ne _ _ (fun h => h4 h.1), up2_ne _ _ (fun h => h5 h.1)]
/-- what an attempt leaves as it is -/
theorem trS_ne (σ : SG) (j : Nat) (v : Int32) {f : Nat} (h : f ≠ 27 ∧ f ≠ 26 ∧ f ≠ 31 ∧ f ≠ 24 ∧ f ≠ 30 ∧ f ≠ 25 ∧ f ≠ 23 ∧ f ≠ 10 ∧ f ≠ 9) (i : Nat) : trS σ j v f i = σ f i := by
  obtain ⟨h1, h2, h3, h4, h5, h6, h7, h8, h9⟩ := h
  have e0 : tr0 σ j f i = σ f i := up2_ne _ _ (fun q => h6 q.1)
  unfold trS
  split
  · rw [enS_ne _ _ _ _ h7 h8 h9, e0]
  · split
    · rw [faS_ne _ _ _ _ h1 h2 h3, e0]
    · split
      · rw [enS_ne _ _ _ _ h7 h8 h9, tr1_ne _ _ h1 h2 h4 h5 h6]
      · rw [tr1_ne _ _ h1 h2 h4 h5 h6]
theorem atF_ne (σ : SG) (n : Nat) {f : Nat} (h : f ≠ 27 ∧ f ≠ 26 ∧ f ≠ 31 ∧ f ≠ 24 ∧ f ≠ 30 ∧ f ≠ 25 ∧ f ≠ 23 ∧ f ≠ 10 ∧ f ≠ 9) (i : Nat) : ∀ r, atF σ n r f i = σ f i
  | 0 => rfl
  | r + 1 => by
    unfold atF
    split
    · exact atF_ne σ n h i r
    · rw [trS_ne _ _ _ h]; exact atF_ne σ n h i r
theorem psF_ne (σ : SG) (n : Nat) {f : Nat} (h : f ≠ 27 ∧ f ≠ 26 ∧ f ≠ 31 ∧ f ≠ 24 ∧ f ≠ 30 ∧ f ≠ 25 ∧ f ≠ 23 ∧ f ≠ 10 ∧ f ≠ 9) (h0 : f ≠ 0) (i : Nat) : ∀ t, psF σ n t f i = σ f i
  | 0 => rfl
  | t + 1 => by
    unfold psF
    rw [atF_ne _ _ h, exF_ne _ h.2.2.2.2.2.2.1 h.2.2.2.2.2.2.2.1 h.2.2.2.2.2.2.2.2, pt1, up2_ne _ _ (fun q => h0 q.1)]
    exact psF_ne σ n h h0 i t
/-- what an attempt wants of the state -/
def tryOK (σ : SG) (j : Nat) : Prop := enOK σ j ∧ roOK σ j ∧ txOK σ j ∧ moOK σ (ix (σ 13 j))
set_option maxHeartbeats 4000000 in
set_option maxRecDepth 100000 in
theorem mc_pass (l : Launch) (D : va_G) (A : Nat → Prop) (cs : Nat → ClassId) (ad : Nat → Nat → Nat) (dm : Nat → Nat → Prop) (w0 : CF) (σ : SG) (ticks : Int32) (n : Nat) (hM : MD dm) (hn : σ 11 0 = nI n) (hn40 : n ≤ 40) (hex : ∀ t, t < ix ticks → ∀ k, k < n → exP (exF (pt1 (psF (up2 σ 32 0 (bi (¬ (inR ticks 1 100)))) n t)) k) k → enOK (exF (pt1 (psF (up2 σ 32 0 (bi (¬ (inR ticks 1 100)))) n t)) k) k) (htr : ∀ t, t < ix ticks → ∀ r, r < 6 → ¬ atB (atF (exF (pt1 (psF (up2 σ 32 0 (bi (¬ (inR ticks 1 100)))) n t)) n) n r) n r = (-1) → tryOK (atF (exF (pt1 (psF (up2 σ 32 0 (bi (¬ (inR ticks 1 100)))) n t)) n) n r) (ix (atB (atF (exF (pt1 (psF (up2 σ 32 0 (bi (¬ (inR ticks 1 100)))) n t)) n) n r) n r))) : Met l yX6_pass wsX6_pass ({ frames := 4, cells := 0, slots := 0, locals := 97 }) (va_Pc [.ref (ad 0 0), .int ticks] (PW D A (tysG cs) ad dm (mw ad cs σ w0))) (va_Qi (fun r (_ : Unit) => r = (if ((inR ticks 1 100)) then (psN (up2 σ 32 0 (bi (¬ (inR ticks 1 100)))) n (ix ticks)) else 0)) (fun _ t => PW D A (tysG cs) ad dm (mw ad cs (if ((inR ticks 1 100)) then (psF (up2 σ 32 0 (bi (¬ (inR ticks 1 100)))) n (ix ticks)) else (up2 σ 32 0 (bi (¬ (inR ticks 1 100))))) w0) t) A) 0 0 A := by
  refine g_start (own := RX6) [.ref (ad 0 0), .int ticks] (cc := cX6_pass) (maxL := 6) (ret := (some .int)) (lv0 := [(0, .ref (ad 0 0)), (1, .int ticks)]) (by decide) rfl rfl (Nat.le_of_ble_eq_true rfl) rfl ?_
  intro p e s m below meth c F hr hlocks hname
  have hin : ∀ w ∈ wsX60, w ∈ wsX6_pass := by decide +kernel
  refine g_aload_n F 0 dX6_pass_0 rfl rfl ?_
  refine g_iload_n F 1 dX6_pass_1 rfl rfl ?_
  refine g_iconst F dX6_pass_2 (v := 1) (by decide) ?_
  refine g_bipush F dX6_pass_3 (v := 100) (by decide) ?_
  refine g_callSi F (rest := [.ref (ad 0 0)]) [.int ticks, .int 1, .int 100] (mc_isIn l D A cs ad dm (mw ad cs σ w0) ticks 1 100) (va_cwS 3 F.1.2.2.2.2 gX6_pass_X6_isIn rfl rfl rfl (by decide +kernel) ⟨Nat.le_of_ble_eq_true rfl, Nat.le_of_ble_eq_true rfl⟩) rfl rfl (Nat.le_of_ble_eq_true rfl) dX6_pass_5 ⟨Nat.le_of_ble_eq_true rfl, Nat.le_of_ble_eq_true rfl⟩ ?_
  refine g_cut (w2 := (mw ad cs σ w0)) (pc2 := 16) (lv2 := [(0, .ref (ad 0 0)), (1, .int ticks)]) (st2 := [.int (bi (¬ (inR ticks 1 100))), .ref (ad 0 0)]) ?_ (fun hJ1 => ?_)
  ·
    refine g_callVi F (C := RX6) (k := 0) (i := 0) (ci := 6) (T := TX6) (N := 33) (rest := []) [.int (bi (¬ (inR ticks 1 100)))] (mc_fails l D A cs ad dm w0 σ (bi (¬ (inR ticks 1 100))) hM) (cwV 1 F.1.2.2.2.2 gX6_pass_X6_fails rfl rfl rfl (by decide +kernel) ⟨Nat.le_of_ble_eq_true rfl, Nat.le_of_ble_eq_true rfl⟩) rfl hM.1 rfl rfl rfl rfl (Nat.le_of_ble_eq_true rfl) dX6_pass_16 ⟨Nat.le_of_ble_eq_true rfl, Nat.le_of_ble_eq_true rfl⟩ ?_
    refine g_ifb_eq F (tgt := 24) dX6_pass_19 (by decide) (fun c2 => ?_) (fun c2 => ?_)
    ·
      replace c2 := Classical.not_not.mp c2
      have hok := cd_ok1.mp c2
      obtain ⟨hia, hia4⟩ := ix_in (n := 100) rfl (show inR ticks 0 100 from ⟨fun q => hok.1 (Int32.lt_trans q (by decide)), hok.2⟩)
      refine g_iconst F dX6_pass_24 (v := 0) (by decide) ?_
      refine g_istore_n F (lv1 := [(2, .int 0), (0, .ref (ad 0 0)), (1, .int ticks)]) dX6_pass_25 rfl (by decide) rfl ?_
      refine g_iconst F dX6_pass_26 (v := 0) (by decide) ?_
      refine g_istore_n F (lv1 := [(3, .int 0), (2, .int 0), (0, .ref (ad 0 0)), (1, .int ticks)]) dX6_pass_27 rfl (by decide) rfl ?_
      refine g_loop (ix ticks) 0 (by omega) (fun k3 => (mw ad cs (psF (up2 σ 32 0 (bi (¬ (inR ticks 1 100)))) n k3) w0)) (fun k3 => [(3, .int (nI k3)), (2, .int (psN (up2 σ 32 0 (bi (¬ (inR ticks 1 100)))) n k3)), (0, .ref (ad 0 0)), (1, .int ticks)]) rfl rfl ?_ (fun k3 hk5 hk6 ih4 => ?_)
      ·
        show GG p l e _ s m _ below meth c D A ad dm _ _ _ _ (mw ad cs (psF (up2 σ 32 0 (bi (¬ (inR ticks 1 100)))) n (ix ticks)) w0) 28 [(3, .int (nI (ix ticks))), (2, .int (psN (up2 σ 32 0 (bi (¬ (inR ticks 1 100)))) n (ix ticks))), (0, .ref (ad 0 0)), (1, .int ticks)] []
        refine g_iload_n F 0 dX6_pass_28 rfl rfl ?_
        refine g_iload_n F 3 dX6_pass_29 rfl rfl ?_
        refine g_icmp_ge F (tgt := 153) dX6_pass_30 (by decide) (fun c7 => ?_) (fun c7 => ?_)
        ·
          refine g_iload_n F 1 dX6_pass_153 rfl rfl ?_
          exact g_iret F hr ((if_pos hok).symm) hlocks (fun _ h => by rw [show (mw ad cs (if ((inR ticks 1 100)) then (psF (up2 σ 32 0 (bi (¬ (inR ticks 1 100)))) n (ix ticks)) else (up2 σ 32 0 (bi (¬ (inR ticks 1 100))))) w0) = (mw ad cs (psF (up2 σ 32 0 (bi (¬ (inR ticks 1 100)))) n (ix ticks)) w0) from (by rw [if_pos hok])]; exact h) dX6_pass_154
        ·
          exact absurd ((nI_leE (show ticks = nI (ix ticks) from hia) (show (nI (ix ticks)) = nI (ix ticks) from rfl) (show (ix ticks) < 2 ^ 31 by omega) (show (ix ticks) < 2 ^ 31 by omega)).mpr (by omega)) c7
      ·
        replace ih4 : GG p l e _ s m _ below meth c D A ad dm _ _ _ _ (mw ad cs (psF (up2 σ 32 0 (bi (¬ (inR ticks 1 100)))) n (k3 + 1)) w0) 28 [(3, .int (nI (k3 + 1))), (2, .int (psN (up2 σ 32 0 (bi (¬ (inR ticks 1 100)))) n (k3 + 1))), (0, .ref (ad 0 0)), (1, .int ticks)] [] := ih4
        show GG p l e _ s m _ below meth c D A ad dm _ _ _ _ (mw ad cs (psF (up2 σ 32 0 (bi (¬ (inR ticks 1 100)))) n k3) w0) 28 [(3, .int (nI k3)), (2, .int (psN (up2 σ 32 0 (bi (¬ (inR ticks 1 100)))) n k3)), (0, .ref (ad 0 0)), (1, .int ticks)] []
        refine g_iload_n F 0 dX6_pass_28 rfl rfl ?_
        refine g_iload_n F 3 dX6_pass_29 rfl rfl ?_
        refine g_icmp_ge F (tgt := 153) dX6_pass_30 (by decide) (fun c8 => ?_) (fun c8 => ?_)
        ·
          exact absurd ((nI_leE (show ticks = nI (ix ticks) from hia) (show (nI k3) = nI k3 from rfl) (show (ix ticks) < 2 ^ 31 by omega) (show k3 < 2 ^ 31 by omega)).mp c8) (by omega)
        ·
          refine g_aload_n F 2 dX6_pass_33 rfl rfl ?_
          refine g_dup F dX6_pass_34 rfl ?_
          refine mg_get F hM hin 0 (by decide) rfl (by decide +kernel) rfl dX6_pass_35 ?_
          refine g_iconst F dX6_pass_38 (v := 1) (by decide) ?_
          refine g_iadd F dX6_pass_39 ?_
          refine mg_put F hM hin 0 (by decide) rfl (fun x => mset_0 ad _ x) (by decide +kernel) rfl rfl (by decide +kernel) dX6_pass_40 ?_
          refine g_w (w1 := (mw ad cs (pt1 (psF (up2 σ 32 0 (bi (¬ (inR ticks 1 100)))) n k3)) w0)) rfl ?_
          refine g_iconst F dX6_pass_43 (v := 0) (by decide) ?_
          refine g_istore F (lv1 := [(4, .int 0), (3, .int (nI k3)), (2, .int (psN (up2 σ 32 0 (bi (¬ (inR ticks 1 100)))) n k3)), (0, .ref (ad 0 0)), (1, .int ticks)]) dX6_pass_44 (by decide) rfl ?_
          refine g_loop n 0 (by omega) (fun k9 => (mw ad cs (exF (pt1 (psF (up2 σ 32 0 (bi (¬ (inR ticks 1 100)))) n k3)) k9) w0)) (fun k9 => [(4, .int (nI k9)), (3, .int (nI k3)), (2, .int (psN (up2 σ 32 0 (bi (¬ (inR ticks 1 100)))) n k3)), (0, .ref (ad 0 0)), (1, .int ticks)]) rfl rfl ?_ (fun k9 hk11 hk12 ih10 => ?_)
          ·
            show GG p l e _ s m _ below meth c D A ad dm _ _ _ _ (mw ad cs (exF (pt1 (psF (up2 σ 32 0 (bi (¬ (inR ticks 1 100)))) n k3)) n) w0) 46 [(4, .int (nI n)), (3, .int (nI k3)), (2, .int (psN (up2 σ 32 0 (bi (¬ (inR ticks 1 100)))) n k3)), (0, .ref (ad 0 0)), (1, .int ticks)] []
            refine g_iload F 0 dX6_pass_46 rfl ?_
            refine g_aload_n F 3 dX6_pass_48 rfl rfl ?_
            refine mg_get F hM hin 11 (by decide) (congrArg (fun z : Int32 => some (Value.int z)) (show (exF (pt1 (psF (up2 σ 32 0 (bi (¬ (inR ticks 1 100)))) n k3)) n) 11 0 = (nI n) from (by first | exact hn | (first | rw [atF_ne _ _ (by decide), exF_ne _ (by decide) (by decide) (by decide), pt1, up2_ne _ _ (fun h => absurd h.1 (by decide)), psF_ne _ _ (by decide) (by decide), up2_ne _ _ (fun h => absurd h.1 (by decide))] | rw [exF_ne _ (by decide) (by decide) (by decide), pt1, up2_ne _ _ (fun h => absurd h.1 (by decide)), psF_ne _ _ (by decide) (by decide), up2_ne _ _ (fun h => absurd h.1 (by decide))]); exact hn))) (by decide +kernel) rfl dX6_pass_49 ?_
            refine g_icmp_ge F (tgt := 100) dX6_pass_52 (by decide) (fun c13 => ?_) (fun c13 => ?_)
            ·
              refine g_iconst F dX6_pass_100 (v := 0) (by decide) ?_
              refine g_istore F (lv1 := [(4, .int 0), (3, .int (nI k3)), (2, .int (psN (up2 σ 32 0 (bi (¬ (inR ticks 1 100)))) n k3)), (0, .ref (ad 0 0)), (1, .int ticks)]) dX6_pass_101 (by decide) rfl ?_
              refine g_loop 6 0 (by omega) (fun k14 => (mw ad cs (atF (exF (pt1 (psF (up2 σ 32 0 (bi (¬ (inR ticks 1 100)))) n k3)) n) n k14) w0)) (fun k14 => [(4, .int (nI k14)), (3, .int (nI k3)), (2, .int (atN (exF (pt1 (psF (up2 σ 32 0 (bi (¬ (inR ticks 1 100)))) n k3)) n) n (psN (up2 σ 32 0 (bi (¬ (inR ticks 1 100)))) n k3) k14)), (0, .ref (ad 0 0)), (1, .int ticks)]) rfl rfl ?_ (fun k14 hk16 hk17 ih15 => ?_)
              ·
                show GG p l e _ s m _ below meth c D A ad dm _ _ _ _ (mw ad cs (atF (exF (pt1 (psF (up2 σ 32 0 (bi (¬ (inR ticks 1 100)))) n k3)) n) n 6) w0) 103 [(4, .int (nI 6)), (3, .int (nI k3)), (2, .int (atN (exF (pt1 (psF (up2 σ 32 0 (bi (¬ (inR ticks 1 100)))) n k3)) n) n (psN (up2 σ 32 0 (bi (¬ (inR ticks 1 100)))) n k3) 6)), (0, .ref (ad 0 0)), (1, .int ticks)] []
                refine g_iload F 0 dX6_pass_103 rfl ?_
                refine g_bipush F dX6_pass_105 (v := 6) (by decide) ?_
                refine g_icmp_ge F (tgt := 147) dX6_pass_107 (by decide) (fun c18 => ?_) (fun c18 => ?_)
                ·
                  refine g_iinc F (v := (nI (k3 + 1))) (lv1 := [(3, .int (nI (k3 + 1))), (4, .int (nI 6)), (2, .int (atN (exF (pt1 (psF (up2 σ 32 0 (bi (¬ (inR ticks 1 100)))) n k3)) n) n (psN (up2 σ 32 0 (bi (¬ (inR ticks 1 100)))) n k3) 6)), (0, .ref (ad 0 0)), (1, .int ticks)]) 1 dX6_pass_147 rfl (nI_1 k3) (by decide) rfl ?_
                  refine g_goto F (tgt := 28) dX6_pass_150 (by decide) ?_
                  exact g_lv [0, 2, 3, 4] rfl (g_w (w1 := (mw ad cs (psF (up2 σ 32 0 (bi (¬ (inR ticks 1 100)))) n (k3 + 1)) w0)) rfl ih4)
                ·
                  exact absurd ((nI_leE (show 6 = nI 6 from rfl) (show (nI 6) = nI 6 from rfl) (show 6 < 2 ^ 31 by omega) (show 6 < 2 ^ 31 by omega)).mpr (by omega)) c18
              ·
                replace ih15 : GG p l e _ s m _ below meth c D A ad dm _ _ _ _ (mw ad cs (atF (exF (pt1 (psF (up2 σ 32 0 (bi (¬ (inR ticks 1 100)))) n k3)) n) n (k14 + 1)) w0) 103 [(4, .int (nI (k14 + 1))), (3, .int (nI k3)), (2, .int (atN (exF (pt1 (psF (up2 σ 32 0 (bi (¬ (inR ticks 1 100)))) n k3)) n) n (psN (up2 σ 32 0 (bi (¬ (inR ticks 1 100)))) n k3) (k14 + 1))), (0, .ref (ad 0 0)), (1, .int ticks)] [] := ih15
                show GG p l e _ s m _ below meth c D A ad dm _ _ _ _ (mw ad cs (atF (exF (pt1 (psF (up2 σ 32 0 (bi (¬ (inR ticks 1 100)))) n k3)) n) n k14) w0) 103 [(4, .int (nI k14)), (3, .int (nI k3)), (2, .int (atN (exF (pt1 (psF (up2 σ 32 0 (bi (¬ (inR ticks 1 100)))) n k3)) n) n (psN (up2 σ 32 0 (bi (¬ (inR ticks 1 100)))) n k3) k14)), (0, .ref (ad 0 0)), (1, .int ticks)] []
                refine g_iload F 0 dX6_pass_103 rfl ?_
                refine g_bipush F dX6_pass_105 (v := 6) (by decide) ?_
                refine g_icmp_ge F (tgt := 147) dX6_pass_107 (by decide) (fun c19 => ?_) (fun c19 => ?_)
                ·
                  exact absurd ((nI_leE (show 6 = nI 6 from rfl) (show (nI k14) = nI k14 from rfl) (show 6 < 2 ^ 31 by omega) (show k14 < 2 ^ 31 by omega)).mp c19) (by omega)
                ·
                  refine g_aload_n F 3 dX6_pass_110 rfl rfl ?_
                  refine g_iload F 0 dX6_pass_111 rfl ?_
                  refine g_aload_n F 3 dX6_pass_113 rfl rfl ?_
                  refine mg_get F hM hin 0 (by decide) rfl (by decide +kernel) rfl dX6_pass_114 ?_
                  refine g_callVi F (C := RX6) (k := 0) (i := 0) (ci := 6) (T := TX6) (N := 33) (rest := []) [.int (nI k14), .int ((atF (exF (pt1 (psF (up2 σ 32 0 (bi (¬ (inR ticks 1 100)))) n k3)) n) n k14) 0 0)] (mc_first l D A cs ad dm w0 (atF (exF (pt1 (psF (up2 σ 32 0 (bi (¬ (inR ticks 1 100)))) n k3)) n) n k14) (nI k14) ((atF (exF (pt1 (psF (up2 σ 32 0 (bi (¬ (inR ticks 1 100)))) n k3)) n) n k14) 0 0) n hM (by first | exact hn | (first | rw [atF_ne _ _ (by decide), exF_ne _ (by decide) (by decide) (by decide), pt1, up2_ne _ _ (fun h => absurd h.1 (by decide)), psF_ne _ _ (by decide) (by decide), up2_ne _ _ (fun h => absurd h.1 (by decide))] | rw [exF_ne _ (by decide) (by decide) (by decide), pt1, up2_ne _ _ (fun h => absurd h.1 (by decide)), psF_ne _ _ (by decide) (by decide), up2_ne _ _ (fun h => absurd h.1 (by decide))]); exact hn) hn40) (cwV 2 F.1.2.2.2.2 gX6_pass_X6_first rfl rfl rfl (by decide +kernel) ⟨Nat.le_of_ble_eq_true rfl, Nat.le_of_ble_eq_true rfl⟩) rfl hM.1 rfl rfl rfl rfl (Nat.le_of_ble_eq_true rfl) dX6_pass_117 ⟨Nat.le_of_ble_eq_true rfl, Nat.le_of_ble_eq_true rfl⟩ ?_
                  refine g_istore F (lv1 := [(5, .int (atB (atF (exF (pt1 (psF (up2 σ 32 0 (bi (¬ (inR ticks 1 100)))) n k3)) n) n k14) n k14)), (4, .int (nI k14)), (3, .int (nI k3)), (2, .int (atN (exF (pt1 (psF (up2 σ 32 0 (bi (¬ (inR ticks 1 100)))) n k3)) n) n (psN (up2 σ 32 0 (bi (¬ (inR ticks 1 100)))) n k3) k14)), (0, .ref (ad 0 0)), (1, .int ticks)]) dX6_pass_120 (by decide) rfl ?_
                  refine g_iload_n F 3 dX6_pass_122 rfl rfl ?_
                  refine g_iload F 0 dX6_pass_123 rfl ?_
                  refine g_iconst F dX6_pass_125 (v := -1) (by decide) ?_
                  refine g_icmp_ne F (tgt := 133) dX6_pass_126 (by decide) (fun c20 => ?_) (fun c20 => ?_)
                  ·
                    refine g_aload_n F 4 dX6_pass_133 rfl rfl ?_
                    refine g_iload F 0 dX6_pass_134 rfl ?_
                    refine g_callVi F (C := RX6) (k := 0) (i := 0) (ci := 6) (T := TX6) (N := 33) (rest := [.int (atN (exF (pt1 (psF (up2 σ 32 0 (bi (¬ (inR ticks 1 100)))) n k3)) n) n (psN (up2 σ 32 0 (bi (¬ (inR ticks 1 100)))) n k3) k14)]) [.int (atB (atF (exF (pt1 (psF (up2 σ 32 0 (bi (¬ (inR ticks 1 100)))) n k3)) n) n k14) n k14)] (mc_tries l D A cs ad dm w0 (atF (exF (pt1 (psF (up2 σ 32 0 (bi (¬ (inR ticks 1 100)))) n k3)) n) n k14) (atB (atF (exF (pt1 (psF (up2 σ 32 0 (bi (¬ (inR ticks 1 100)))) n k3)) n) n k14) n k14) (ix (atB (atF (exF (pt1 (psF (up2 σ 32 0 (bi (¬ (inR ticks 1 100)))) n k3)) n) n k14) n k14)) hM (frF_ix hn40 ‹¬ (atB (atF (exF (pt1 (psF (up2 σ 32 0 (bi (¬ (inR ticks 1 100)))) n k3)) n) n k14) n k14) = (-1)›).1 (Nat.lt_of_lt_of_le (frF_ix hn40 ‹¬ (atB (atF (exF (pt1 (psF (up2 σ 32 0 (bi (¬ (inR ticks 1 100)))) n k3)) n) n k14) n k14) = (-1)›).2 hn40) (htr k3 hk6 k14 hk17 c20).1 (htr k3 hk6 k14 hk17 c20).2.1 (htr k3 hk6 k14 hk17 c20).2.2.1 (htr k3 hk6 k14 hk17 c20).2.2.2) (cwV 1 F.1.2.2.2.2 gX6_pass_X6_tries rfl rfl rfl (by decide +kernel) ⟨Nat.le_of_ble_eq_true rfl, Nat.le_of_ble_eq_true rfl⟩) rfl hM.1 rfl rfl rfl rfl (Nat.le_of_ble_eq_true rfl) dX6_pass_136 ⟨Nat.le_of_ble_eq_true rfl, Nat.le_of_ble_eq_true rfl⟩ ?_
                    refine g_iadd F dX6_pass_139 ?_
                    refine g_istore_n F (lv1 := [(2, .int ((atN (exF (pt1 (psF (up2 σ 32 0 (bi (¬ (inR ticks 1 100)))) n k3)) n) n (psN (up2 σ 32 0 (bi (¬ (inR ticks 1 100)))) n k3) k14) + (trR (atF (exF (pt1 (psF (up2 σ 32 0 (bi (¬ (inR ticks 1 100)))) n k3)) n) n k14) (ix (atB (atF (exF (pt1 (psF (up2 σ 32 0 (bi (¬ (inR ticks 1 100)))) n k3)) n) n k14) n k14))))), (5, .int (atB (atF (exF (pt1 (psF (up2 σ 32 0 (bi (¬ (inR ticks 1 100)))) n k3)) n) n k14) n k14)), (4, .int (nI k14)), (3, .int (nI k3)), (0, .ref (ad 0 0)), (1, .int ticks)]) dX6_pass_140 rfl (by decide) rfl ?_
                    refine g_iinc F (v := (nI (k14 + 1))) (lv1 := [(4, .int (nI (k14 + 1))), (2, .int ((atN (exF (pt1 (psF (up2 σ 32 0 (bi (¬ (inR ticks 1 100)))) n k3)) n) n (psN (up2 σ 32 0 (bi (¬ (inR ticks 1 100)))) n k3) k14) + (trR (atF (exF (pt1 (psF (up2 σ 32 0 (bi (¬ (inR ticks 1 100)))) n k3)) n) n k14) (ix (atB (atF (exF (pt1 (psF (up2 σ 32 0 (bi (¬ (inR ticks 1 100)))) n k3)) n) n k14) n k14))))), (5, .int (atB (atF (exF (pt1 (psF (up2 σ 32 0 (bi (¬ (inR ticks 1 100)))) n k3)) n) n k14) n k14)), (3, .int (nI k3)), (0, .ref (ad 0 0)), (1, .int ticks)]) 2 dX6_pass_141 rfl (nI_1 k14) (by decide) rfl ?_
                    refine g_goto F (tgt := 103) dX6_pass_144 (by decide) ?_
                    exact g_lv [0, 3, 1, 4, 5] (by rw [atN_n (psN (up2 σ 32 0 (bi (¬ (inR ticks 1 100)))) n k3) (show ¬ atB (atF (exF (pt1 (psF (up2 σ 32 0 (bi (¬ (inR ticks 1 100)))) n k3)) n) n k14) n k14 = (-1) from c20)]; try rfl) (g_w (w1 := (mw ad cs (atF (exF (pt1 (psF (up2 σ 32 0 (bi (¬ (inR ticks 1 100)))) n k3)) n) n (k14 + 1)) w0)) (by show (mw ad cs (if _ then _ else _) w0) = _; rw [if_neg (show ¬ atB (atF (exF (pt1 (psF (up2 σ 32 0 (bi (¬ (inR ticks 1 100)))) n k3)) n) n k14) n k14 = (-1) from c20)]) ih15)
                  ·
                    refine g_iconst F dX6_pass_129 (v := 0) (by decide) ?_
                    refine g_goto F (tgt := 139) dX6_pass_130 (by decide) ?_
                    refine g_iadd F dX6_pass_139 ?_
                    refine g_istore_n F (lv1 := [(2, .int ((atN (exF (pt1 (psF (up2 σ 32 0 (bi (¬ (inR ticks 1 100)))) n k3)) n) n (psN (up2 σ 32 0 (bi (¬ (inR ticks 1 100)))) n k3) k14) + 0)), (5, .int (atB (atF (exF (pt1 (psF (up2 σ 32 0 (bi (¬ (inR ticks 1 100)))) n k3)) n) n k14) n k14)), (4, .int (nI k14)), (3, .int (nI k3)), (0, .ref (ad 0 0)), (1, .int ticks)]) dX6_pass_140 rfl (by decide) rfl ?_
                    refine g_iinc F (v := (nI (k14 + 1))) (lv1 := [(4, .int (nI (k14 + 1))), (2, .int ((atN (exF (pt1 (psF (up2 σ 32 0 (bi (¬ (inR ticks 1 100)))) n k3)) n) n (psN (up2 σ 32 0 (bi (¬ (inR ticks 1 100)))) n k3) k14) + 0)), (5, .int (atB (atF (exF (pt1 (psF (up2 σ 32 0 (bi (¬ (inR ticks 1 100)))) n k3)) n) n k14) n k14)), (3, .int (nI k3)), (0, .ref (ad 0 0)), (1, .int ticks)]) 2 dX6_pass_141 rfl (nI_1 k14) (by decide) rfl ?_
                    refine g_goto F (tgt := 103) dX6_pass_144 (by decide) ?_
                    exact g_lv [0, 3, 1, 4, 5] (by rw [atN_y (psN (up2 σ 32 0 (bi (¬ (inR ticks 1 100)))) n k3) (show atB (atF (exF (pt1 (psF (up2 σ 32 0 (bi (¬ (inR ticks 1 100)))) n k3)) n) n k14) n k14 = (-1) from c20)]; try rfl) (g_w (w1 := (mw ad cs (atF (exF (pt1 (psF (up2 σ 32 0 (bi (¬ (inR ticks 1 100)))) n k3)) n) n (k14 + 1)) w0)) (by show (mw ad cs (if _ then _ else _) w0) = _; rw [if_pos (show atB (atF (exF (pt1 (psF (up2 σ 32 0 (bi (¬ (inR ticks 1 100)))) n k3)) n) n k14) n k14 = (-1) from c20)]) ih15)
            ·
              exact absurd ((nI_leE (show (nI n) = nI n from rfl) (show (nI n) = nI n from rfl) (show n < 2 ^ 31 by omega) (show n < 2 ^ 31 by omega)).mpr (by omega)) c13
          ·
            replace ih10 : GG p l e _ s m _ below meth c D A ad dm _ _ _ _ (mw ad cs (exF (pt1 (psF (up2 σ 32 0 (bi (¬ (inR ticks 1 100)))) n k3)) (k9 + 1)) w0) 46 [(4, .int (nI (k9 + 1))), (3, .int (nI k3)), (2, .int (psN (up2 σ 32 0 (bi (¬ (inR ticks 1 100)))) n k3)), (0, .ref (ad 0 0)), (1, .int ticks)] [] := ih10
            show GG p l e _ s m _ below meth c D A ad dm _ _ _ _ (mw ad cs (exF (pt1 (psF (up2 σ 32 0 (bi (¬ (inR ticks 1 100)))) n k3)) k9) w0) 46 [(4, .int (nI k9)), (3, .int (nI k3)), (2, .int (psN (up2 σ 32 0 (bi (¬ (inR ticks 1 100)))) n k3)), (0, .ref (ad 0 0)), (1, .int ticks)] []
            refine g_iload F 0 dX6_pass_46 rfl ?_
            refine g_aload_n F 3 dX6_pass_48 rfl rfl ?_
            refine mg_get F hM hin 11 (by decide) (congrArg (fun z : Int32 => some (Value.int z)) (show (exF (pt1 (psF (up2 σ 32 0 (bi (¬ (inR ticks 1 100)))) n k3)) k9) 11 0 = (nI n) from (by first | exact hn | (first | rw [atF_ne _ _ (by decide), exF_ne _ (by decide) (by decide) (by decide), pt1, up2_ne _ _ (fun h => absurd h.1 (by decide)), psF_ne _ _ (by decide) (by decide), up2_ne _ _ (fun h => absurd h.1 (by decide))] | rw [exF_ne _ (by decide) (by decide) (by decide), pt1, up2_ne _ _ (fun h => absurd h.1 (by decide)), psF_ne _ _ (by decide) (by decide), up2_ne _ _ (fun h => absurd h.1 (by decide))]); exact hn))) (by decide +kernel) rfl dX6_pass_49 ?_
            refine g_icmp_ge F (tgt := 100) dX6_pass_52 (by decide) (fun c21 => ?_) (fun c21 => ?_)
            ·
              exact absurd ((nI_leE (show (nI n) = nI n from rfl) (show (nI k9) = nI k9 from rfl) (show n < 2 ^ 31 by omega) (show k9 < 2 ^ 31 by omega)).mp c21) (by omega)
            ·
              refine g_aload_n F 3 dX6_pass_55 rfl rfl ?_
              refine mg_get F hM hin 23 (by decide) rfl (by decide +kernel) rfl dX6_pass_56 ?_
              refine g_iload F 0 dX6_pass_59 rfl ?_
              refine mg_ald F hM 23 rfl rfl (show k9 < 40 by omega) (v := ((exF (pt1 (psF (up2 σ 32 0 (bi (¬ (inR ticks 1 100)))) n k3)) k9) 23 k9)) rfl dX6_pass_61 ?_
              refine g_if_ne F (tgt := 94) dX6_pass_62 (by decide) (fun c22 => ?_) (fun c22 => ?_)
              ·
                refine g_iinc F (v := (nI (k9 + 1))) (lv1 := [(4, .int (nI (k9 + 1))), (3, .int (nI k3)), (2, .int (psN (up2 σ 32 0 (bi (¬ (inR ticks 1 100)))) n k3)), (0, .ref (ad 0 0)), (1, .int ticks)]) 0 dX6_pass_94 rfl (nI_1 k9) (by decide) rfl ?_
                refine g_goto F (tgt := 46) dX6_pass_97 (by decide) ?_
                exact g_lv [0, 1, 2, 3, 4] rfl (g_w (w1 := (mw ad cs (exF (pt1 (psF (up2 σ 32 0 (bi (¬ (inR ticks 1 100)))) n k3)) (k9 + 1)) w0)) (by show (mw ad cs (if _ then _ else _) w0) = _; rw [if_neg (fun q => c22 q.1)]) ih10)
              ·
                refine g_aload_n F 3 dX6_pass_65 rfl rfl ?_
                refine mg_get F hM hin 0 (by decide) rfl (by decide +kernel) rfl dX6_pass_66 ?_
                refine g_aload_n F 3 dX6_pass_69 rfl rfl ?_
                refine mg_get F hM hin 16 (by decide) rfl (by decide +kernel) rfl dX6_pass_70 ?_
                refine g_iload F 0 dX6_pass_73 rfl ?_
                refine mg_ald F hM 16 rfl rfl (show k9 < 40 by omega) (v := ((exF (pt1 (psF (up2 σ 32 0 (bi (¬ (inR ticks 1 100)))) n k3)) k9) 16 k9)) rfl dX6_pass_75 ?_
                refine g_isub F dX6_pass_76 ?_
                refine g_aload_n F 3 dX6_pass_77 rfl rfl ?_
                refine mg_get F hM hin 15 (by decide) rfl (by decide +kernel) rfl dX6_pass_78 ?_
                refine g_iload F 0 dX6_pass_81 rfl ?_
                refine mg_ald F hM 15 rfl rfl (show k9 < 40 by omega) (v := ((exF (pt1 (psF (up2 σ 32 0 (bi (¬ (inR ticks 1 100)))) n k3)) k9) 15 k9)) rfl dX6_pass_83 ?_
                refine g_icmp_lt F (tgt := 94) dX6_pass_84 (by decide) (fun c23 => ?_) (fun c23 => ?_)
                ·
                  refine g_iinc F (v := (nI (k9 + 1))) (lv1 := [(4, .int (nI (k9 + 1))), (3, .int (nI k3)), (2, .int (psN (up2 σ 32 0 (bi (¬ (inR ticks 1 100)))) n k3)), (0, .ref (ad 0 0)), (1, .int ticks)]) 0 dX6_pass_94 rfl (nI_1 k9) (by decide) rfl ?_
                  refine g_goto F (tgt := 46) dX6_pass_97 (by decide) ?_
                  exact g_lv [0, 1, 2, 3, 4] rfl (g_w (w1 := (mw ad cs (exF (pt1 (psF (up2 σ 32 0 (bi (¬ (inR ticks 1 100)))) n k3)) (k9 + 1)) w0)) (by show (mw ad cs (if _ then _ else _) w0) = _; rw [if_neg (fun q => q.2 c23)]) ih10)
                ·
                  refine g_aload_n F 3 dX6_pass_87 rfl rfl ?_
                  refine g_iload F 0 dX6_pass_88 rfl ?_
                  refine g_iconst F dX6_pass_90 (v := 2) (by decide) ?_
                  refine g_callVv F (C := RX6) (k := 0) (i := 0) (ci := 6) (T := TX6) (N := 33) (rest := []) [.int (nI k9), .int 2] (mc_ends l D A cs ad dm w0 (exF (pt1 (psF (up2 σ 32 0 (bi (¬ (inR ticks 1 100)))) n k3)) k9) (nI k9) 2 k9 hM rfl (by omega) (hex k3 hk6 k9 hk12 ⟨c22, c23⟩)) (cwV 2 F.1.2.2.2.2 gX6_pass_X6_ends rfl rfl rfl (by decide +kernel) ⟨Nat.le_of_ble_eq_true rfl, Nat.le_of_ble_eq_true rfl⟩) rfl hM.1 rfl rfl rfl rfl (Nat.le_of_ble_eq_true rfl) dX6_pass_91 ⟨Nat.le_of_ble_eq_true rfl, Nat.le_of_ble_eq_true rfl⟩ ?_
                  refine g_iinc F (v := (nI (k9 + 1))) (lv1 := [(4, .int (nI (k9 + 1))), (3, .int (nI k3)), (2, .int (psN (up2 σ 32 0 (bi (¬ (inR ticks 1 100)))) n k3)), (0, .ref (ad 0 0)), (1, .int ticks)]) 0 dX6_pass_94 rfl (nI_1 k9) (by decide) rfl ?_
                  refine g_goto F (tgt := 46) dX6_pass_97 (by decide) ?_
                  exact g_lv [0, 1, 2, 3, 4] rfl (g_w (w1 := (mw ad cs (exF (pt1 (psF (up2 σ 32 0 (bi (¬ (inR ticks 1 100)))) n k3)) (k9 + 1)) w0)) (by show (mw ad cs (if _ then _ else _) w0) = _; rw [if_pos ⟨c22, c23⟩]) ih10)
    ·
      refine g_iconst F dX6_pass_22 (v := 0) (by decide) ?_
      exact g_iret F hr ((if_neg (fun q => c2 (cd_ok1.mpr q))).symm) hlocks (fun _ h => by rw [show (mw ad cs (if ((inR ticks 1 100)) then (psF (up2 σ 32 0 (bi (¬ (inR ticks 1 100)))) n (ix ticks)) else (up2 σ 32 0 (bi (¬ (inR ticks 1 100))))) w0) = (mw ad cs (up2 σ 32 0 (bi (¬ (inR ticks 1 100)))) w0) from (by rw [if_neg (fun q => c2 (cd_ok1.mpr q))])]; exact h) dX6_pass_23
  ·
    refine g_ifb_eq F (tgt := 15) dX6_pass_8 (by decide) (fun c24 => ?_) (fun c24 => ?_)
    ·
      refine g_iconst F dX6_pass_15 (v := 1) (by decide) ?_
      exact g_top (bi_t c24) hJ1
    ·
      refine g_iconst F dX6_pass_11 (v := 0) (by decide) ?_
      refine g_goto F (tgt := 16) dX6_pass_12 (by decide) ?_
      exact g_top (bi_f (fun q => q c24)) hJ1
