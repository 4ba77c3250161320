/-! texts: wd: a wide one; ev: every so manieth letter takes 2 places; al: its letters -/
def nx (wd : Prop) [Decidable wd] (ev f : Nat) : Nat := if ¬ wd ∧ 0 < ev ∧ (f + 1) % ev = 0 then 2 else 1
def lim (wd : Prop) [Decidable wd] : Nat := if wd then 67 else 153
def tk (wd : Prop) [Decidable wd] (ev al : Nat) : Nat → Nat → Nat → Nat
  | 0, _, _ => 0
  | n + 1, f, t => if f < al ∧ t + nx wd ev f ≤ lim wd then tk wd ev al n (f + 1) (t + nx wd ev f) + 1 else 0
def sz (wd : Prop) [Decidable wd] (ev al f : Nat) : Nat := tk wd ev al (al - f) f 0
def stt (wd : Prop) [Decidable wd] (ev al : Nat) : Nat → Nat
  | 0 => 0
  | k + 1 => stt wd ev al k + sz wd ev al (stt wd ev al k)
def szp (wd : Prop) [Decidable wd] (ev al : Nat) : Nat → Nat
  | 0 => 0
  | k + 1 => sz wd ev al (stt wd ev al k)
def plcs (wd : Prop) [Decidable wd] (ev al : Nat) : Nat := if wd then al else al + (if ev = 0 then 0 else al / ev)
def lof (wd : Prop) [Decidable wd] (ev al q : Nat) : Nat := if plcs wd ev al ≤ (if wd then 70 else 160) then (if q = 0 then al else 0) else sz wd ev al (stt wd ev al q)
theorem nx_le (wd : Prop) [Decidable wd] (ev f : Nat) : 1 ≤ nx wd ev f ∧ nx wd ev f ≤ 2 ∧ (wd → nx wd ev f = 1) := by
  unfold nx
  split
  · next h => exact ⟨by omega, by omega, fun w => absurd w h.1⟩
  · exact ⟨by omega, by omega, fun _ => rfl⟩
theorem lim_le (wd : Prop) [Decidable wd] : 67 ≤ lim wd ∧ lim wd ≤ 153 := by unfold lim; split <;> omega
theorem tk_0 (wd : Prop) [Decidable wd] (ev al : Nat) : ∀ n f t, al ≤ f → tk wd ev al n f t = 0
  | 0, _, _, _ => rfl
  | n + 1, f, t, h => by unfold tk; rw [if_neg (by omega)]
theorem tk_le (wd : Prop) [Decidable wd] (ev al : Nat) : ∀ n f t, f ≤ al → f + tk wd ev al n f t ≤ al
  | 0, f, t, h => by unfold tk; omega
  | n + 1, f, t, h => by
    unfold tk
    split
    · next h2 => have := tk_le wd ev al n (f + 1) (t + nx wd ev f) h2.1; omega
    · omega
theorem tk_fuel (wd : Prop) [Decidable wd] (ev al : Nat) : ∀ n f t, al - f ≤ n → tk wd ev al n f t = tk wd ev al (al - f) f t
  | 0, f, t, h => by rw [show al - f = 0 by omega]
  | n + 1, f, t, h => by
    by_cases hf : f < al
    · obtain ⟨k, hk⟩ : ∃ k, al - f = k + 1 := ⟨al - f - 1, by omega⟩
      rw [hk]
      unfold tk
      split
      · rw [tk_fuel wd ev al n (f + 1) _ (by omega), show al - (f + 1) = k by omega]
      · rfl
    · rw [tk_0 _ _ _ _ _ _ (by omega), tk_0 _ _ _ _ _ _ (by omega)]
/-- while 'need' places for i letters are left, i letters are taken -/
theorem tk_least (wd : Prop) [Decidable wd] (ev al : Nat) : ∀ n f t i, i ≤ n → f + i ≤ al → t + (if wd then 1 else 2) * i ≤ lim wd → i ≤ tk wd ev al n f t
  | _, f, t, 0, _, _, _ => Nat.zero_le _
  | 0, f, t, i + 1, h, _, _ => by omega
  | n + 1, f, t, i + 1, h, h2, h3 => by
    have hn := nx_le wd ev f
    have hm : nx wd ev f ≤ (if wd then 1 else 2) := by
      by_cases w : wd
      · rw [if_pos w, hn.2.2 w]; exact Nat.le_refl 1
      · rw [if_neg w]; exact hn.2.1
    have hq : (if wd then 1 else 2) * (i + 1) = (if wd then 1 else 2) * i + (if wd then 1 else 2) := Nat.mul_succ _ _
    unfold tk
    rw [if_pos ⟨by omega, by omega⟩]
    have := tk_least wd ev al n (f + 1) (t + nx wd ev f) i (by omega) (by omega) (by omega)
    omega
theorem sz_least (wd : Prop) [Decidable wd] (ev al f : Nat) : min 67 (al - f) ≤ sz wd ev al f := by
  rcases Nat.lt_or_ge al f with hf | hf
  · rw [show al - f = 0 by omega]; exact Nat.le_trans (Nat.min_le_right _ _) (Nat.zero_le _)
  unfold sz
  refine tk_least wd ev al _ f 0 _ (Nat.min_le_right _ _) (by omega) ?_
  unfold lim
  by_cases w : wd
  · rw [if_pos w, if_pos w]; omega
  · rw [if_neg w, if_neg w]; omega
theorem sz_le (wd : Prop) [Decidable wd] (ev al f : Nat) (h : f ≤ al) : f + sz wd ev al f ≤ al := tk_le wd ev al _ f 0 h
theorem stt_le (wd : Prop) [Decidable wd] (ev al : Nat) : ∀ k, stt wd ev al k ≤ al
  | 0 => Nat.zero_le _
  | k + 1 => sz_le wd ev al _ (stt_le wd ev al k)
theorem stt_ge (wd : Prop) [Decidable wd] (ev al : Nat) : ∀ k, min (67 * k) al ≤ stt wd ev al k
  | 0 => by omega
  | k + 1 => by
    have h1 := stt_ge wd ev al k
    have h2 := sz_least wd ev al (stt wd ev al k)
    have h3 := stt_le wd ev al k
    show _ ≤ stt wd ev al k + sz wd ev al (stt wd ev al k)
    omega
theorem sz_pos (wd : Prop) [Decidable wd] (ev al f : Nat) : 0 < sz wd ev al f ↔ f < al := by
  have h := sz_least wd ev al f
  constructor
  · intro h0
    rcases Nat.lt_or_ge f al with q | q
    · exact q
    · unfold sz at h0
      rw [tk_0 _ _ _ _ _ _ q] at h0
      omega
  · intro h0; omega
theorem lof_le (wd : Prop) [Decidable wd] (ev al q : Nat) : lof wd ev al q ≤ al := by
  unfold lof
  by_cases h : plcs wd ev al ≤ (if wd then 70 else 160)
  · rw [if_pos h]; by_cases h0 : q = 0
    · rw [if_pos h0]; exact Nat.le_refl _
    · rw [if_neg h0]; exact Nat.zero_le _
  · rw [if_neg h]
    have := sz_le wd ev al _ (stt_le wd ev al q)
    omega
theorem lof_8 (wd : Prop) [Decidable wd] (ev al q : Nat) (hal : al ≤ 500) (hq : 8 ≤ q) : lof wd ev al q = 0 := by
  unfold lof
  by_cases h : plcs wd ev al ≤ (if wd then 70 else 160)
  · rw [if_pos h, if_neg (by omega)]
  · rw [if_neg h]
    have h1 := stt_ge wd ev al q
    have h2 := sz_pos wd ev al (stt wd ev al q)
    have h3 := stt_le wd ev al q
    omega
/-- how many parts: the first place without letters -/
def ptsF (wd : Prop) [Decidable wd] (ev al : Nat) : Nat → Nat → Nat
  | 0, k => k
  | n + 1, k => if 0 < lof wd ev al k then ptsF wd ev al n (k + 1) else k
def pts (wd : Prop) [Decidable wd] (ev al : Nat) : Nat := ptsF wd ev al 8 0
theorem ptsF_spec (wd : Prop) [Decidable wd] (ev al : Nat) (hal : al ≤ 500) : ∀ n k, k + n = 8 → (∀ j, j < k → 0 < lof wd ev al j) → ptsF wd ev al n k ≤ 8 ∧ lof wd ev al (ptsF wd ev al n k) = 0 ∧ ∀ j, j < ptsF wd ev al n k → 0 < lof wd ev al j
  | 0, k, h, hj => by
    unfold ptsF
    exact ⟨by omega, lof_8 wd ev al k hal (by omega), hj⟩
  | n + 1, k, h, hj => by
    unfold ptsF
    split
    · next h0 =>
      refine ptsF_spec wd ev al hal n (k + 1) (by omega) (fun j hjk => ?_)
      rcases Nat.lt_or_ge j k with q | q
      · exact hj j q
      · rw [show j = k by omega]; exact h0
    · next h0 => exact ⟨by omega, by omega, hj⟩
theorem pts_spec (wd : Prop) [Decidable wd] (ev al : Nat) (hal : al ≤ 500) : pts wd ev al ≤ 8 ∧ lof wd ev al (pts wd ev al) = 0 ∧ ∀ j, j < pts wd ev al → 0 < lof wd ev al j := ptsF_spec wd ev al hal 8 0 rfl (fun j h => absurd h (Nat.not_lt_zero j))
theorem pts_pos (wd : Prop) [Decidable wd] (ev al : Nat) (hal : al ≤ 500) (h0 : 0 < al) : 0 < pts wd ev al := by
  have h := (pts_spec wd ev al hal).2.1
  rcases Nat.eq_zero_or_pos (pts wd ev al) with q | q
  · rw [q] at h
    unfold lof at h
    by_cases h9 : plcs wd ev al ≤ (if wd then 70 else 160)
    · rw [if_pos h9, if_pos rfl] at h; omega
    · rw [if_neg h9] at h
      have := (sz_pos wd ev al (stt wd ev al 0)).mpr (show stt wd ev al 0 < al from h0)
      omega
  · exact q
theorem nI_plcs (wd : Prop) [Decidable wd] (ev al : Nat) (ha : al ≤ 500) (he : ev ≤ 50) : nI (plcs wd ev al) = (if wd then nI al else (if nI ev = 0 then (nI al + 0) else (nI al + (nI al / nI ev)))) ∧ plcs wd ev al ≤ 1000 := by
  unfold plcs
  by_cases w : wd
  · rw [if_pos w, if_pos w]; exact ⟨rfl, by omega⟩
  · rw [if_neg w, if_neg w]
    by_cases h0 : ev = 0
    · subst h0
      rw [if_pos rfl, if_pos (show nI 0 = 0 from rfl)]
      exact ⟨by rw [Nat.add_zero, Int32.add_zero], by omega⟩
    · have hd := Nat.div_le_self al ev
      rw [if_neg h0, if_neg (nI_ne0 (by omega) (by omega)), pk_div (by omega) (by omega) (by omega), nI_add]
      exact ⟨rfl, by omega⟩
theorem ev_pos {ev : Nat} (h : ¬ nI ev ≤ 0) (hv : ev ≤ 50) : 0 < ev := by
  rcases Nat.eq_zero_or_pos ev with q | q
  · subst q; exact absurd (by decide) h
  · exact q
theorem nI_nx (wd : Prop) [Decidable wd] (ev f : Nat) (hev : ev ≤ 50) (hf : f < 2 ^ 20) : nI (nx wd ev f) = (if wd then 1 else (if nI ev ≤ 0 then 1 else (if ((nI f + 1) - (nI f + 1) / nI ev * nI ev) = 0 then 2 else 1))) := by
  unfold nx
  by_cases w : wd
  · rw [if_pos w, if_neg (fun h => h.1 w)]; rfl
  · rw [if_neg w]
    by_cases h0 : ev = 0
    · subst h0
      rw [if_pos (show nI 0 ≤ 0 by decide), if_neg (fun h => by omega)]; rfl
    · rw [if_neg (nI_nle (by omega) (by omega)), nI_1, pk_rem (by omega) (by omega) (by omega)]
      by_cases hr : (f + 1) % ev = 0
      · rw [if_pos ⟨w, by omega, hr⟩, hr, if_pos (show nI 0 = 0 from rfl)]; rfl
      · have := Nat.mod_le (f + 1) ev
        rw [if_neg (fun h => hr h.2.2), if_neg (nI_ne0 (by omega) (by omega))]; rfl
theorem nI_lim (wd : Prop) [Decidable wd] (a b : Nat) (ha : a ≤ 1000) (hb : b ≤ 2) : ((if wd then (67 : Int32) else 153) < (nI a + nI b)) ↔ ¬ a + b ≤ lim wd := by
  rw [nI_add]
  unfold lim
  by_cases w : wd
  · rw [if_pos w, if_pos w, show (67 : Int32) = nI 67 from rfl, nI_ltI (by omega) (by omega)]; omega
  · rw [if_neg w, if_neg w, show (153 : Int32) = nI 153 from rfl, nI_ltI (by omega) (by omega)]; omega
theorem nI_pl1 (wd : Prop) [Decidable wd] (a : Nat) (ha : a ≤ 1000) : ((if wd then (70 : Int32) else 160) < nI a) ↔ ¬ a ≤ (if wd then 70 else 160) := by
  by_cases w : wd
  · rw [if_pos w, if_pos w, show (70 : Int32) = nI 70 from rfl, nI_ltI (by omega) (by omega)]; omega
  · rw [if_neg w, if_neg w, show (160 : Int32) = nI 160 from rfl, nI_ltI (by omega) (by omega)]; omega
theorem tk_step (wd : Prop) [Decidable wd] (ev al : Nat) {f z t : Nat} {g : Bool} {c : Nat} (hal : al ≤ 500) (hg : g = true) (hf : ¬ nI al ≤ nI (f + z)) (hl : ¬ (if wd then (67 : Int32) else 153) < (nI t + nI (nx wd ev (f + z)))) (hb : f + z ≤ al) (ht : t ≤ 153) (hs : z + (if g = true then tk wd ev al (al - (f + z)) (f + z) t else 0) = c) : f + (z + 1) ≤ al ∧ t + nx wd ev (f + z) ≤ 153 ∧ z + 1 + (if true = true then tk wd ev al (al - (f + (z + 1))) (f + (z + 1)) (t + nx wd ev (f + z)) else 0) = c ∧ 2 * (al - (f + (z + 1))) + (if true = true then 1 else 0) < 2 * (al - (f + z)) + (if g = true then 1 else 0) := by
  have hx := nx_le wd ev (f + z)
  have hm := lim_le wd
  rw [nI_lim wd t _ (by omega) hx.2.1, Classical.not_not] at hl
  rw [nI_leI (by omega) (by omega)] at hf
  rw [if_pos hg] at hs
  obtain ⟨k, hk⟩ : ∃ k, al - (f + z) = k + 1 := ⟨al - (f + z) - 1, by omega⟩
  rw [hk] at hs
  unfold tk at hs
  rw [if_pos ⟨by omega, hl⟩] at hs
  rw [if_pos rfl, if_pos rfl, if_pos hg, show al - (f + (z + 1)) = k by omega, show f + (z + 1) = f + z + 1 by omega]
  exact ⟨by omega, by omega, by omega, by omega⟩
theorem tk_stop (wd : Prop) [Decidable wd] (ev al : Nat) {f z t : Nat} {g : Bool} {c : Nat} (hal : al ≤ 500) (hg : g = true) (hl : (if wd then (67 : Int32) else 153) < (nI t + nI (nx wd ev (f + z)))) (ht : t ≤ 153) (hs : z + (if g = true then tk wd ev al (al - (f + z)) (f + z) t else 0) = c) : z + (if false = true then tk wd ev al (al - (f + z)) (f + z) t else 0) = c ∧ 2 * (al - (f + z)) + (if false = true then 1 else 0) < 2 * (al - (f + z)) + (if g = true then 1 else 0) := by
  have hx := nx_le wd ev (f + z)
  rw [nI_lim wd t _ (by omega) hx.2.1] at hl
  rw [if_pos hg] at hs ⊢
  rw [if_neg (by decide)]
  refine ⟨?_, by rw [if_neg (by decide)]; omega⟩
  rw [← hs]
  congr 1
  cases h : al - (f + z) with
  | zero => rfl
  | succ k =>
    unfold tk
    rw [if_neg (fun q => hl q.2)]
theorem tk_end (wd : Prop) [Decidable wd] (ev al : Nat) {f z t : Nat} {g : Bool} {c : Nat} (hs : z + (if g = true then tk wd ev al (al - (f + z)) (f + z) t else 0) = c) (h : ¬ g = true ∨ al ≤ f + z) : z = c := by
  rcases h with h | h
  · rw [if_neg h] at hs; omega
  · rw [tk_0 _ _ _ _ _ _ h] at hs
    split at hs <;> omega
theorem nI_lof1 (wd : Prop) [Decidable wd] (ev al q : Nat) (hal : al ≤ 500) (hev : ev ≤ 50) (hq : q ≤ 40) (h : ¬ (if wd then (70 : Int32) else 160) < nI (plcs wd ev al)) : (if nI q = 0 then nI al else 0) = nI (lof wd ev al q) := by
  rw [nI_pl1 wd _ (nI_plcs wd ev al hal hev).2, Classical.not_not] at h
  unfold lof
  rw [if_pos h]
  by_cases h0 : q = 0
  · subst h0; rfl
  · rw [if_neg h0, if_neg (nI_ne0 (by omega) (by omega))]; rfl
theorem nI_lof2 (wd : Prop) [Decidable wd] (ev al q : Nat) (hal : al ≤ 500) (hev : ev ≤ 50) (h : (if wd then (70 : Int32) else 160) < nI (plcs wd ev al)) : nI (szp wd ev al (q + 1)) = nI (lof wd ev al q) := by
  rw [nI_pl1 wd _ (nI_plcs wd ev al hal hev).2] at h
  unfold lof
  rw [if_neg h]
  rfl
set_option maxHeartbeats 4000000 in
set_option maxRecDepth 100000 in
theorem mc_lettersOf (l : Launch) (D : va_G) (A : Nat → Prop) (cs : Nat → ClassId) (ad : Nat → Nat → Nat) (dm : Nat → Nat → Prop) (w : CF) (wd : Prop) [Decidable wd] (ev al q : Nat) (hal : al ≤ 500) (hev : ev ≤ 50) (hq : q ≤ 40) : Met l yX6_lettersOf wsX6_lettersOf ({ frames := 0, cells := 0, slots := 0, locals := 0 }) (va_Pc [.int (nI al), .int (nI ev), .int (bi (wd)), .int (nI q)] (PW D A (tysG cs) ad dm w)) (va_Qi (fun r (_ : Unit) => r = (nI (lof wd ev al q))) (fun _ t => PW D A (tysG cs) ad dm w t) A) 0 0 A := by
  refine g_start (own := RX6) [.int (nI al), .int (nI ev), .int (bi (wd)), .int (nI q)] (cc := cX6_lettersOf) (maxL := 11) (ret := (some .int)) (lv0 := [(0, .int (nI al)), (1, .int (nI ev)), (2, .int (bi (wd))), (3, .int (nI q))]) (by decide) rfl rfl (Nat.le_of_ble_eq_true rfl) rfl ?_
  intro p e s m below meth c F hr hlocks hname
  refine g_iload_n F 2 dX6_lettersOf_0 rfl rfl ?_
  refine g_cut (w2 := w) (pc2 := 21) (lv2 := [(0, .int (nI al)), (1, .int (nI ev)), (2, .int (bi (wd))), (3, .int (nI q))]) (st2 := [.int (if wd then (nI al) else (if (nI ev) = 0 then ((nI al) + 0) else ((nI al) + ((nI al) / (nI ev)))) : Int32)]) ?_ (fun hJ1 => ?_)
  ·
    refine g_top (y := nI (plcs wd ev al)) (nI_plcs wd ev al hal hev).1 ?_
    refine g_istore F (lv1 := [(4, .int (nI (plcs wd ev al))), (0, .int (nI al)), (1, .int (nI ev)), (2, .int (bi (wd))), (3, .int (nI q))]) dX6_lettersOf_21 (by decide) rfl ?_
    refine g_iload F 0 dX6_lettersOf_23 rfl ?_
    refine g_iload_n F 3 dX6_lettersOf_25 rfl rfl ?_
    refine g_cut (w2 := w) (pc2 := 37) (lv2 := [(4, .int (nI (plcs wd ev al))), (0, .int (nI al)), (1, .int (nI ev)), (2, .int (bi (wd))), (3, .int (nI q))]) (st2 := [.int (if wd then 70 else 160 : Int32), .int (nI (plcs wd ev al))]) ?_ (fun hJ2 => ?_)
    ·
      refine g_icmp_gt F (tgt := 50) dX6_lettersOf_37 (by decide) (fun c3 => ?_) (fun c3 => ?_)
      ·
        refine g_iconst F dX6_lettersOf_50 (v := 0) (by decide) ?_
        refine g_istore F (lv1 := [(5, .int 0), (4, .int (nI (plcs wd ev al))), (0, .int (nI al)), (1, .int (nI ev)), (2, .int (bi (wd))), (3, .int (nI q))]) dX6_lettersOf_51 (by decide) rfl ?_
        refine g_iconst F dX6_lettersOf_53 (v := 0) (by decide) ?_
        refine g_istore F (lv1 := [(6, .int 0), (5, .int 0), (4, .int (nI (plcs wd ev al))), (0, .int (nI al)), (1, .int (nI ev)), (2, .int (bi (wd))), (3, .int (nI q))]) dX6_lettersOf_54 (by decide) rfl ?_
        refine g_iconst F dX6_lettersOf_56 (v := 0) (by decide) ?_
        refine g_istore F (lv1 := [(7, .int 0), (6, .int 0), (5, .int 0), (4, .int (nI (plcs wd ev al))), (0, .int (nI al)), (1, .int (nI ev)), (2, .int (bi (wd))), (3, .int (nI q))]) dX6_lettersOf_57 (by decide) rfl ?_
        refine g_loop (q + 1) 0 (by omega) (fun k4 => w) (fun k4 => [(7, .int (nI k4)), (6, .int (nI (szp wd ev al k4))), (5, .int (nI (stt wd ev al k4))), (4, .int (nI (plcs wd ev al))), (0, .int (nI al)), (1, .int (nI ev)), (2, .int (bi (wd))), (3, .int (nI q))]) rfl rfl ?_ (fun k4 hk6 hk7 ih5 => ?_)
        ·
          show GG p l e _ s m _ below meth c D A ad dm _ _ _ _ w 59 [(7, .int (nI (q + 1))), (6, .int (nI (szp wd ev al (q + 1)))), (5, .int (nI (stt wd ev al (q + 1)))), (4, .int (nI (plcs wd ev al))), (0, .int (nI al)), (1, .int (nI ev)), (2, .int (bi (wd))), (3, .int (nI q))] []
          refine g_iload F 0 dX6_lettersOf_59 rfl ?_
          refine g_iload_n F 7 dX6_lettersOf_61 rfl rfl ?_
          refine g_icmp_gt F (tgt := 163) dX6_lettersOf_62 (by decide) (fun c8 => ?_) (fun c8 => ?_)
          ·
            refine g_iload F 1 dX6_lettersOf_163 rfl ?_
            exact g_iret F hr (nI_lof2 wd ev al q hal hev c3) hlocks (fun _ h => h) dX6_lettersOf_165
          ·
            exact absurd ((nI_ltE (show (nI q) = nI q from rfl) (show (nI (q + 1)) = nI (q + 1) from rfl) (show q < 2 ^ 31 by omega) (show (q + 1) < 2 ^ 31 by omega)).mpr (by omega)) c8
        ·
          replace ih5 : GG p l e _ s m _ below meth c D A ad dm _ _ _ _ w 59 [(7, .int (nI (k4 + 1))), (6, .int (nI (szp wd ev al (k4 + 1)))), (5, .int (nI (stt wd ev al (k4 + 1)))), (4, .int (nI (plcs wd ev al))), (0, .int (nI al)), (1, .int (nI ev)), (2, .int (bi (wd))), (3, .int (nI q))] [] := ih5
          show GG p l e _ s m _ below meth c D A ad dm _ _ _ _ w 59 [(7, .int (nI k4)), (6, .int (nI (szp wd ev al k4))), (5, .int (nI (stt wd ev al k4))), (4, .int (nI (plcs wd ev al))), (0, .int (nI al)), (1, .int (nI ev)), (2, .int (bi (wd))), (3, .int (nI q))] []
          refine g_iload F 0 dX6_lettersOf_59 rfl ?_
          refine g_iload_n F 7 dX6_lettersOf_61 rfl rfl ?_
          refine g_icmp_gt F (tgt := 163) dX6_lettersOf_62 (by decide) (fun c9 => ?_) (fun c9 => ?_)
          ·
            exact absurd ((nI_ltE (show (nI q) = nI q from rfl) (show (nI k4) = nI k4 from rfl) (show q < 2 ^ 31 by omega) (show k4 < 2 ^ 31 by omega)).mp c9) (by omega)
          ·
            refine g_iconst F dX6_lettersOf_65 (v := 0) (by decide) ?_
            refine g_istore F (lv1 := [(6, .int 0), (7, .int (nI k4)), (5, .int (nI (stt wd ev al k4))), (4, .int (nI (plcs wd ev al))), (0, .int (nI al)), (1, .int (nI ev)), (2, .int (bi (wd))), (3, .int (nI q))]) dX6_lettersOf_66 (by decide) rfl ?_
            refine g_iconst F dX6_lettersOf_68 (v := 0) (by decide) ?_
            refine g_istore F (lv1 := [(8, .int 0), (6, .int 0), (7, .int (nI k4)), (5, .int (nI (stt wd ev al k4))), (4, .int (nI (plcs wd ev al))), (0, .int (nI al)), (1, .int (nI ev)), (2, .int (bi (wd))), (3, .int (nI q))]) dX6_lettersOf_69 (by decide) rfl ?_
            refine g_iconst F dX6_lettersOf_71 (v := 1) (by decide) ?_
            refine g_istore F (lv1 := [(9, .int 1), (8, .int 0), (6, .int 0), (7, .int (nI k4)), (5, .int (nI (stt wd ev al k4))), (4, .int (nI (plcs wd ev al))), (0, .int (nI al)), (1, .int (nI ev)), (2, .int (bi (wd))), (3, .int (nI q))]) dX6_lettersOf_72 (by decide) rfl ?_
            have hst := stt_le wd ev al k4
            refine g_rec (S := Nat × Nat × Bool) (fun x => 2 * (al - (stt wd ev al k4 + x.1)) + (if x.2.2 = true then 1 else 0)) (fun x => (stt wd ev al k4 + x.1) ≤ al ∧ x.2.1 ≤ 153 ∧ x.1 + (if x.2.2 = true then tk wd ev al (al - (stt wd ev al k4 + x.1)) (stt wd ev al k4 + x.1) x.2.1 else 0) = sz wd ev al (stt wd ev al k4)) (fun _ => w) (fun x => [(9, .int (bi (x.2.2 = true))), (8, .int (nI x.2.1)), (6, .int (nI x.1)), (7, .int (nI k4)), (5, .int (nI (stt wd ev al k4 + x.1))), (4, .int (nI (plcs wd ev al))), (0, .int (nI al)), (1, .int (nI ev)), (2, .int (bi (wd))), (3, .int (nI q))]) (0, 0, true) ⟨by show stt wd ev al k4 + 0 ≤ al; omega, by show 0 ≤ 153; omega, Nat.zero_add _⟩ rfl rfl ?_
            rintro ⟨z, t, g⟩ ⟨hz, ht, hs⟩ ih
            replace hz : (stt wd ev al k4 + z) ≤ al := hz
            replace ht : t ≤ 153 := ht
            replace hs : z + (if g = true then tk wd ev al (al - (stt wd ev al k4 + z)) (stt wd ev al k4 + z) t else 0) = sz wd ev al (stt wd ev al k4) := hs
            show GG p l e _ s m _ below meth c D A ad dm _ _ _ _ w 74 [(9, .int (bi (g = true))), (8, .int (nI t)), (6, .int (nI z)), (7, .int (nI k4)), (5, .int (nI (stt wd ev al k4 + z))), (4, .int (nI (plcs wd ev al))), (0, .int (nI al)), (1, .int (nI ev)), (2, .int (bi (wd))), (3, .int (nI q))] []
            refine g_iload F 0 dX6_lettersOf_74 rfl ?_
            refine g_ifb_eq F (tgt := 157) dX6_lettersOf_76 (by decide) (fun c10 => ?_) (fun c10 => ?_)
            ·
              obtain rfl : z = sz wd ev al (stt wd ev al k4) := tk_end wd ev al hs (.inl c10)
              show GG p l e _ s m _ below meth c D A ad dm _ _ _ _ w 157 [(9, .int (bi (g = true))), (8, .int (nI t)), (6, .int (nI (szp wd ev al (k4 + 1)))), (7, .int (nI k4)), (5, .int (nI (stt wd ev al (k4 + 1)))), (4, .int (nI (plcs wd ev al))), (0, .int (nI al)), (1, .int (nI ev)), (2, .int (bi (wd))), (3, .int (nI q))] []
              refine g_iinc F (v := (nI (k4 + 1))) (lv1 := [(7, .int (nI (k4 + 1))), (9, .int (bi (g = true))), (8, .int (nI t)), (6, .int (nI (szp wd ev al (k4 + 1)))), (5, .int (nI (stt wd ev al (k4 + 1)))), (4, .int (nI (plcs wd ev al))), (0, .int (nI al)), (1, .int (nI ev)), (2, .int (bi (wd))), (3, .int (nI q))]) 3 dX6_lettersOf_157 rfl (nI_1 k4) (by decide) rfl ?_
              refine g_goto F (tgt := 59) dX6_lettersOf_160 (by decide) ?_
              exact g_lv [0, 3, 4, 5, 6, 7, 8, 9] rfl ih5
            ·
              refine g_iload F 4 dX6_lettersOf_79 rfl ?_
              refine g_iload_n F 6 dX6_lettersOf_81 rfl rfl ?_
              refine g_icmp_ge F (tgt := 157) dX6_lettersOf_82 (by decide) (fun c11 => ?_) (fun c11 => ?_)
              ·
                obtain rfl : z = sz wd ev al (stt wd ev al k4) := tk_end wd ev al hs (.inr ((nI_leI (by omega) (by omega)).mp c11))
                show GG p l e _ s m _ below meth c D A ad dm _ _ _ _ w 157 [(9, .int (bi (g = true))), (8, .int (nI t)), (6, .int (nI (szp wd ev al (k4 + 1)))), (7, .int (nI k4)), (5, .int (nI (stt wd ev al (k4 + 1)))), (4, .int (nI (plcs wd ev al))), (0, .int (nI al)), (1, .int (nI ev)), (2, .int (bi (wd))), (3, .int (nI q))] []
                refine g_iinc F (v := (nI (k4 + 1))) (lv1 := [(7, .int (nI (k4 + 1))), (9, .int (bi (g = true))), (8, .int (nI t)), (6, .int (nI (szp wd ev al (k4 + 1)))), (5, .int (nI (stt wd ev al (k4 + 1)))), (4, .int (nI (plcs wd ev al))), (0, .int (nI al)), (1, .int (nI ev)), (2, .int (bi (wd))), (3, .int (nI q))]) 3 dX6_lettersOf_157 rfl (nI_1 k4) (by decide) rfl ?_
                refine g_goto F (tgt := 59) dX6_lettersOf_160 (by decide) ?_
                exact g_lv [0, 3, 4, 5, 6, 7, 8, 9] rfl ih5
              ·
                refine g_iload_n F 8 dX6_lettersOf_85 rfl rfl ?_
                refine g_cut (w2 := w) (pc2 := 107) (lv2 := [(9, .int (bi (g = true))), (8, .int (nI t)), (6, .int (nI z)), (7, .int (nI k4)), (5, .int (nI (stt wd ev al k4 + z))), (4, .int (nI (plcs wd ev al))), (0, .int (nI al)), (1, .int (nI ev)), (2, .int (bi (wd))), (3, .int (nI q))]) (st2 := [.int (if wd then 1 else (if (nI ev) ≤ 0 then 1 else (if (((nI (stt wd ev al k4 + z)) + 1) - ((nI (stt wd ev al k4 + z)) + 1) / (nI ev) * (nI ev)) = 0 then 2 else 1)) : Int32)]) ?_ (fun hJ12 => ?_)
                ·
                  refine g_top (y := nI (nx wd ev (stt wd ev al k4 + z))) (nI_nx wd ev (stt wd ev al k4 + z) hev (by omega)) ?_
                  refine g_istore F (lv1 := [(10, .int (nI (nx wd ev (stt wd ev al k4 + z)))), (9, .int (bi (g = true))), (8, .int (nI t)), (6, .int (nI z)), (7, .int (nI k4)), (5, .int (nI (stt wd ev al k4 + z))), (4, .int (nI (plcs wd ev al))), (0, .int (nI al)), (1, .int (nI ev)), (2, .int (bi (wd))), (3, .int (nI q))]) dX6_lettersOf_107 (by decide) rfl ?_
                  refine g_iload F 2 dX6_lettersOf_109 rfl ?_
                  refine g_iload F 0 dX6_lettersOf_111 rfl ?_
                  refine g_iadd F dX6_lettersOf_113 ?_
                  refine g_iload_n F 9 dX6_lettersOf_114 rfl rfl ?_
                  refine g_cut (w2 := w) (pc2 := 126) (lv2 := [(10, .int (nI (nx wd ev (stt wd ev al k4 + z)))), (9, .int (bi (g = true))), (8, .int (nI t)), (6, .int (nI z)), (7, .int (nI k4)), (5, .int (nI (stt wd ev al k4 + z))), (4, .int (nI (plcs wd ev al))), (0, .int (nI al)), (1, .int (nI ev)), (2, .int (bi (wd))), (3, .int (nI q))]) (st2 := [.int (if wd then 67 else 153 : Int32), .int ((nI t) + (nI (nx wd ev (stt wd ev al k4 + z))))]) ?_ (fun hJ13 => ?_)
                  ·
                    refine g_cut (w2 := w) (pc2 := 134) (lv2 := [(10, .int (nI (nx wd ev (stt wd ev al k4 + z)))), (9, .int (bi (g = true))), (8, .int (nI t)), (6, .int (nI z)), (7, .int (nI k4)), (5, .int (nI (stt wd ev al k4 + z))), (4, .int (nI (plcs wd ev al))), (0, .int (nI al)), (1, .int (nI ev)), (2, .int (bi (wd))), (3, .int (nI q))]) (st2 := [.int (bi (¬ (if wd then 67 else 153 : Int32) < ((nI t) + (nI (nx wd ev (stt wd ev al k4 + z))))))]) ?_ (fun hJ14 => ?_)
                    ·
                      refine g_istore F (lv1 := [(9, .int (bi (¬ (if wd then 67 else 153 : Int32) < ((nI t) + (nI (nx wd ev (stt wd ev al k4 + z))))))), (10, .int (nI (nx wd ev (stt wd ev al k4 + z)))), (8, .int (nI t)), (6, .int (nI z)), (7, .int (nI k4)), (5, .int (nI (stt wd ev al k4 + z))), (4, .int (nI (plcs wd ev al))), (0, .int (nI al)), (1, .int (nI ev)), (2, .int (bi (wd))), (3, .int (nI q))]) dX6_lettersOf_134 (by decide) rfl ?_
                      refine g_iload F 0 dX6_lettersOf_136 rfl ?_
                      refine g_ifb_eq F (tgt := 154) dX6_lettersOf_138 (by decide) (fun c15 => ?_) (fun c15 => ?_)
                      ·
                        replace c15 := Classical.not_not.mp c15
                        refine g_goto F (tgt := 74) dX6_lettersOf_154 (by decide) ?_
                        obtain ⟨hs1, hm1⟩ := tk_stop wd ev al hal c10 c15 ht hs
                        exact g_lv [0, 2, 3, 4, 5, 6, 7, 8, 9, 10] (by rw [bi_f (fun q => q c15)]; rfl) (ih (z, t, false) ⟨hz, ht, hs1⟩ hm1)
                      ·
                        refine g_iload F 2 dX6_lettersOf_141 rfl ?_
                        refine g_iload F 1 dX6_lettersOf_143 rfl ?_
                        refine g_iadd F dX6_lettersOf_145 ?_
                        refine g_istore F (lv1 := [(8, .int ((nI t) + (nI (nx wd ev (stt wd ev al k4 + z))))), (9, .int (bi (¬ (if wd then 67 else 153 : Int32) < ((nI t) + (nI (nx wd ev (stt wd ev al k4 + z))))))), (10, .int (nI (nx wd ev (stt wd ev al k4 + z)))), (6, .int (nI z)), (7, .int (nI k4)), (5, .int (nI (stt wd ev al k4 + z))), (4, .int (nI (plcs wd ev al))), (0, .int (nI al)), (1, .int (nI ev)), (2, .int (bi (wd))), (3, .int (nI q))]) dX6_lettersOf_146 (by decide) rfl ?_
                        refine g_iinc F (v := (nI ((stt wd ev al k4 + z) + 1))) (lv1 := [(5, .int (nI ((stt wd ev al k4 + z) + 1))), (8, .int ((nI t) + (nI (nx wd ev (stt wd ev al k4 + z))))), (9, .int (bi (¬ (if wd then 67 else 153 : Int32) < ((nI t) + (nI (nx wd ev (stt wd ev al k4 + z))))))), (10, .int (nI (nx wd ev (stt wd ev al k4 + z)))), (6, .int (nI z)), (7, .int (nI k4)), (4, .int (nI (plcs wd ev al))), (0, .int (nI al)), (1, .int (nI ev)), (2, .int (bi (wd))), (3, .int (nI q))]) 5 dX6_lettersOf_148 rfl (nI_1 (stt wd ev al k4 + z)) (by decide) rfl ?_
                        refine g_iinc F (v := (nI (z + 1))) (lv1 := [(6, .int (nI (z + 1))), (5, .int (nI ((stt wd ev al k4 + z) + 1))), (8, .int ((nI t) + (nI (nx wd ev (stt wd ev al k4 + z))))), (9, .int (bi (¬ (if wd then 67 else 153 : Int32) < ((nI t) + (nI (nx wd ev (stt wd ev al k4 + z))))))), (10, .int (nI (nx wd ev (stt wd ev al k4 + z)))), (7, .int (nI k4)), (4, .int (nI (plcs wd ev al))), (0, .int (nI al)), (1, .int (nI ev)), (2, .int (bi (wd))), (3, .int (nI q))]) 4 dX6_lettersOf_151 rfl (nI_1 z) (by decide) rfl ?_
                        refine g_goto F (tgt := 74) dX6_lettersOf_154 (by decide) ?_
                        obtain ⟨hz1, ht1, hs1, hm1⟩ := tk_step wd ev al hal c10 c11 c15 hz ht hs
                        exact g_lv [3, 2, 0, 5, 1, 6, 7, 8, 9, 10] (by rw [bi_t c15, nI_add]; rfl) (ih (z + 1, t + nx wd ev (stt wd ev al k4 + z), true) ⟨hz1, ht1, hs1⟩ hm1)
                    ·
                      refine g_icmp_gt F (tgt := 133) dX6_lettersOf_126 (by decide) (fun c16 => ?_) (fun c16 => ?_)
                      ·
                        refine g_iconst F dX6_lettersOf_133 (v := 0) (by decide) ?_
                        exact g_top (bi_f (fun q => q c16)) hJ14
                      ·
                        refine g_iconst F dX6_lettersOf_129 (v := 1) (by decide) ?_
                        refine g_goto F (tgt := 134) dX6_lettersOf_130 (by decide) ?_
                        exact g_top (bi_t c16) hJ14
                  ·
                    refine g_ifb_eq F (tgt := 123) dX6_lettersOf_115 (by decide) (fun c17 => ?_) (fun c17 => ?_)
                    ·
                      refine g_sipush F dX6_lettersOf_123 (v := 153) (by decide) ?_
                      exact g_top (by rw [if_neg c17]) hJ13
                    ·
                      refine g_bipush F dX6_lettersOf_118 (v := 67) (by decide) ?_
                      refine g_goto F (tgt := 126) dX6_lettersOf_120 (by decide) ?_
                      exact g_top (by rw [if_pos c17]) hJ13
                ·
                  refine g_ifb_ne F (tgt := 106) dX6_lettersOf_86 (by decide) (fun c18 => ?_) (fun c18 => ?_)
                  ·
                    refine g_iconst F dX6_lettersOf_106 (v := 1) (by decide) ?_
                    exact g_top (by rw [if_pos c18]) hJ12
                  ·
                    refine g_iload_n F 7 dX6_lettersOf_89 rfl rfl ?_
                    refine g_if_le F (tgt := 106) dX6_lettersOf_90 (by decide) (fun c19 => ?_) (fun c19 => ?_)
                    ·
                      refine g_iconst F dX6_lettersOf_106 (v := 1) (by decide) ?_
                      exact g_top (by rw [if_neg c18, if_pos c19]) hJ12
                    ·
                      refine g_iload F 4 dX6_lettersOf_93 rfl ?_
                      refine g_iconst F dX6_lettersOf_95 (v := 1) (by decide) ?_
                      refine g_iadd F dX6_lettersOf_96 ?_
                      refine g_iload_n F 7 dX6_lettersOf_97 rfl rfl ?_
                      refine g_irem F dX6_lettersOf_98 (by first | assumption | exact nI_ne0 (ev_pos ‹_› hev) (by omega)) ?_
                      refine g_if_ne F (tgt := 106) dX6_lettersOf_99 (by decide) (fun c20 => ?_) (fun c20 => ?_)
                      ·
                        refine g_iconst F dX6_lettersOf_106 (v := 1) (by decide) ?_
                        exact g_top (by rw [if_neg c18, if_neg c19, if_neg c20]) hJ12
                      ·
                        refine g_iconst F dX6_lettersOf_102 (v := 2) (by decide) ?_
                        refine g_goto F (tgt := 107) dX6_lettersOf_103 (by decide) ?_
                        exact g_top (by rw [if_neg c18, if_neg c19, if_pos c20]) hJ12
      ·
        refine g_iload_n F 4 dX6_lettersOf_40 rfl rfl ?_
        refine g_cut (w2 := w) (pc2 := 49) (lv2 := [(4, .int (nI (plcs wd ev al))), (0, .int (nI al)), (1, .int (nI ev)), (2, .int (bi (wd))), (3, .int (nI q))]) (st2 := [.int (if (nI q) = 0 then (nI al) else 0 : Int32)]) ?_ (fun hJ21 => ?_)
        ·
          exact g_iret F hr (nI_lof1 wd ev al q hal hev hq c3) hlocks (fun _ h => h) dX6_lettersOf_49
        ·
          refine g_if_ne F (tgt := 48) dX6_lettersOf_41 (by decide) (fun c22 => ?_) (fun c22 => ?_)
          ·
            refine g_iconst F dX6_lettersOf_48 (v := 0) (by decide) ?_
            exact g_top (by rw [if_neg c22]) hJ21
          ·
            refine g_iload_n F 1 dX6_lettersOf_44 rfl rfl ?_
            refine g_goto F (tgt := 49) dX6_lettersOf_45 (by decide) ?_
            exact g_top (by rw [if_pos c22]) hJ21
    ·
      refine g_ifb_eq F (tgt := 34) dX6_lettersOf_26 (by decide) (fun c23 => ?_) (fun c23 => ?_)
      ·
        refine g_sipush F dX6_lettersOf_34 (v := 160) (by decide) ?_
        exact g_top (by rw [if_neg c23]) hJ2
      ·
        refine g_bipush F dX6_lettersOf_29 (v := 70) (by decide) ?_
        refine g_goto F (tgt := 37) dX6_lettersOf_31 (by decide) ?_
        exact g_top (by rw [if_pos c23]) hJ2
  ·
    refine g_ifb_eq F (tgt := 8) dX6_lettersOf_1 (by decide) (fun c24 => ?_) (fun c24 => ?_)
    ·
      refine g_iload_n F 0 dX6_lettersOf_8 rfl rfl ?_
      refine g_iload_n F 1 dX6_lettersOf_9 rfl rfl ?_
      refine g_if_ne F (tgt := 17) dX6_lettersOf_10 (by decide) (fun c25 => ?_) (fun c25 => ?_)
      ·
        refine g_iload_n F 0 dX6_lettersOf_17 rfl rfl ?_
        refine g_iload_n F 1 dX6_lettersOf_18 rfl rfl ?_
        refine g_idiv F dX6_lettersOf_19 (by first | assumption | exact nI_ne0 (ev_pos ‹_› hev) (by omega)) ?_
        refine g_iadd F dX6_lettersOf_20 ?_
        exact g_top (by rw [if_neg c24, if_neg c25]) hJ1
      ·
        refine g_iconst F dX6_lettersOf_13 (v := 0) (by decide) ?_
        refine g_goto F (tgt := 20) dX6_lettersOf_14 (by decide) ?_
        refine g_iadd F dX6_lettersOf_20 ?_
        exact g_top (by rw [if_neg c24, if_pos c25]) hJ1
    ·
      refine g_iload_n F 0 dX6_lettersOf_4 rfl rfl ?_
      refine g_goto F (tgt := 21) dX6_lettersOf_5 (by decide) ?_
      exact g_top (by rw [if_pos c24]) hJ1
set_option maxHeartbeats 4000000 in
set_option maxRecDepth 100000 in
theorem mc_partsOf (l : Launch) (D : va_G) (A : Nat → Prop) (cs : Nat → ClassId) (ad : Nat → Nat → Nat) (dm : Nat → Nat → Prop) (w : CF) (wd : Prop) [Decidable wd] (ev al : Nat) (hal : al ≤ 500) (hev : ev ≤ 50) : Met l yX6_partsOf wsX6_partsOf ({ frames := 1, cells := 0, slots := 0, locals := 30 }) (va_Pc [.int (nI al), .int (nI ev), .int (bi (wd))] (PW D A (tysG cs) ad dm w)) (va_Qi (fun r (_ : Unit) => r = (nI (pts wd ev al))) (fun _ t => PW D A (tysG cs) ad dm w t) A) 0 0 A := by
  refine g_start (own := RX6) [.int (nI al), .int (nI ev), .int (bi (wd))] (cc := cX6_partsOf) (maxL := 4) (ret := (some .int)) (lv0 := [(0, .int (nI al)), (1, .int (nI ev)), (2, .int (bi (wd)))]) (by decide) rfl rfl (Nat.le_of_ble_eq_true rfl) rfl ?_
  intro p e s m below meth c F hr hlocks hname
  refine g_iconst F dX6_partsOf_0 (v := 0) (by decide) ?_
  refine g_istore_n F (lv1 := [(3, .int 0), (0, .int (nI al)), (1, .int (nI ev)), (2, .int (bi (wd)))]) dX6_partsOf_1 rfl (by decide) rfl ?_
  refine g_loop (pts wd ev al) 0 (by omega) (fun k1 => w) (fun k1 => [(3, .int (nI k1)), (0, .int (nI al)), (1, .int (nI ev)), (2, .int (bi (wd)))]) rfl rfl ?_ (fun k1 hk3 hk4 ih2 => ?_)
  ·
    show GG p l e _ s m _ below meth c D A ad dm _ _ _ _ w 2 [(3, .int (nI (pts wd ev al))), (0, .int (nI al)), (1, .int (nI ev)), (2, .int (bi (wd)))] []
    have hf := (pts_spec wd ev al hal).2.1
    have hf8 := (pts_spec wd ev al hal).1
    have hfl := lof_le wd ev al (pts wd ev al)
    refine g_iload_n F 1 dX6_partsOf_2 rfl rfl ?_
    refine g_iload_n F 2 dX6_partsOf_3 rfl rfl ?_
    refine g_iload_n F 3 dX6_partsOf_4 rfl rfl ?_
    refine g_iload_n F 0 dX6_partsOf_5 rfl rfl ?_
    refine g_callSi F (rest := []) [.int (nI al), .int (nI ev), .int (bi (wd)), .int (nI (pts wd ev al))] (mc_lettersOf l D A cs ad dm w (wd) ev al (pts wd ev al) (by omega) (by omega) (by omega)) (va_cwS 4 F.1.2.2.2.2 gX6_partsOf_X6_lettersOf rfl rfl rfl (by decide +kernel) ⟨Nat.le_of_ble_eq_true rfl, Nat.le_of_ble_eq_true rfl⟩) rfl rfl (Nat.le_of_ble_eq_true rfl) dX6_partsOf_6 ⟨Nat.le_of_ble_eq_true rfl, Nat.le_of_ble_eq_true rfl⟩ ?_
    refine g_if_le F (tgt := 18) dX6_partsOf_9 (by decide) (fun c5 => ?_) (fun c5 => ?_)
    ·
      refine g_iload_n F 0 dX6_partsOf_18 rfl rfl ?_
      exact g_iret F hr rfl hlocks (fun _ h => h) dX6_partsOf_19
    ·
      exact absurd ((nI_leE (show (nI (lof (wd) ev al (pts wd ev al))) = nI (lof (wd) ev al (pts wd ev al)) from rfl) (show 0 = nI 0 from rfl) (show (lof (wd) ev al (pts wd ev al)) < 2 ^ 31 by omega) (show 0 < 2 ^ 31 by omega)).mpr (by omega)) c5
  ·
    replace ih2 : GG p l e _ s m _ below meth c D A ad dm _ _ _ _ w 2 [(3, .int (nI (k1 + 1))), (0, .int (nI al)), (1, .int (nI ev)), (2, .int (bi (wd)))] [] := ih2
    show GG p l e _ s m _ below meth c D A ad dm _ _ _ _ w 2 [(3, .int (nI k1)), (0, .int (nI al)), (1, .int (nI ev)), (2, .int (bi (wd)))] []
    have hf := (pts_spec wd ev al hal).2.2 k1 hk4
    have hf8 := (pts_spec wd ev al hal).1
    have hfl := lof_le wd ev al k1
    refine g_iload_n F 1 dX6_partsOf_2 rfl rfl ?_
    refine g_iload_n F 2 dX6_partsOf_3 rfl rfl ?_
    refine g_iload_n F 3 dX6_partsOf_4 rfl rfl ?_
    refine g_iload_n F 0 dX6_partsOf_5 rfl rfl ?_
    refine g_callSi F (rest := []) [.int (nI al), .int (nI ev), .int (bi (wd)), .int (nI k1)] (mc_lettersOf l D A cs ad dm w (wd) ev al k1 (by omega) (by omega) (by omega)) (va_cwS 4 F.1.2.2.2.2 gX6_partsOf_X6_lettersOf rfl rfl rfl (by decide +kernel) ⟨Nat.le_of_ble_eq_true rfl, Nat.le_of_ble_eq_true rfl⟩) rfl rfl (Nat.le_of_ble_eq_true rfl) dX6_partsOf_6 ⟨Nat.le_of_ble_eq_true rfl, Nat.le_of_ble_eq_true rfl⟩ ?_
    refine g_if_le F (tgt := 18) dX6_partsOf_9 (by decide) (fun c6 => ?_) (fun c6 => ?_)
    ·
      exact absurd ((nI_leE (show (nI (lof (wd) ev al k1)) = nI (lof (wd) ev al k1) from rfl) (show 0 = nI 0 from rfl) (show (lof (wd) ev al k1) < 2 ^ 31 by omega) (show 0 < 2 ^ 31 by omega)).mp c6) (by omega)
    ·
      refine g_iinc F (v := (nI (k1 + 1))) (lv1 := [(3, .int (nI (k1 + 1))), (0, .int (nI al)), (1, .int (nI ev)), (2, .int (bi (wd)))]) 0 dX6_partsOf_12 rfl (nI_1 k1) (by decide) rfl ?_
      refine g_goto F (tgt := 2) dX6_partsOf_15 (by decide) ?_
      exact g_lv [0, 1, 2, 3] rfl ih2
