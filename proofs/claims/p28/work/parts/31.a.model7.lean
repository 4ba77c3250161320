def z0S : SG := fun _ _ => 0
def in1 (k : Nat) : SG := fun f i => if i < k then (if f = 1 then 1 else if f = 5 then (-1) else if f = 7 then 20 else if f = 8 then 10 else 0) else 0
def in2 (r : Nat) : SG := fun f i => if f = 29 then (if i < r then 10 else 0) else in1 4 f i
def mfp (ad : Nat → Nat → Nat) (t : Nat) : List Value := (List.range 33).map (fun f => if f = 0 ∨ f = 11 ∨ f = 32 then Value.int 0 else if f < t then Value.ref (ad 1 f) else Value.null)
def mz (cs : Nat → ClassId) (w : CF) : CF := fun k i => if k = 1 then .inl (if mzb i then cs 1 else cs 0, mlen i, .inl (fun _ => 0)) else w k i
def dmp (dm : Nat → Nat → Prop) (t : Nat) : Nat → Nat → Prop := fun a b => dm a b ∨ (a = 1 ∧ b < t ∧ 0 < mlen b)
theorem in1_0 : in1 0 = z0S := by
  funext f i
  exact if_neg (Nat.not_lt_zero _)
theorem in1_s (k : Nat) : in1 (k + 1) = up2 (up2 (up2 (up2 (in1 k) 1 k 1) 5 k (-1)) 7 k 20) 8 k 10 := by
  funext f i
  unfold in1 up2
  by_cases h : i = k
  · subst h
    rw [if_pos (Nat.lt_succ_self _)]
    by_cases h8 : f = 8
    · subst h8; simp
    · by_cases h7 : f = 7
      · subst h7; simp
      · by_cases h5 : f = 5
        · subst h5; simp
        · by_cases h1 : f = 1
          · subst h1; simp
          · simp [h8, h7, h5, h1]
  · simp only [h, and_false, if_false]
    by_cases h2 : i < k
    · rw [if_pos (by omega), if_pos h2]
    · rw [if_neg (by omega), if_neg h2]
theorem in2_0 : in2 0 = in1 4 := by
  funext f i
  unfold in2
  by_cases h : f = 29
  · rw [if_pos h, if_neg (Nat.not_lt_zero _), h]
    unfold in1
    split <;> rfl
  · rw [if_neg h]
theorem in2_s (r : Nat) : in2 (r + 1) = up2 (in2 r) 29 r 10 := by
  funext f i
  by_cases h : f = 29 ∧ i = r
  · rw [h.1, h.2, up2_self]
    unfold in2
    rw [if_pos rfl, if_pos (Nat.lt_succ_self _)]
  · rw [up2_ne _ _ h]
    unfold in2
    by_cases h9 : f = 29
    · rw [if_pos h9, if_pos h9]
      by_cases h2 : i < r
      · rw [if_pos (by omega), if_pos h2]
      · rw [if_neg (fun q => h ⟨h9, by omega⟩), if_neg h2]
    · rw [if_neg h9, if_neg h9]
theorem in2_e (ad : Nat → Nat → Nat) (cs : Nat → ClassId) (w : CF) : mw ad cs (in2 6) w = mw ad cs sgI w := by
  have e : ∀ f, marr (in2 6) f = marr sgI f := by
    intro f
    funext j
    unfold marr
    by_cases hj : j < mlen f
    · rw [if_pos hj, if_pos hj]
      unfold in2 in1 sgI
      by_cases h29 : f = 29
      · subst h29
        rw [if_pos rfl, if_pos (show j < 6 from hj)]
        rfl
      · rw [if_neg h29]
        by_cases h1 : f = 1
        · subst h1; rw [if_pos (show j < 4 from hj)]; rfl
        · by_cases h5 : f = 5
          · subst h5; rw [if_pos (show j < 4 from hj)]; rfl
          · by_cases h7 : f = 7
            · subst h7; rw [if_pos (show j < 4 from hj)]; rfl
            · by_cases h8 : f = 8
              · subst h8; rw [if_pos (show j < 4 from hj)]; rfl
              · simp only [h1, h5, h7, h8, h29, if_false, or_self]
                split <;> rfl
    · rw [if_neg hj, if_neg hj]
  funext k i
  unfold mw
  simp only [e]
  rfl
theorem mfp_s {ad ad1 : Nat → Nat → Nat} {f : Nat} (hf : f < 33) (h0 : ¬ (f = 0 ∨ f = 11 ∨ f = 32)) (h : ∀ g, g ≠ f → ad1 1 g = ad 1 g) : (mfp ad f).set f (.ref (ad1 1 f)) = mfp ad1 (f + 1) := by
  apply List.ext_getElem?
  intro i
  unfold mfp
  rw [List.getElem?_set, List.getElem?_map, List.getElem?_map]
  by_cases hi : i < 33
  · rw [List.getElem?_range hi]
    by_cases e : f = i
    · subst e
      simp [h0, hf]
    · rw [if_neg e]
      simp only [Option.map_some]
      by_cases h2 : i = 0 ∨ i = 11 ∨ i = 32
      · rw [if_pos h2, if_pos h2]
      · rw [if_neg h2, if_neg h2]
        by_cases h3 : i < f
        · rw [if_pos h3, if_pos (by omega), h i (fun q => e q.symm)]
        · rw [if_neg h3, if_neg (by omega)]
  · have hn : (List.range 33)[i]? = none := List.getElem?_eq_none (by rw [List.length_range]; omega)
    rw [hn, if_neg (by omega)]
    rfl
theorem mfp_len (ad : Nat → Nat → Nat) (t : Nat) : (mfp ad t).length = 33 := by unfold mfp; rw [List.length_map, List.length_range]
theorem mz_e {ad : Nat → Nat → Nat} {cs : Nat → ClassId} {w : CF} : up2 (mz cs w) 0 0 (.inr (6, mfp ad 32)) = mw ad cs z0S w := by
  have e : ∀ f, marr z0S f = fun _ => 0 := by
    intro f
    funext j
    unfold marr z0S
    split <;> rfl
  funext k i
  unfold mw
  by_cases h : k = 0 ∧ i = 0
  · rw [if_pos h, h.1, h.2, up2_self]; rfl
  · rw [if_neg h, up2_ne _ _ h]
    unfold mz
    simp only [e]
section NW15
variable {p : Program} {l : Launch} {e : Env} {R : Room} {s : State} {m : MethodId} {args : Array Value} {below : List Frame} {meth : Method} {c : Code} {cells slots : Nat} {Q : State → Prop} {cc : ByteArray} {nL : Nat} {Ts : List Cond} {own : String} {D : va_G} {A : Nat → Prop} {cs : Nat → ClassId} {ad : Nat → Nat → Nat} {dm : Nat → Nat → Prop} {w : CF} {pc : Nat} {lv : List (Nat × Value)} {rest : List Value}
end NW15

