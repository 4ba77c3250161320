/-! the reference's object: its arrays by the field's place, σ f j what the array of field f holds at j; a number in a field: σ f 0 -/
abbrev tysG (cs : Nat → ClassId) : List (ClassId × FieldType) := [(cs 0, .int), (cs 0, .int), (cs 0, .int), (cs 3, .object "MessageCentre$Account"), (cs 4, .object "MessageCentre$Recipient"), (cs 5, .object "java/lang/Object")]
abbrev SG : Type := Nat → Nat → Int32
def mlen (f : Nat) : Nat := if f = 0 ∨ f = 11 then 0 else if f ≤ 9 then 4 else if f = 10 then 160 else if f ≤ 26 then 40 else if f = 27 then 120 else if f ≤ 31 then 6 else 0
def mzb (f : Nat) : Bool := f == 3 || f == 6 || f == 19 || f == 22
def mfs (ad : Nat → Nat → Nat) (σ : SG) : List Value := [.int (σ 0 0), .ref (ad 1 1), .ref (ad 1 2), .ref (ad 1 3), .ref (ad 1 4), .ref (ad 1 5), .ref (ad 1 6), .ref (ad 1 7), .ref (ad 1 8), .ref (ad 1 9), .ref (ad 1 10), .int (σ 11 0), .ref (ad 1 12), .ref (ad 1 13), .ref (ad 1 14), .ref (ad 1 15), .ref (ad 1 16), .ref (ad 1 17), .ref (ad 1 18), .ref (ad 1 19), .ref (ad 1 20), .ref (ad 1 21), .ref (ad 1 22), .ref (ad 1 23), .ref (ad 1 24), .ref (ad 1 25), .ref (ad 1 26), .ref (ad 1 27), .ref (ad 1 28), .ref (ad 1 29), .ref (ad 1 30), .ref (ad 1 31), .int (σ 32 0)]
def marr (σ : SG) (f : Nat) : Nat → Int32 := fun j => if j < mlen f then σ f j else 0
def mw (ad : Nat → Nat → Nat) (cs : Nat → ClassId) (σ : SG) (w0 : CF) : CF := fun k i => if k = 0 ∧ i = 0 then .inr (6, mfs ad σ) else if k = 1 then .inl (if mzb i then cs 1 else cs 0, mlen i, .inl (marr σ i)) else w0 k i
def MD (dm : Nat → Nat → Prop) : Prop := dm 0 0 ∧ ∀ f, 0 < mlen f → dm 1 f
theorem mw_rest (ad : Nat → Nat → Nat) (cs : Nat → ClassId) (σ : SG) (w0 : CF) {k : Nat} (h : 2 ≤ k) (i : Nat) : mw ad cs σ w0 k i = w0 k i := by
  unfold mw
  rw [if_neg (by omega), if_neg (by omega)]
theorem mlen_lt (f : Nat) : mlen f < 2 ^ 31 := by unfold mlen; repeat' split
                                                  all_goals omega
theorem mw_setA (ad : Nat → Nat → Nat) (cs : Nat → ClassId) (σ : SG) (w0 : CF) {f j : Nat} (hj : j < mlen f) (x : Int32) : up2 (mw ad cs σ w0) 1 f (.inl (if mzb f then cs 1 else cs 0, mlen f, .inl (upd (marr σ f) j x))) = mw ad cs (up2 σ f j x) w0 := by
  have hf : f ≠ 0 ∧ f ≠ 11 ∧ f ≠ 32 := by
    refine ⟨?_, ?_, ?_⟩ <;> (rintro rfl; simp [mlen] at hj)
  have e0 : mfs ad (up2 σ f j x) = mfs ad σ := by
    unfold mfs
    rw [up2_ne _ _ (fun h => hf.1 h.1.symm), up2_ne _ _ (fun h => hf.2.1 h.1.symm), up2_ne _ _ (fun h => hf.2.2 h.1.symm)]
  funext k i
  unfold mw
  rw [e0]
  by_cases hk0 : k = 0 ∧ i = 0
  · rw [if_pos hk0, up2_ne _ _ (fun h => by omega), if_pos hk0]
  · rw [if_neg hk0]
    by_cases hk1 : k = 1
    · rw [if_pos hk1]
      by_cases hi : i = f
      · rw [hk1, hi, up2_self]
        congr 4
        funext q
        unfold upd marr
        by_cases hq : q = j
        · subst hq; rw [if_pos rfl, if_pos hj, up2_self]
        · rw [if_neg hq, up2_ne _ _ (fun h => hq h.2)]
      · rw [up2_ne _ _ (fun h => hi h.2), if_neg hk0, if_pos hk1]
        congr 4
        funext q
        unfold marr
        rw [up2_ne _ _ (fun h => hi h.1)]
    · rw [if_neg hk1, up2_ne _ _ (fun h => hk1 h.1), if_neg hk0, if_neg hk1]
theorem mw_setI (ad : Nat → Nat → Nat) (cs : Nat → ClassId) (σ : SG) (w0 : CF) {f : Nat} (hf : mlen f = 0) (x : Int32) (hs : (mfs ad σ).set f (.int x) = mfs ad (up2 σ f 0 x)) : up2 (mw ad cs σ w0) 0 0 (.inr (6, (mfs ad σ).set f (.int x))) = mw ad cs (up2 σ f 0 x) w0 := by
  rw [hs]
  funext k i
  by_cases hk0 : k = 0 ∧ i = 0
  · rw [hk0.1, hk0.2, up2_self]
    rfl
  · rw [up2_ne _ _ hk0]
    unfold mw
    rw [if_neg hk0, if_neg hk0]
    by_cases hk1 : k = 1
    · rw [if_pos hk1, if_pos hk1]
      congr 4
      funext q
      unfold marr
      by_cases hq : q < mlen i
      · rw [if_pos hq, if_pos hq, up2_ne _ _ (fun h => by rw [h.1, hf] at hq; omega)]
      · rw [if_neg hq, if_neg hq]
    · rw [if_neg hk1, if_neg hk1]
theorem mset_0 (ad : Nat → Nat → Nat) (σ : SG) (x : Int32) : (mfs ad σ).set 0 (.int x) = mfs ad (up2 σ 0 0 x) := rfl
theorem mset_11 (ad : Nat → Nat → Nat) (σ : SG) (x : Int32) : (mfs ad σ).set 11 (.int x) = mfs ad (up2 σ 11 0 x) := rfl
theorem mset_32 (ad : Nat → Nat → Nat) (σ : SG) (x : Int32) : (mfs ad σ).set 32 (.int x) = mfs ad (up2 σ 32 0 x) := rfl
section MG
variable {p : Program} {l : Launch} {e : Env} {R : Room} {s : State} {m : MethodId} {args : Array Value} {below : List Frame} {meth : Method} {c : Code} {cells slots : Nat} {Q : State → Prop} {cc : ByteArray} {nL : Nat} {Ts : List Cond} {D : va_G} {A : Nat → Prop} {cs : Nat → ClassId} {ad : Nat → Nat → Nat} {dm : Nat → Nat → Prop} {σ : SG} {w0 : CF} {pc : Nat} {lv : List (Nat × Value)} {rest : List Value}
theorem mw_at (ad : Nat → Nat → Nat) (cs : Nat → ClassId) (σ : SG) (w0 : CF) (f : Nat) : mw ad cs σ w0 1 f = .inl (if mzb f then cs 1 else cs 0, mlen f, .inl (marr σ f)) := rfl
end MG

