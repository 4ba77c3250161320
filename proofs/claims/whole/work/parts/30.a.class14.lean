def sgI : SG := fun f _ => if f = 1 then 1 else if f = 5 then (-1) else if f = 7 then 20 else if f = 8 ∨ f = 29 then 10 else 0
def cwZ (D : va_G) (ad : Nat → Nat → Nat) (cs : Nat → ClassId) (w : CF) : CF := cw D ad cs sgI (fun _ => []) (fun _ => 0) (fun _ => 0) (fun _ _ => 0) (fun _ => 0) (fun i => i) (fun _ => 0) (fun _ => 1) (fun _ => upd (fun _ => 0) 0 1) w
def dI (dm : Nat → Nat → Prop) (k r : Nat) (b2 b5 : Prop) : Nat → Nat → Prop := fun a b => dm a b ∨ (a = 11 ∧ b = 0) ∨ (a = 12 ∧ b = 0 ∧ b2) ∨ (a = 13 ∧ b < k) ∨ (a = 14 ∧ b < r) ∨ (a = 15 ∧ ((1 ≤ b ∧ b < 1 + k) ∨ (5 ≤ b ∧ b < 5 + r) ∨ (b = 0 ∧ b5))) ∨ (a = 21 ∧ b < k)
def WI (D : va_G) (ad : Nat → Nat → Nat) (cs : Nat → ClassId) (w : CF) (k r : Nat) (o : List Value) : CF := up2 (up2 (up2 (cwZ D ad cs w) 10 0 (.inr (5, o))) 11 0 (.inl (cs 3, 4, .inr (.inr (.inr (.inr (fun x9 => if x9 < k then some (ad 13 x9) else none))))))) 12 0 (.inl (cs 4, 6, .inr (.inr (.inr (.inr (fun x9 => if x9 < r then some (ad 14 x9) else none))))))
section INI
variable {D : va_G} {dm : Nat → Nat → Prop} {ad : Nat → Nat → Nat} {cs : Nat → ClassId} {w : CF}
theorem WI_10 {k r : Nat} {o : List Value} : WI D ad cs w k r o 10 0 = .inr (5, o) := by
  unfold WI
  rw [up2_k (by decide), up2_k (by decide), up2_self]
theorem WI_11 {k r : Nat} {o : List Value} : WI D ad cs w k r o 11 0 = (.inl (cs 3, 4, .inr (.inr (.inr (.inr (fun x9 => if x9 < k then some (ad 13 x9) else none)))))) := by
  unfold WI
  rw [up2_k (by decide), up2_self]
theorem WI_12 {k r : Nat} {o : List Value} : WI D ad cs w k r o 12 0 = (.inl (cs 4, 6, .inr (.inr (.inr (.inr (fun x9 => if x9 < r then some (ad 14 x9) else none)))))) := by
  unfold WI
  rw [up2_self]
theorem WI_o {k r : Nat} {o : List Value} {a : Nat} (h : a < 10 ∨ 13 ≤ a) (b : Nat) : WI D ad cs w k r o a b = cwZ D ad cs w a b := by
  unfold WI
  rw [up2_k (by omega), up2_k (by omega), up2_k (by omega)]
theorem cwZ_13 (i : Nat) : cwZ D ad cs w 13 i = .inr (1, [.ref (ad 21 i), .int 0, .int (-1), .int 0, .int 20, .int 10, .ref (ad 15 (1 + i))]) := rfl
theorem cwZ_14 (i : Nat) : cwZ D ad cs w 14 i = .inr (4, [.int 0, .int 10, .int 0, .int 0, .ref (ad 15 (5 + i))]) := rfl
theorem cwZ_15 (i : Nat) : cwZ D ad cs w 15 i = (.inr (0, [.int 0, .ref (D.2 100 0), .int 0])) := rfl
theorem cwZ_21 (i : Nat) : cwZ D ad cs w 21 i = (.inl (cs 0, 1, .inl (upd (fun _ => 0) 0 1))) := rfl
theorem cwZ_lo {a : Nat} (h : a < 10) (b : Nat) : cwZ D ad cs w a b = w a b := cw_lo h b
end INI
