def sgI : SG := fun f _ => if f = 1 then 1 else if f = 5 then (-1) else if f = 7 then 20 else if f = 8 ∨ f = 29 then 10 else 0
def cwZ (D : va_G) (ad : Nat → Nat → Nat) (cs : Nat → ClassId) (w : CF) : CF := cw D ad cs sgI (fun _ => []) (fun _ => 0) (fun _ => 0) (fun _ _ => 0) (fun _ => 0) (fun i => i) (fun _ => 0) (fun _ => 1) (fun _ => upd (fun _ => 0) 0 1) w
def dI (dm : Nat → Nat → Prop) (k r : Nat) (b2 b5 : Prop) : Nat → Nat → Prop := fun a b => dm a b ∨ (a = 11 ∧ b = 0) ∨ (a = 12 ∧ b = 0 ∧ b2) ∨ (a = 13 ∧ b < k) ∨ (a = 14 ∧ b < r) ∨ (a = 15 ∧ ((1 ≤ b ∧ b < 1 + k) ∨ (5 ≤ b ∧ b < 5 + r) ∨ (b = 0 ∧ b5))) ∨ (a = 21 ∧ b < k)
def WI (D : va_G) (ad : Nat → Nat → Nat) (cs : Nat → ClassId) (w : CF) (k r : Nat) (o : List Value) : CF := up2 (up2 (up2 (cwZ D ad cs w) 10 0 (.inr (5, o))) 11 0 (.inl (cs 3, 4, .inr (.inr (.inr (.inr (fun x9 => if x9 < k then some (ad 13 x9) else none))))))) 12 0 (.inl (cs 4, 6, .inr (.inr (.inr (.inr (fun x9 => if x9 < r then some (ad 14 x9) else none))))))
section INI
variable {D : va_G} {dm : Nat → Nat → Prop} {ad : Nat → Nat → Nat} {cs : Nat → ClassId} {w : CF}
theorem WI_10 {k r : Nat} {o : List Value} : WI D ad cs w k r o 10 0 = .inr (5, o) := by
  unfold WI
  rw [up2_k (by decide), up2_k (by decide), up2_self]
theorem WI_11 {k r : Nat} {o : List Value} : WI D ad cs w k r o 11 0 = (.inl (cs 3, 4, .inr (.inr (.inr (.inr (fun x9 => if x9 < k then some (ad 13 x9) else none)))))) := by
  unfold WI
  rw [up2_k (by decide), up2_self]
theorem WI_12 {k r : Nat} {o : List Value} : WI D ad cs w k r o 12 0 = (.inl (cs 4, 6, .inr (.inr (.inr (.inr (fun x9 => if x9 < r then some (ad 14 x9) else none)))))) := by
  unfold WI
  rw [up2_self]
theorem WI_o {k r : Nat} {o : List Value} {a : Nat} (h : a < 10 ∨ 13 ≤ a) (b : Nat) : WI D ad cs w k r o a b = cwZ D ad cs w a b := by
  unfold WI
  rw [up2_k (by omega), up2_k (by omega), up2_k (by omega)]
theorem cwZ_13 (i : Nat) : cwZ D ad cs w 13 i = .inr (1, [.ref (ad 21 i), .int 0, .int (-1), .int 0, .int 20, .int 10, .ref (ad 15 (1 + i))]) := rfl
theorem cwZ_14 (i : Nat) : cwZ D ad cs w 14 i = .inr (4, [.int 0, .int 10, .int 0, .int 0, .ref (ad 15 (5 + i))]) := rfl
theorem cwZ_15 (i : Nat) : cwZ D ad cs w 15 i = (.inr (0, [.int 0, .ref (D.2 100 0), .int 0])) := rfl
theorem cwZ_21 (i : Nat) : cwZ D ad cs w 21 i = (.inl (cs 0, 1, .inl (upd (fun _ => 0) 0 1))) := rfl
theorem cwZ_lo {a : Nat} (h : a < 10) (b : Nat) : cwZ D ad cs w a b = w a b := cw_lo h b
theorem dI_one {dm : Nat → Nat → Prop} {a b : Nat} (z : dI dm 0 0 False False a b) : dm a b ∨ (a = 11 ∧ b = 0) := by
  rcases z with z | z | z | z | z | z | z
  · exact .inl z
  · exact .inr z
  · exact absurd z.2.2 id
  · exact absurd z.2 (Nat.not_lt_zero _)
  · exact absurd z.2 (Nat.not_lt_zero _)
  · rcases z.2 with y | y | y
    · omega
    · omega
    · exact absurd y.2 id
  · exact absurd z.2 (Nat.not_lt_zero _)
theorem dI_acc {dm : Nat → Nat → Prop} {k a b : Nat} (z : dI dm (k + 1) 0 False False a b) : ((dI dm k 0 False False a b ∨ (a = 13 ∧ b = k)) ∨ (a = 21 ∧ b = k)) ∨ (a = 15 ∧ b = 1 + k) := by
  rcases z with z | z | z | z | z | z | z
  · exact .inl (.inl (.inl (.inl z)))
  · exact .inl (.inl (.inl (.inr (.inl z))))
  · exact absurd z.2.2 id
  · rcases Nat.lt_or_ge b k with y | y
    · exact .inl (.inl (.inl (.inr (.inr (.inr (.inl ⟨z.1, y⟩))))))
    · exact .inl (.inl (.inr ⟨z.1, by omega⟩))
  · exact absurd z.2 (Nat.not_lt_zero _)
  · by_cases y : b = 1 + k
    · exact .inr ⟨z.1, y⟩
    · refine .inl (.inl (.inl (.inr (.inr (.inr (.inr (.inr (.inl ⟨z.1, .inl ?_⟩))))))))
      rcases z.2 with x | x | x
      · omega
      · omega
      · exact absurd x.2 id
  · rcases Nat.lt_or_ge b k with y | y
    · exact .inl (.inl (.inl (.inr (.inr (.inr (.inr (.inr (.inr ⟨z.1, y⟩))))))))
    · exact .inl (.inr ⟨z.1, by omega⟩)
theorem dI_two {dm : Nat → Nat → Prop} {a b : Nat} (z : dI dm 4 0 True False a b) : dI dm 4 0 False False a b ∨ (a = 12 ∧ b = 0) := by
  rcases z with z | z | z | z
  · exact .inl (.inl z)
  · exact .inl (.inr (.inl z))
  · exact .inr ⟨z.1, z.2.1⟩
  · exact .inl (.inr (.inr (.inr z)))
theorem dI_rec {dm : Nat → Nat → Prop} {r a b : Nat} (z : dI dm 4 (r + 1) True False a b) : (dI dm 4 r True False a b ∨ (a = 14 ∧ b = r)) ∨ (a = 15 ∧ b = 5 + r) := by
  rcases z with z | z | z | z | z | z | z
  · exact .inl (.inl (.inl z))
  · exact .inl (.inl (.inr (.inl z)))
  · exact .inl (.inl (.inr (.inr (.inl z))))
  · exact .inl (.inl (.inr (.inr (.inr (.inl z)))))
  · rcases Nat.lt_or_ge b r with y | y
    · exact .inl (.inl (.inr (.inr (.inr (.inr (.inl ⟨z.1, y⟩))))))
    · exact .inl (.inr ⟨z.1, by omega⟩)
  · by_cases y : b = 5 + r
    · exact .inr ⟨z.1, y⟩
    · refine .inl (.inl (.inr (.inr (.inr (.inr (.inr (.inl ⟨z.1, ?_⟩)))))))
      rcases z.2 with x | x | x
      · exact .inl x
      · exact .inr (.inl (by omega))
      · exact absurd x.2 id
  · exact .inl (.inl (.inr (.inr (.inr (.inr (.inr (.inr z)))))))
theorem dI_end {dm : Nat → Nat → Prop} {a b : Nat} (z : dI dm 4 6 True True a b) : dI dm 4 6 True False a b ∨ (a = 15 ∧ b = 0) := by
  rcases z with z | z | z | z | z | z | z
  · exact .inl (.inl z)
  · exact .inl (.inr (.inl z))
  · exact .inl (.inr (.inr (.inl z)))
  · exact .inl (.inr (.inr (.inr (.inl z))))
  · exact .inl (.inr (.inr (.inr (.inr (.inl z)))))
  · rcases z.2 with y | y | y
    · exact .inl (.inr (.inr (.inr (.inr (.inr (.inl ⟨z.1, .inl y⟩))))))
    · exact .inl (.inr (.inr (.inr (.inr (.inr (.inl ⟨z.1, .inr (.inl y)⟩))))))
    · exact .inr ⟨z.1, y.1⟩
  · exact .inl (.inr (.inr (.inr (.inr (.inr (.inr z))))))
theorem dI_nd {dm : Nat → Nat → Prop} (hfr : ∀ a b, dm a b → a < 10 ∨ (a = 10 ∧ b = 0)) {k r : Nat} {b2 b5 : Prop} {a b : Nat} (h : (a = 13 ∧ k ≤ b) ∨ (a = 14 ∧ r ≤ b) ∨ (a = 21 ∧ k ≤ b) ∨ (a = 12 ∧ ¬ b2) ∨ (a = 15 ∧ ¬ (1 ≤ b ∧ b < 1 + k) ∧ ¬ (5 ≤ b ∧ b < 5 + r) ∧ (b = 0 → ¬ b5))) : ¬ dI dm k r b2 b5 a b := by
  intro z
  rcases z with z | z | z | z | z | z | z
  · rcases hfr a b z with y | y <;> omega
  · omega
  · rcases h with h | h | h | h | h
    · omega
    · omega
    · omega
    · exact h.2 z.2.2
    · omega
  · omega
  · omega
  · rcases h with h | h | h | h | h
    · omega
    · omega
    · omega
    · omega
    · rcases z.2 with y | y | y
      · exact h.2.1 y
      · exact h.2.2.1 y
      · exact h.2.2.2 y.1 y.2
  · omega
end INI

