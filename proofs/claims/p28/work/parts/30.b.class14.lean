section NW14
variable {p : Program} {l : Launch} {e : Env} {R : Room} {s : State} {m : MethodId} {args : Array Value} {below : List Frame} {meth : Method} {c : Code} {cells slots : Nat} {Q : State → Prop} {cc : ByteArray} {nL : Nat} {Ts : List Cond} {own : String} {D : va_G} {A : Nat → Prop} {tys : List (ClassId × FieldType)} {ad : Nat → Nat → Nat} {dm : Nat → Nat → Prop} {w : CF} {pc : Nat} {lv : List (Nat × Value)} {rest : List Value}
theorem q_callIN (F : FX p s m args c cc nL Ts own D A tys) {y : MethodName} {bytes : ByteArray} {maxL mc ms n index : Nat} {host : String} {ws : List Cond} {rm : Room} {post : Option Value → (Nat → Nat → Nat) → (Nat → Nat → Prop) → CF → Prop} {b : Nat} (As : List Value) {st : List Value} (hM : Met l y ws rm (va_Pc (.ref b :: As) (PW D A tys ad dm w)) (QW D A tys post) mc ms A) (cw : va_CN R s args own index y host bytes maxL none ws rm mc ms n ∧ y.name = "<init>" ∧ (Cond.instanceMethod y).before args s = true) (hn : As.length = n) (hst : st = As.reverse ++ .ref b :: rest) (hroom : (rest.map fun v => v.category).sum ≤ 8) (d : decode cc pc = .ok (.invokespecial index, 3)) (hf : cells + mc ≤ R.cells ∧ slots + ms ≤ R.slots)
    (kk : ∀ (v : Option Value) (ad1 : Nat → Nat → Nat) (dm1 : Nat → Nat → Prop) (w1 : CF), post v ad1 dm1 w1 → GG p l e R s m args below meth c D A ad1 dm1 nL (cells + mc) (slots + ms) Q w1 (pc + 3) lv (v.toList ++ rest)) : GG p l e R s m args below meth c D A ad dm nL cells slots Q w pc lv st := by
  intro H locs ls hw hS hl
  subst hst
  exact q_call (va_runIN (As := As) (rest := rest) F.1 hM cw ⟨fun a U g mk q => ⟨q.1, q.2.call a g mk⟩, fun U hU hW => ⟨rfl, F.PW hw hS hU hW⟩⟩ rfl hn hl.1 rfl (lv_room hroom) d hf) hS hl kk
end NW14
section INJ
variable {D : va_G} {dm : Nat → Nat → Prop} {ad : Nat → Nat → Nat} {cs : Nat → ClassId} {w : CF}
theorem WI_acc {k q q21 q15 : Nat} {o : List Value} (hfr : ∀ a b, dm a b → a < 10 ∨ (a = 10 ∧ b = 0)) (hk : k < 4) : ∀ a b, dI dm (k + 1) 0 False False a b → WI D (up2 (up2 (up2 ad 13 k q) 21 k q21) 15 (1 + k) q15) cs w (k + 1) 0 o a b = (up2 (up2 (up2 (up2 (up2 (WI D ad cs w k 0 o) 13 k (.inr (1, [.null, .int 0, .int 0, .int 0, .int 0, .int 0, .null]))) 21 k (.inl (cs 0, 1, .inl (upd (fun _ => 0) 0 1)))) 13 k (.inr (1, [.ref q21, .int 0, .int (-1), .int 0, .int 20, .int 10, .ref q15]))) 15 (1 + k) (.inr (0, [.int 0, .ref (D.2 100 0), .int 0]))) 11 0 (.inl (cs 3, 4, .inr (.inr (.inr (.inr (va_up (fun q => if q < k then some (ad 13 q) else none) k (some q)))))))) a b := by
  intro a b h
  rcases h with h | h | h | h | h | h | h
  · rcases hfr a b h with h1 | ⟨rfl, rfl⟩
    · rw [WI_o (.inl h1), cwZ_lo h1, up2_k (by omega), up2_k (by omega), up2_k (by omega), up2_k (by omega), up2_k (by omega), WI_o (.inl h1), cwZ_lo h1]
    · rw [WI_10, up2_k (by decide), up2_k (by decide), up2_k (by decide), up2_k (by decide), up2_k (by decide), WI_10]
  · obtain ⟨rfl, rfl⟩ := h
    rw [WI_11, up2_self]
    have e : (fun x => if x < k + 1 then some ((up2 (up2 (up2 ad 13 k q) 21 k q21) 15 (1 + k) q15) 13 x) else none) = va_up (fun x => if x < k then some (ad 13 x) else none) k (some q) := by
      funext x
      rw [up2_k (by decide), up2_k (by decide)]
      by_cases hx : x = k
      · rw [hx, va_up_self, if_pos (by omega), up2_self]
      · rw [va_up_ne _ _ hx, up2_ne _ _ (fun z => hx z.2)]
        by_cases hx2 : x < k
        · rw [if_pos (by omega), if_pos hx2]
        · rw [if_neg (by omega), if_neg hx2]
    rw [e]
  · exact absurd h.2.2 id
  · obtain ⟨rfl, hb⟩ := h
    rw [WI_o (.inr (show 13 ≤ 13 by decide)), cwZ_13, up2_k (show 13 ≠ 11 by decide), up2_k (show 13 ≠ 15 by decide)]
    by_cases e : b = k
    · rw [e, show (up2 (up2 (up2 ad 13 k q) 21 k q21) 15 (1 + k) q15) 21 k = q21 from by rw [up2_k (show 21 ≠ 15 by decide), up2_self], show (up2 (up2 (up2 ad 13 k q) 21 k q21) 15 (1 + k) q15) 15 (1 + k) = q15 from up2_self _ _ _ _, up2_self]
    · rw [show (up2 (up2 (up2 ad 13 k q) 21 k q21) 15 (1 + k) q15) 21 b = ad 21 b from by rw [up2_k (show 21 ≠ 15 by decide), up2_ne _ _ (fun z => e z.2), up2_k (show 21 ≠ 13 by decide)], show (up2 (up2 (up2 ad 13 k q) 21 k q21) 15 (1 + k) q15) 15 (1 + b) = ad 15 (1 + b) from by rw [up2_ne _ _ (fun z => e (by omega)), up2_k (show 15 ≠ 21 by decide), up2_k (show 15 ≠ 13 by decide)], up2_ne _ _ (fun z => e z.2), up2_k (show 13 ≠ 21 by decide), up2_ne _ _ (fun z => e z.2), WI_o (.inr (show 13 ≤ 13 by decide)), cwZ_13]
  · exact absurd h.2 (Nat.not_lt_zero _)
  · obtain ⟨rfl, hb⟩ := h
    rw [WI_o (.inr (by decide)), cwZ_15, up2_k (by decide)]
    by_cases e : b = 1 + k
    · rw [e, up2_self]
    · rw [up2_ne _ _ (fun z => e z.2), up2_k (by decide), up2_k (by decide), up2_k (by decide), WI_o (.inr (by decide)), cwZ_15]
  · obtain ⟨rfl, hb⟩ := h
    rw [WI_o (.inr (by decide)), cwZ_21, up2_k (by decide), up2_k (by decide), up2_k (by decide)]
    by_cases e : b = k
    · rw [e, up2_self]
    · rw [up2_ne _ _ (fun z => e z.2), up2_k (by decide), WI_o (.inr (by decide)), cwZ_21]
theorem WI_rec {r q q15 : Nat} {o : List Value} (hfr : ∀ a b, dm a b → a < 10 ∨ (a = 10 ∧ b = 0)) (hr : r < 6) : ∀ a b, dI dm 4 (r + 1) True False a b → WI D (up2 (up2 ad 14 r q) 15 (5 + r) q15) cs w 4 (r + 1) o a b = (up2 (up2 (up2 (up2 (WI D ad cs w 4 r o) 14 r (.inr (4, [.int 0, .int 0, .int 0, .int 0, .null]))) 14 r (.inr (4, [.int 0, .int 10, .int 0, .int 0, .ref q15]))) 15 (5 + r) (.inr (0, [.int 0, .ref (D.2 100 0), .int 0]))) 12 0 (.inl (cs 4, 6, .inr (.inr (.inr (.inr (va_up (fun q => if q < r then some (ad 14 q) else none) r (some q)))))))) a b := by
  intro a b h
  rcases h with h | h | h | h | h | h | h
  · rcases hfr a b h with h1 | ⟨rfl, rfl⟩
    · rw [WI_o (.inl h1), cwZ_lo h1, up2_k (by omega), up2_k (by omega), up2_k (by omega), up2_k (by omega), WI_o (.inl h1), cwZ_lo h1]
    · rw [WI_10, up2_k (by decide), up2_k (by decide), up2_k (by decide), up2_k (by decide), WI_10]
  · obtain ⟨rfl, rfl⟩ := h
    rw [WI_11, up2_k (by decide), up2_k (by decide), up2_k (by decide), up2_k (by decide), WI_11]
    have e : ∀ x, (up2 (up2 ad 14 r q) 15 (5 + r) q15) 13 x = ad 13 x := fun x => by rw [up2_k (by decide), up2_k (by decide)]
    simp only [e]
  · obtain ⟨rfl, rfl, _⟩ := h
    rw [WI_12, up2_self]
    have e : (fun x => if x < r + 1 then some ((up2 (up2 ad 14 r q) 15 (5 + r) q15) 14 x) else none) = va_up (fun x => if x < r then some (ad 14 x) else none) r (some q) := by
      funext x
      rw [up2_k (by decide)]
      by_cases hx : x = r
      · rw [hx, va_up_self, if_pos (by omega), up2_self]
      · rw [va_up_ne _ _ hx, up2_ne _ _ (fun z => hx z.2)]
        by_cases hx2 : x < r
        · rw [if_pos (by omega), if_pos hx2]
        · rw [if_neg (by omega), if_neg hx2]
    rw [e]
  · obtain ⟨rfl, hb⟩ := h
    rw [WI_o (.inr (show 13 ≤ 13 by decide)), cwZ_13, up2_k (show 13 ≠ 12 by decide), up2_k (show 13 ≠ 15 by decide), up2_k (show 13 ≠ 14 by decide), up2_k (show 13 ≠ 14 by decide), WI_o (.inr (show 13 ≤ 13 by decide)), cwZ_13, show (up2 (up2 ad 14 r q) 15 (5 + r) q15) 21 b = ad 21 b from by rw [up2_k (show 21 ≠ 15 by decide), up2_k (show 21 ≠ 14 by decide)], show (up2 (up2 ad 14 r q) 15 (5 + r) q15) 15 (1 + b) = ad 15 (1 + b) from by rw [up2_ne _ _ (show ¬ (15 = 15 ∧ 1 + b = 5 + r) from fun z => by omega), up2_k (show 15 ≠ 14 by decide)]]
  · obtain ⟨rfl, hb⟩ := h
    rw [WI_o (.inr (show 13 ≤ 14 by decide)), cwZ_14, up2_k (show 14 ≠ 12 by decide), up2_k (show 14 ≠ 15 by decide)]
    by_cases e : b = r
    · rw [e, show (up2 (up2 ad 14 r q) 15 (5 + r) q15) 15 (5 + r) = q15 from up2_self _ _ _ _, up2_self]
    · rw [show (up2 (up2 ad 14 r q) 15 (5 + r) q15) 15 (5 + b) = ad 15 (5 + b) from by rw [up2_ne _ _ (show ¬ (15 = 15 ∧ 5 + b = 5 + r) from fun z => e (by omega)), up2_k (show 15 ≠ 14 by decide)], up2_ne _ _ (fun z => e z.2), up2_ne _ _ (fun z => e z.2), WI_o (.inr (show 13 ≤ 14 by decide)), cwZ_14]
  · obtain ⟨rfl, hb⟩ := h
    rw [WI_o (.inr (by decide)), cwZ_15, up2_k (by decide)]
    by_cases e : b = 5 + r
    · rw [e, up2_self]
    · rw [up2_ne _ _ (fun z => e z.2), up2_k (by decide), up2_k (by decide), WI_o (.inr (by decide)), cwZ_15]
  · obtain ⟨rfl, hb⟩ := h
    rw [WI_o (.inr (by decide)), cwZ_21, up2_k (by decide), up2_k (by decide), up2_k (by decide), up2_k (by decide), WI_o (.inr (by decide)), cwZ_21]
theorem WI_one {q : Nat} {o : List Value} (hfr : ∀ a b, dm a b → a < 10 ∨ (a = 10 ∧ b = 0)) : ∀ a b, dI dm 0 0 False False a b → WI D (up2 ad 11 0 q) cs w 0 0 o a b = (up2 (up2 w 11 0 (.inl (cs 3, 4, .inr (.inr (.inr (.inr (fun _ => none))))))) 10 0 (.inr (5, o))) a b := by
  intro a b h
  rcases h with h | h | h | h | h | h | h
  · rcases hfr a b h with h1 | ⟨rfl, rfl⟩
    · rw [WI_o (.inl h1), cwZ_lo h1, up2_k (by omega), up2_k (by omega)]
    · rw [WI_10, up2_self]
  · obtain ⟨rfl, rfl⟩ := h
    rw [WI_11, up2_k (by decide), up2_self]
    have e : (fun x => if x < 0 then some (up2 ad 11 0 q 13 x) else none) = (fun _ => none) := funext (fun x => if_neg (Nat.not_lt_zero _))
    rw [e]
  · exact absurd h.2.2 id
  · exact absurd h.2 (Nat.not_lt_zero _)
  · exact absurd h.2 (Nat.not_lt_zero _)
  · rcases h.2 with z | z | z
    · omega
    · omega
    · exact absurd z.2 id
  · exact absurd h.2 (Nat.not_lt_zero _)
theorem WI_two {q : Nat} {o o2 : List Value} (hfr : ∀ a b, dm a b → a < 10 ∨ (a = 10 ∧ b = 0)) : ∀ a b, dI dm 4 0 True False a b → WI D (up2 ad 12 0 q) cs w 4 0 o2 a b = (up2 (up2 (WI D ad cs w 4 0 o) 12 0 (.inl (cs 4, 6, .inr (.inr (.inr (.inr (fun _ => none))))))) 10 0 (.inr (5, o2))) a b := by
  intro a b h
  rcases h with h | h | h | h | h | h | h
  · rcases hfr a b h with h1 | ⟨rfl, rfl⟩
    · rw [WI_o (.inl h1), cwZ_lo h1, up2_k (by omega), up2_k (by omega), WI_o (.inl h1), cwZ_lo h1]
    · rw [WI_10, up2_self]
  · obtain ⟨rfl, rfl⟩ := h
    rw [WI_11, up2_k (by decide), up2_k (by decide), WI_11]
    have e : ∀ x, up2 ad 12 0 q 13 x = ad 13 x := fun x => up2_k (by decide) x
    simp only [e]
  · obtain ⟨rfl, rfl, _⟩ := h
    rw [WI_12, up2_k (by decide), up2_self]
    have e : (fun x => if x < 0 then some (up2 ad 12 0 q 14 x) else none) = (fun _ => none) := funext (fun x => if_neg (Nat.not_lt_zero _))
    rw [e]
  · obtain ⟨rfl, hb⟩ := h
    rw [WI_o (.inr (show 13 ≤ 13 by decide)), cwZ_13, up2_k (show 13 ≠ 10 by decide), up2_k (show 13 ≠ 12 by decide), WI_o (.inr (show 13 ≤ 13 by decide)), cwZ_13, up2_k (show 21 ≠ 12 by decide), up2_k (show 15 ≠ 12 by decide)]
  · exact absurd h.2 (Nat.not_lt_zero _)
  · obtain ⟨rfl, hb⟩ := h
    rw [WI_o (.inr (by decide)), cwZ_15, up2_k (by decide), up2_k (by decide), WI_o (.inr (by decide)), cwZ_15]
  · obtain ⟨rfl, hb⟩ := h
    rw [WI_o (.inr (by decide)), cwZ_21, up2_k (by decide), up2_k (by decide), WI_o (.inr (by decide)), cwZ_21]
theorem WI_end {q r11 r12 : Nat} {o : List Value} (hfr : ∀ a b, dm a b → a < 10 ∨ (a = 10 ∧ b = 0)) (h11 : ad 11 0 = r11) (h12 : ad 12 0 = r12) : ∀ a b, dI dm 4 6 True True a b → cwZ D (up2 ad 15 0 q) cs w a b = (up2 (up2 (up2 (WI D ad cs w 4 6 o) 15 0 (.inr (0, [.int 0, .null, .int 0]))) 15 0 (.inr (0, [.int 0, .ref (D.2 100 0), .int 0]))) 10 0 (.inr (5, [.ref r11, .ref r12, .ref q, .int 0]))) a b := by
  intro a b h
  rcases h with h | h | h | h | h | h | h
  · rcases hfr a b h with h1 | ⟨rfl, rfl⟩
    · rw [cwZ_lo h1, up2_k (by omega), up2_k (by omega), up2_k (by omega), WI_o (.inl h1), cwZ_lo h1]
    · rw [up2_self]
      show va_E_id (.inr (5, [.ref (up2 ad 15 0 q 11 0), .ref (up2 ad 15 0 q 12 0), .ref (up2 ad 15 0 q 15 0), .int 0])) = _
      rw [up2_k (show 11 ≠ 15 by decide), up2_k (show 12 ≠ 15 by decide), up2_self, h11, h12]
  · obtain ⟨rfl, rfl⟩ := h
    rw [up2_k (by decide), up2_k (by decide), up2_k (by decide), WI_11]
    show va_E_id (.inl (cs 3, 4, .inr (.inr (.inr (.inr (fun x9 => if x9 < 4 then some ((up2 ad 15 0 q) 13 x9) else none)))))) = _
    have e : ∀ x, up2 ad 15 0 q 13 x = ad 13 x := fun x => up2_k (by decide) x
    simp only [e]
  · obtain ⟨rfl, rfl, _⟩ := h
    rw [up2_k (by decide), up2_k (by decide), up2_k (by decide), WI_12]
    show va_E_id (.inl (cs 4, 6, .inr (.inr (.inr (.inr (fun x9 => if x9 < 6 then some ((up2 ad 15 0 q) 14 x9) else none)))))) = _
    have e : ∀ x, up2 ad 15 0 q 14 x = ad 14 x := fun x => up2_k (by decide) x
    simp only [e]
  · obtain ⟨rfl, hb⟩ := h
    rw [up2_k (by decide), up2_k (by decide), up2_k (by decide), WI_o (.inr (by decide)), cwZ_13, cwZ_13, up2_k (by decide), up2_ne _ _ (fun z => by omega)]
  · obtain ⟨rfl, hb⟩ := h
    rw [up2_k (by decide), up2_k (by decide), up2_k (by decide), WI_o (.inr (by decide)), cwZ_14, cwZ_14, up2_ne _ _ (fun z => by omega)]
  · obtain ⟨rfl, hb⟩ := h
    rw [cwZ_15, up2_k (by decide)]
    by_cases e : b = 0
    · rw [e, up2_self]
    · rw [up2_ne _ _ (fun z => e z.2), up2_ne _ _ (fun z => e z.2), WI_o (.inr (by decide)), cwZ_15]
  · obtain ⟨rfl, hb⟩ := h
    rw [up2_k (by decide), up2_k (by decide), up2_k (by decide), WI_o (.inr (by decide)), cwZ_21, cwZ_21]
end INJ

