theorem nwS_f {τ σ : SG} {a n : Nat} {v to rank ticks : Int32} {f : Nat} (hf : ¬ (f = 11 ∨ (12 ≤ f ∧ f ≤ 22) ∨ f = 26)) (i : Nat) : nwS τ σ a n v to rank ticks f i = τ f i := by
  unfold nwS
  rw [up2_ne _ _ (fun h => by omega), up2_ne _ _ (fun h => by omega), up2_ne _ _ (fun h => by omega), up2_ne _ _ (fun h => by omega), up2_ne _ _ (fun h => by omega), up2_ne _ _ (fun h => by omega), up2_ne _ _ (fun h => by omega), up2_ne _ _ (fun h => by omega), up2_ne _ _ (fun h => by omega), up2_ne _ _ (fun h => by omega), up2_ne _ _ (fun h => by omega), up2_ne _ _ (fun h => by omega), up2_ne _ _ (fun h => by omega)]
theorem nwS_o {τ σ : SG} {a n : Nat} {v to rank ticks : Int32} {f i : Nat} (hf : f ≠ 11) (hi : i ≠ n) : nwS τ σ a n v to rank ticks f i = τ f i := by
  unfold nwS
  rw [up2_ne _ _ (fun h => by omega), up2_ne _ _ (fun h => by omega), up2_ne _ _ (fun h => by omega), up2_ne _ _ (fun h => by omega), up2_ne _ _ (fun h => by omega), up2_ne _ _ (fun h => by omega), up2_ne _ _ (fun h => by omega), up2_ne _ _ (fun h => by omega), up2_ne _ _ (fun h => by omega), up2_ne _ _ (fun h => by omega), up2_ne _ _ (fun h => by omega), up2_ne _ _ (fun h => by omega), up2_ne _ _ (fun h => by omega)]
theorem nwS_n {τ σ : SG} {a n : Nat} {v to rank ticks : Int32} : nwS τ σ a n v to rank ticks 12 n = v ∧ nwS τ σ a n v to rank ticks 13 n = to ∧ nwS τ σ a n v to rank ticks 14 n = rank ∧ nwS τ σ a n v to rank ticks 15 n = ticks ∧ nwS τ σ a n v to rank ticks 16 n = σ 0 0 ∧ nwS τ σ a n v to rank ticks 26 n = σ 0 0 ∧ nwS τ σ a n v to rank ticks 17 n = σ 1 a ∧ nwS τ σ a n v to rank ticks 18 n = σ 2 a ∧ nwS τ σ a n v to rank ticks 19 n = σ 3 a ∧ nwS τ σ a n v to rank ticks 20 n = σ 4 a ∧ nwS τ σ a n v to rank ticks 21 n = σ 5 a ∧ nwS τ σ a n v to rank ticks 22 n = σ 6 a ∧ nwS τ σ a n v to rank ticks 11 0 = nI n + 1 := by
  unfold nwS
  refine ⟨?_, ?_, ?_, ?_, ?_, ?_, ?_, ?_, ?_, ?_, ?_, ?_, up2_self _ _ _ _⟩ <;> simp [up2]
/-- the cells where nothing depends on the new message -/
theorem CD.msg {dm : Nat → Nat → Prop} {n : Nat} {cap : Nat → Nat} {tq : Nat} (h : CD dm n cap tq) : CD (fun a b => (fun a b => (fun a b => (fun a b => dm a b ∨ (a = 17 ∧ b = n)) a b ∨ (a = 18 ∧ b = n)) a b ∨ (a = 19 ∧ b = n)) a b ∨ (a = 20 ∧ b = n)) (n + 1) cap tq := by
  obtain ⟨h0, h1, h2, h3, h4, h5, h6, h7, h8⟩ := h
  have up : ∀ {a b}, dm a b → (fun a b => (fun a b => (fun a b => (fun a b => dm a b ∨ (a = 17 ∧ b = n)) a b ∨ (a = 18 ∧ b = n)) a b ∨ (a = 19 ∧ b = n)) a b ∨ (a = 20 ∧ b = n)) a b := fun q => .inl (.inl (.inl (.inl q)))
  exact ⟨up h0, up h1, up h2, fun i q => up (h3 i q), fun i q => up (h4 i q), fun i q => up (h5 i q), fun i q z => up (h6 i q z), fun j q => by
    rcases Nat.lt_or_ge j n with z | z
    · exact ⟨up (h7 j z).1, up (h7 j z).2.1, up (h7 j z).2.2.1, up (h7 j z).2.2.2⟩
    · have e : j = n := by omega
      subst e
      exact ⟨.inl (.inl (.inl (.inr ⟨rfl, rfl⟩))), .inl (.inl (.inr ⟨rfl, rfl⟩)), .inl (.inr ⟨rfl, rfl⟩), .inr ⟨rfl, rfl⟩⟩, fun t q => up (h8 t q)⟩
theorem UB.msg {dm : Nat → Nat → Prop} {n tq : Nat} (h : UB dm n tq) : UB (fun a b => (fun a b => (fun a b => (fun a b => dm a b ∨ (a = 17 ∧ b = n)) a b ∨ (a = 18 ∧ b = n)) a b ∨ (a = 19 ∧ b = n)) a b ∨ (a = 20 ∧ b = n)) (n + 1) tq := by
  intro k i q
  rcases q with (((q | q) | q) | q) | q
  · exact (h k i q).imp id (dmC.mono (Nat.le_succ _) (Nat.le_refl _))
  · exact .inr (.inr (.inr (.inr (.inr (.inr (.inr (.inr (.inl ⟨q.1, by rw [q.2]; exact Nat.lt_succ_self _⟩))))))))
  · exact .inr (.inr (.inr (.inr (.inr (.inr (.inr (.inr (.inr (.inl ⟨q.1, by rw [q.2]; exact Nat.lt_succ_self _⟩)))))))))
  · exact .inr (.inr (.inr (.inr (.inr (.inr (.inr (.inr (.inr (.inr (.inl ⟨q.1, by rw [q.2]; exact Nat.lt_succ_self _⟩))))))))))
  · exact .inr (.inr (.inr (.inr (.inr (.inr (.inr (.inr (.inr (.inr (.inr (.inl ⟨q.1, by rw [q.2]; exact Nat.lt_succ_self _⟩)))))))))))
set_option maxHeartbeats 4000000 in
set_option maxRecDepth 100000 in
theorem sb_w1 {D : va_G} {dm : Nat → Nat → Prop} {ad : Nat → Nat → Nat} {cs : Nat → ClassId} {σ : SG} {Lx : Nat → List Nat} {cap : Nat → Nat} {mk : Nat → Int32} {ev : SG} {zl tx mt tn : Nat → Nat} {tc : SG} {w0 : CF} {n tq a b q17 q18 q19 q20 : Nat} {v to rank ticks : Int32} (hub : UB dm n tq) (hLo : ∀ i, i < 11 → ∀ j ∈ Lx i, j < n) (hva : ix v = a) (htb : ix to = b) (hz3 : σ 23 n = 0 ∧ σ 24 n = 0 ∧ σ 25 n = 0) (hz27 : ∀ x, x < 3 → σ 27 ((3 * n) + (2 - x)) = 0) : ∀ k i, i = n ∧ 17 ≤ k ∧ k ≤ 20 → (cw D (up2 (up2 (up2 (up2 ad 17 n q17) 18 n q18) 19 n q19) 20 n q20) cs (nwS σ σ a n v to rank ticks) Lx cap mk (va_up ev n (fun _ => 0)) (va_up zl n 1) tx (va_up mt n (tx a)) tn tc w0) k i = (up2 (up2 (up2 (up2 (up2 (cw D ad cs σ Lx cap mk ev zl tx mt tn tc w0) 17 n (.inr (3, [.int 0, .null, .null, .null, .int 0, .int 0, .int 0, .int 0, .int 0, .int 0, .null, .null, .int 0, .int 0, .int 0, .int 0]))) 17 n (.inr (3, [.int (nI n), .ref ((up2 ad 17 n q17) 13 a), .ref ((up2 ad 17 n q17) 14 b), .ref (ad 21 (tx a)), .int (σ 4 a), .int (σ 5 a), .int (σ 6 a), .int rank, .int ticks, .int (σ 0 0), .ref q19, .ref q18, .int 0, .int (σ 0 0), .int 0, .int 0]))) 18 n (.inl (cs 0, 3, .inl (fun _ => 0)))) 19 n (.inr (2, [.ref q20, .int 1]))) 20 n (.inl (cs 0, ix ticks + 1, .inl (fun _ => 0)))) k i := by
  intro k i hin
  have e17 : ∀ x, x ≠ n → (up2 (up2 (up2 (up2 ad 17 n q17) 18 n q18) 19 n q19) 20 n q20) 17 x = ad 17 x := fun x hx => by rw [up2_k (by decide), up2_k (by decide), up2_k (by decide), up2_ne _ _ (fun y => hx y.2)]
  have e18 : ∀ x, x ≠ n → (up2 (up2 (up2 (up2 ad 17 n q17) 18 n q18) 19 n q19) 20 n q20) 18 x = ad 18 x := fun x hx => by rw [up2_k (by decide), up2_k (by decide), up2_ne _ _ (fun y => hx y.2), up2_k (by decide)]
  have e19 : ∀ x, x ≠ n → (up2 (up2 (up2 (up2 ad 17 n q17) 18 n q18) 19 n q19) 20 n q20) 19 x = ad 19 x := fun x hx => by rw [up2_k (by decide), up2_ne _ _ (fun y => hx y.2), up2_k (by decide), up2_k (by decide)]
  have e20 : ∀ x, x ≠ n → (up2 (up2 (up2 (up2 ad 17 n q17) 18 n q18) 19 n q19) 20 n q20) 20 x = ad 20 x := fun x hx => by rw [up2_ne _ _ (fun y => hx y.2), up2_k (by decide), up2_k (by decide), up2_k (by decide)]
  have eo : ∀ y x, y < 17 ∨ y = 21 → (up2 (up2 (up2 (up2 ad 17 n q17) 18 n q18) 19 n q19) 20 n q20) y x = ad y x := fun y x hx => by rw [up2_k (by omega), up2_k (by omega), up2_k (by omega), up2_k (by omega)]
  have en : ∀ j, j ≠ n → elen (nwS σ σ a n v to rank ticks) j = elen σ j := fun j hj => by unfold elen; rw [nwS_o (by decide) hj]
  obtain ⟨rfl, h1, h2⟩ := hin
  have hk : k = 17 ∨ k = 18 ∨ k = 19 ∨ k = 20 := by omega
  rcases hk with rfl | rfl | rfl | rfl
  · rw [up2_k (by decide), up2_k (by decide), up2_k (by decide), up2_self]
    show va_E_id (.inr (3, cM (up2 (up2 (up2 (up2 ad 17 i q17) 18 i q18) 19 i q19) 20 i q20) (nwS σ σ a i v to rank ticks) (va_up mt i (tx a)) i)) = _
    obtain ⟨n12, n13, n14, n15, n16, n26, n17, n18, n19, n20, n21, n22, n11⟩ := @nwS_n σ σ a i v to rank ticks
    unfold cM
    rw [n12, n13, n14, n15, n16, n20, n21, n22, n26, nwS_f (by decide), nwS_f (by decide), nwS_f (by decide), hz3.1, hz3.2.1, hz3.2.2, va_up_self, hva, htb, eo 13 _ (by decide), eo 14 _ (by decide), eo 21 _ (by decide), up2_k (show 13 ≠ 17 by decide), up2_k (show 14 ≠ 17 by decide), up2_k (show 19 ≠ 20 by decide), up2_self, up2_k (show 18 ≠ 20 by decide), up2_k (show 18 ≠ 19 by decide), up2_self]
  · rw [up2_k (by decide), up2_k (by decide), up2_self]
    show va_E_id (.inl (cs 0, 3, .inl (cF (nwS σ σ a i v to rank ticks) i))) = _
    have e : cF (nwS σ σ a i v to rank ticks) i = fun _ => 0 := by
      funext x
      unfold cF
      split
      · next hx => rw [nwS_f (by decide), hz27 x hx]
      · rfl
    rw [e]
  · rw [up2_k (by decide), up2_self]
    show va_E_id (.inr (2, [.ref ((up2 (up2 (up2 (up2 ad 17 i q17) 18 i q18) 19 i q19) 20 i q20) 20 i), .int (nI (va_up zl i 1 i))])) = _
    rw [up2_self, va_up_self]
    rfl
  · rw [up2_self]
    show va_E_id (.inl (cs 0, elen (nwS σ σ a i v to rank ticks) i, .inl (cV (nwS σ σ a i v to rank ticks) (va_up ev i (fun _ => 0)) i))) = _
    have e : cV (nwS σ σ a i v to rank ticks) (va_up ev i (fun _ => 0)) i = fun _ => 0 := by
      funext x
      unfold cV
      split
      · rw [va_up_self]
      · rfl
    have e2 : elen (nwS σ σ a i v to rank ticks) i = ix ticks + 1 := by
      unfold elen
      rw [(@nwS_n σ σ a i v to rank ticks).2.2.2.1]
    rw [e, e2]
set_option maxHeartbeats 4000000 in
set_option maxRecDepth 100000 in
theorem sb_w2 {D : va_G} {dm : Nat → Nat → Prop} {ad : Nat → Nat → Nat} {cs : Nat → ClassId} {σ : SG} {Lx : Nat → List Nat} {cap : Nat → Nat} {mk : Nat → Int32} {ev : SG} {zl tx mt tn : Nat → Nat} {tc : SG} {w0 : CF} {n tq a b q17 q18 q19 q20 : Nat} {v to rank ticks : Int32} (hub : UB dm n tq) (hLo : ∀ i, i < 11 → ∀ j ∈ Lx i, j < n) (hva : ix v = a) (htb : ix to = b) (hz3 : σ 23 n = 0 ∧ σ 24 n = 0 ∧ σ 25 n = 0) (hz27 : ∀ x, x < 3 → σ 27 ((3 * n) + (2 - x)) = 0) : ∀ k i, ¬ (i = n ∧ 17 ≤ k ∧ k ≤ 20) → (fun a b => (fun a b => (fun a b => (fun a b => dm a b ∨ (a = 17 ∧ b = n)) a b ∨ (a = 18 ∧ b = n)) a b ∨ (a = 19 ∧ b = n)) a b ∨ (a = 20 ∧ b = n)) k i → (cw D (up2 (up2 (up2 (up2 ad 17 n q17) 18 n q18) 19 n q19) 20 n q20) cs (nwS σ σ a n v to rank ticks) Lx cap mk (va_up ev n (fun _ => 0)) (va_up zl n 1) tx (va_up mt n (tx a)) tn tc w0) k i = (up2 (up2 (up2 (up2 (up2 (cw D ad cs σ Lx cap mk ev zl tx mt tn tc w0) 17 n (.inr (3, [.int 0, .null, .null, .null, .int 0, .int 0, .int 0, .int 0, .int 0, .int 0, .null, .null, .int 0, .int 0, .int 0, .int 0]))) 17 n (.inr (3, [.int (nI n), .ref ((up2 ad 17 n q17) 13 a), .ref ((up2 ad 17 n q17) 14 b), .ref (ad 21 (tx a)), .int (σ 4 a), .int (σ 5 a), .int (σ 6 a), .int rank, .int ticks, .int (σ 0 0), .ref q19, .ref q18, .int 0, .int (σ 0 0), .int 0, .int 0]))) 18 n (.inl (cs 0, 3, .inl (fun _ => 0)))) 19 n (.inr (2, [.ref q20, .int 1]))) 20 n (.inl (cs 0, ix ticks + 1, .inl (fun _ => 0)))) k i := by
  intro k i hin h
  have e17 : ∀ x, x ≠ n → (up2 (up2 (up2 (up2 ad 17 n q17) 18 n q18) 19 n q19) 20 n q20) 17 x = ad 17 x := fun x hx => by rw [up2_k (by decide), up2_k (by decide), up2_k (by decide), up2_ne _ _ (fun y => hx y.2)]
  have e18 : ∀ x, x ≠ n → (up2 (up2 (up2 (up2 ad 17 n q17) 18 n q18) 19 n q19) 20 n q20) 18 x = ad 18 x := fun x hx => by rw [up2_k (by decide), up2_k (by decide), up2_ne _ _ (fun y => hx y.2), up2_k (by decide)]
  have e19 : ∀ x, x ≠ n → (up2 (up2 (up2 (up2 ad 17 n q17) 18 n q18) 19 n q19) 20 n q20) 19 x = ad 19 x := fun x hx => by rw [up2_k (by decide), up2_ne _ _ (fun y => hx y.2), up2_k (by decide), up2_k (by decide)]
  have e20 : ∀ x, x ≠ n → (up2 (up2 (up2 (up2 ad 17 n q17) 18 n q18) 19 n q19) 20 n q20) 20 x = ad 20 x := fun x hx => by rw [up2_ne _ _ (fun y => hx y.2), up2_k (by decide), up2_k (by decide), up2_k (by decide)]
  have eo : ∀ y x, y < 17 ∨ y = 21 → (up2 (up2 (up2 (up2 ad 17 n q17) 18 n q18) 19 n q19) 20 n q20) y x = ad y x := fun y x hx => by rw [up2_k (by omega), up2_k (by omega), up2_k (by omega), up2_k (by omega)]
  have en : ∀ j, j ≠ n → elen (nwS σ σ a n v to rank ticks) j = elen σ j := fun j hj => by unfold elen; rw [nwS_o (by decide) hj]
  have hd : dm k i := by
    rcases h with (((h | h) | h) | h) | h
    · exact h
    · exact absurd ⟨h.2, by omega, by omega⟩ hin
    · exact absurd ⟨h.2, by omega, by omega⟩ hin
    · exact absurd ⟨h.2, by omega, by omega⟩ hin
    · exact absurd ⟨h.2, by omega, by omega⟩ hin
  have nu : (up2 (up2 (up2 (up2 (up2 (cw D ad cs σ Lx cap mk ev zl tx mt tn tc w0) 17 n (.inr (3, [.int 0, .null, .null, .null, .int 0, .int 0, .int 0, .int 0, .int 0, .int 0, .null, .null, .int 0, .int 0, .int 0, .int 0]))) 17 n (.inr (3, [.int (nI n), .ref ((up2 ad 17 n q17) 13 a), .ref ((up2 ad 17 n q17) 14 b), .ref (ad 21 (tx a)), .int (σ 4 a), .int (σ 5 a), .int (σ 6 a), .int rank, .int ticks, .int (σ 0 0), .ref q19, .ref q18, .int 0, .int (σ 0 0), .int 0, .int 0]))) 18 n (.inl (cs 0, 3, .inl (fun _ => 0)))) 19 n (.inr (2, [.ref q20, .int 1]))) 20 n (.inl (cs 0, ix ticks + 1, .inl (fun _ => 0)))) k i = (cw D ad cs σ Lx cap mk ev zl tx mt tn tc w0) k i := by rw [up2_ne _ _ (fun y => hin ⟨y.2, by omega, by omega⟩), up2_ne _ _ (fun y => hin ⟨y.2, by omega, by omega⟩), up2_ne _ _ (fun y => hin ⟨y.2, by omega, by omega⟩), up2_ne _ _ (fun y => hin ⟨y.2, by omega, by omega⟩), up2_ne _ _ (fun y => hin ⟨y.2, by omega, by omega⟩)]
  rw [nu]
  rcases hub k i hd with h9 | h9
  · rw [cw_lo h9, cw_lo h9]
  · rcases h9 with ⟨rfl, rfl⟩ | ⟨rfl, rfl⟩ | ⟨rfl, rfl⟩ | ⟨rfl, hi⟩ | ⟨rfl, hi⟩ | ⟨rfl, hi⟩ | ⟨rfl, hi⟩ | ⟨rfl, hi⟩ | ⟨rfl, hi⟩ | ⟨rfl, hi⟩ | ⟨rfl, hi⟩ | ⟨rfl, hi⟩
    · show va_E_id (.inr (5, cO (up2 (up2 (up2 (up2 ad 17 n q17) 18 n q18) 19 n q19) 20 n q20) (nwS σ σ a n v to rank ticks))) = .inr (5, cO ad σ)
      unfold cO
      rw [eo 11 _ (by decide), eo 12 _ (by decide), eo 15 _ (by decide), nwS_f (by decide)]
    · show va_E_id (.inl (cs 3, 4, .inr (.inr (.inr (.inr (fun x => if x < 4 then some ((up2 (up2 (up2 (up2 ad 17 n q17) 18 n q18) 19 n q19) 20 n q20) 13 x) else none)))))) = .inl (cs 3, 4, .inr (.inr (.inr (.inr (fun x => if x < 4 then some (ad 13 x) else none)))))
      simp only [eo 13 _ (by decide)]
    · show va_E_id (.inl (cs 4, 6, .inr (.inr (.inr (.inr (fun x => if x < 6 then some ((up2 (up2 (up2 (up2 ad 17 n q17) 18 n q18) 19 n q19) 20 n q20) 14 x) else none)))))) = .inl (cs 4, 6, .inr (.inr (.inr (.inr (fun x => if x < 6 then some (ad 14 x) else none)))))
      simp only [eo 14 _ (by decide)]
    · show va_E_id (.inr (1, cA (up2 (up2 (up2 (up2 ad 17 n q17) 18 n q18) 19 n q19) 20 n q20) (nwS σ σ a n v to rank ticks) tx i)) = .inr (1, cA ad σ tx i)
      unfold cA
      rw [eo 21 _ (by decide), eo 15 _ (by decide), nwS_f (by decide), nwS_f (by decide), nwS_f (by decide), nwS_f (by decide), nwS_f (by decide)]
    · show va_E_id (.inr (4, cR (up2 (up2 (up2 (up2 ad 17 n q17) 18 n q18) 19 n q19) 20 n q20) (nwS σ σ a n v to rank ticks) i)) = .inr (4, cR ad σ i)
      unfold cR
      rw [eo 15 _ (by decide), nwS_f (by decide), nwS_f (by decide), nwS_f (by decide), nwS_f (by decide)]
    · show va_E_id (.inr (0, cL D (up2 (up2 (up2 (up2 ad 17 n q17) 18 n q18) 19 n q19) 20 n q20) Lx cap mk i)) = .inr (0, cL D ad Lx cap mk i)
      unfold cL cE
      rw [eo 16 _ (by decide)]
    · show va_E_id (.inl (cs 5, cap i, .inr (.inr (.inr (.inr (cX (up2 (up2 (up2 (up2 ad 17 n q17) 18 n q18) 19 n q19) 20 n q20) (Lx i))))))) = .inl (cs 5, cap i, .inr (.inr (.inr (.inr (cX ad (Lx i))))))
      have e : cX (up2 (up2 (up2 (up2 ad 17 n q17) 18 n q18) 19 n q19) 20 n q20) (Lx i) = cX ad (Lx i) := by
        funext x
        unfold cX
        rcases hx : (Lx i)[x]? with _ | j
        · rfl
        · exact congrArg some (e17 j (Nat.ne_of_lt (hLo i hi j (List.mem_of_getElem? hx))))
      rw [e]
    · have hne : i ≠ n := Nat.ne_of_lt hi
      show va_E_id (.inr (3, cM (up2 (up2 (up2 (up2 ad 17 n q17) 18 n q18) 19 n q19) 20 n q20) (nwS σ σ a n v to rank ticks) (va_up mt n (tx a)) i)) = .inr (3, cM ad σ mt i)
      unfold cM
      rw [nwS_o (by decide) hne, nwS_o (by decide) hne, nwS_o (by decide) hne, nwS_o (by decide) hne, nwS_o (by decide) hne, nwS_o (by decide) hne, nwS_o (by decide) hne, nwS_o (by decide) hne, nwS_o (by decide) hne, nwS_o (by decide) hne, nwS_o (by decide) hne, nwS_o (by decide) hne, va_up_ne _ _ hne, eo 13 _ (by decide), eo 14 _ (by decide), eo 21 _ (by decide), e18 _ hne, e19 _ hne]
    · show va_E_id (.inl (cs 0, 3, .inl (cF (nwS σ σ a n v to rank ticks) i))) = .inl (cs 0, 3, .inl (cF σ i))
      have e : cF (nwS σ σ a n v to rank ticks) i = cF σ i := by
        funext x
        unfold cF
        rw [nwS_f (by decide)]
      rw [e]
    · have hne : i ≠ n := Nat.ne_of_lt hi
      show va_E_id (.inr (2, [.ref ((up2 (up2 (up2 (up2 ad 17 n q17) 18 n q18) 19 n q19) 20 n q20) 20 i), .int (nI (va_up zl n 1 i))])) = .inr (2, [.ref (ad 20 i), .int (nI (zl i))])
      rw [e20 _ hne, va_up_ne _ _ hne]
    · have hne : i ≠ n := Nat.ne_of_lt hi
      show va_E_id (.inl (cs 0, elen (nwS σ σ a n v to rank ticks) i, .inl (cV (nwS σ σ a n v to rank ticks) (va_up ev n (fun _ => 0)) i))) = .inl (cs 0, elen σ i, .inl (cV σ ev i))
      have e : cV (nwS σ σ a n v to rank ticks) (va_up ev n (fun _ => 0)) i = cV σ ev i := by
        funext x
        unfold cV
        rw [en i hne, va_up_ne _ _ hne]
      rw [e, en i hne]
    · exact (show va_E_id (.inl (cs 0, tn i, .inl (tc i))) = .inl (cs 0, tn i, .inl (tc i)) from rfl)
set_option maxHeartbeats 4000000 in
set_option maxRecDepth 100000 in
theorem sb_w {D : va_G} {dm : Nat → Nat → Prop} {ad : Nat → Nat → Nat} {cs : Nat → ClassId} {σ : SG} {Lx : Nat → List Nat} {cap : Nat → Nat} {mk : Nat → Int32} {ev : SG} {zl tx mt tn : Nat → Nat} {tc : SG} {w0 : CF} {n tq a b q17 q18 q19 q20 : Nat} {v to rank ticks : Int32} (hub : UB dm n tq) (hLo : ∀ i, i < 11 → ∀ j ∈ Lx i, j < n) (hva : ix v = a) (htb : ix to = b) (hz3 : σ 23 n = 0 ∧ σ 24 n = 0 ∧ σ 25 n = 0) (hz27 : ∀ x, x < 3 → σ 27 ((3 * n) + (2 - x)) = 0) : ∀ k i, (fun a b => (fun a b => (fun a b => (fun a b => dm a b ∨ (a = 17 ∧ b = n)) a b ∨ (a = 18 ∧ b = n)) a b ∨ (a = 19 ∧ b = n)) a b ∨ (a = 20 ∧ b = n)) k i → (cw D (up2 (up2 (up2 (up2 ad 17 n q17) 18 n q18) 19 n q19) 20 n q20) cs (nwS σ σ a n v to rank ticks) Lx cap mk (va_up ev n (fun _ => 0)) (va_up zl n 1) tx (va_up mt n (tx a)) tn tc w0) k i = (up2 (up2 (up2 (up2 (up2 (cw D ad cs σ Lx cap mk ev zl tx mt tn tc w0) 17 n (.inr (3, [.int 0, .null, .null, .null, .int 0, .int 0, .int 0, .int 0, .int 0, .int 0, .null, .null, .int 0, .int 0, .int 0, .int 0]))) 17 n (.inr (3, [.int (nI n), .ref ((up2 ad 17 n q17) 13 a), .ref ((up2 ad 17 n q17) 14 b), .ref (ad 21 (tx a)), .int (σ 4 a), .int (σ 5 a), .int (σ 6 a), .int rank, .int ticks, .int (σ 0 0), .ref q19, .ref q18, .int 0, .int (σ 0 0), .int 0, .int 0]))) 18 n (.inl (cs 0, 3, .inl (fun _ => 0)))) 19 n (.inr (2, [.ref q20, .int 1]))) 20 n (.inl (cs 0, ix ticks + 1, .inl (fun _ => 0)))) k i := by
  intro k i h
  by_cases hin : i = n ∧ 17 ≤ k ∧ k ≤ 20
  · exact sb_w1 hub hLo hva htb hz3 hz27 k i hin
  · exact sb_w2 hub hLo hva htb hz3 hz27 k i hin h
theorem addE {D : va_G} {cs : Nat → ClassId} {n tq : Nat} {ad : Nat → Nat → Nat} {dm : Nat → Nat → Prop} {σ : SG} {Lx : Nat → List Nat} {cap : Nat → Nat} {mk : Nat → Int32} {ev : SG} {zl tx mt tn : Nat → Nat} {tc : SG} {w0 : CF} {i j : Nat} {rz : Option Value} {ad1 : Nat → Nat → Nat} {dm1 : Nat → Nat → Prop} {w1 : CF} (hC : CD dm n cap tq) (hlo : LO n Lx cap) (hi : i < 11) (hj : j < n) (h : ∃ q c2, rz = some (.int 1) ∧ ad1 = up2 ad 16 i q ∧ dm1 = (fun a b => dm a b ∨ (a = 16 ∧ b = i)) ∧ (Lx i).length + 1 ≤ c2 ∧ c2 ≤ 60 ∧ w1 = cw D (up2 ad 16 i q) cs σ (va_up Lx i (Lx i ++ [j])) (va_up cap i c2) (va_up mk i ((mk i) + 1)) ev zl tx mt tn tc w0) : rz = some (.int 1) ∧ EXP D cs n tq ad dm σ (va_up Lx i (Lx i ++ [j])) ev zl tx mt tn tc w0 ad1 dm1 w1 := by
  obtain ⟨q, c2, h1, rfl, rfl, h2, h3, rfl⟩ := h
  exact ⟨h1, EXP.add hC hlo hi hj h2 h3⟩
def sbL (Lx : Nat → List Nat) (b j : Nat) : Nat → List Nat := va_up (va_up Lx 0 (Lx 0 ++ [j])) (5 + b) (va_up Lx 0 (Lx 0 ++ [j]) (5 + b) ++ [j])
theorem sbL_0 (Lx : Nat → List Nat) (b j : Nat) (h : Lx 0 = List.range j) : sbL Lx b j 0 = List.range (j + 1) := by
  unfold sbL
  rw [va_up_ne _ _ (by omega), va_up_self, h, List.range_succ]
set_option maxHeartbeats 4000000 in
set_option maxRecDepth 100000 in
theorem sb_tail {p : Program} {e : Env} {s : State} {m : MethodId} {args : Array Value} {below : List Frame} {meth : Method} {c : Code} {cells slots mc ms : Nat} {XC : String → State → State → Prop} {post : Option Value → (Nat → Nat → Nat) → (Nat → Nat → Prop) → CF → Prop} (l : Launch) (D : va_G) (A : Nat → Prop) (cs : Nat → ClassId) (ad : Nat → Nat → Nat) (dm : Nat → Nat → Prop) (σ : SG) (Lx : Nat → List Nat) (cap : Nat → Nat) (mk : Nat → Int32) (ev : SG) (zl tx mt tn : Nat → Nat) (tc : SG) (w0 : CF) (n tq : Nat) (hC : CD dm n cap tq) (j0 aa bb : Nat) (y to pr u : Int32) (F : FX p s m args c cX5_submit 9 wsX5_submit RX5 D A (tysG cs)) (hr : meth.sig.returnType = some .int) (hlocks : meth.locks = false) (hn40 : n ≤ 40) (hj0 : j0 < n) (hL2 : sbL Lx bb j0 0 = List.range n) (hl0 : (Lx 0).length ≤ 39) (hq39 : ∀ r, r < 6 → (Lx (5 + r)).length ≤ 39) (hlo : LO n Lx cap) (hn22 : ¬ dm 22 0) (hrg : ∀ j, j < n → ix (σ 12 j) < 4 ∧ ix (σ 13 j) < 6) (haa : aa < 4) (hbb : bb < 6) (hw : ∀ k, k < j0 → WOK n tq mt tn (dqT j0 (σ, sbL Lx bb j0, ev, zl) k).1) (hmc : cells + 2 + (dqA j0 (σ, (va_up (va_up Lx 0 (Lx 0 ++ [j0])) (5 + bb) ((va_up Lx 0 (Lx 0 ++ [j0])) (5 + bb) ++ [j0])), ev, zl)).2 ≤ mc) (hms : slots + 120 + 60 * (dqA j0 (σ, (va_up (va_up Lx 0 (Lx 0 ++ [j0])) (5 + bb) ((va_up Lx 0 (Lx 0 ++ [j0])) (5 + bb) ++ [j0])), ev, zl)).2 ≤ ms) (hpost : ∀ ad1 dm1 w1, EXP D cs n tq ad dm (dqA j0 (σ, (va_up (va_up Lx 0 (Lx 0 ++ [j0])) (5 + bb) ((va_up Lx 0 (Lx 0 ++ [j0])) (5 + bb) ++ [j0])), ev, zl)).1.1 (dqA j0 (σ, (va_up (va_up Lx 0 (Lx 0 ++ [j0])) (5 + bb) ((va_up Lx 0 (Lx 0 ++ [j0])) (5 + bb) ++ [j0])), ev, zl)).1.2.1 (dqA j0 (σ, (va_up (va_up Lx 0 (Lx 0 ++ [j0])) (5 + bb) ((va_up Lx 0 (Lx 0 ++ [j0])) (5 + bb) ++ [j0])), ev, zl)).1.2.2.1 (dqA j0 (σ, (va_up (va_up Lx 0 (Lx 0 ++ [j0])) (5 + bb) ((va_up Lx 0 (Lx 0 ++ [j0])) (5 + bb) ++ [j0])), ev, zl)).1.2.2.2 tx mt tn tc w0 ad1 dm1 w1 → post (some (.int (nI j0))) ad1 dm1 w1) : GG p l e { frames := 9, cells := mc, slots := ms, locals := 285 } s m args below meth c D A ad dm 9 cells slots (vx_MQ below (QW D A (tysG cs) post) XC args s mc ms A) (cw D ad cs σ Lx cap mk ev zl tx mt tn tc w0) 106 [(7, .null), (6, .ref (ad 14 bb)), (5, .ref (ad 13 aa)), (0, .ref (ad 10 0)), (1, .int y), (2, .int to), (3, .int pr), (4, .int u)] [.ref (ad 17 j0)] := by
  have hinX3 : ∀ w ∈ wsX30, w ∈ wsX5_submit := by decide +kernel
  have hinX4 : ∀ w ∈ wsX40, w ∈ wsX5_submit := by decide +kernel
  have hinX5 : ∀ w ∈ wsX50, w ∈ wsX5_submit := by decide +kernel
  refine g_astore F (lv1 := [(8, .ref (ad 17 j0)), (7, .null), (6, .ref (ad 14 bb)), (5, .ref (ad 13 aa)), (0, .ref (ad 10 0)), (1, .int y), (2, .int to), (3, .int pr), (4, .int u)]) dX5_submit_106 (by decide) rfl ?_
  refine g_aload_n F 4 dX5_submit_108 rfl rfl ?_
  refine g_getf (k := 10) (i := 0) (ci := 5) (C := RX5) (T := TX5) (N := 4) (fs := (cO ad σ)) (fk := 2) F hinX5 hC.1 rfl rfl (by decide) (by decide +kernel) rfl rfl dX5_submit_109 ?_
  refine g_aload F 0 dX5_submit_112 rfl ?_
  refine q_callV F (C := RJx4a65c) (k := 15) (i := 0) (ci := 0) (T := TJx4a65c) (N := 3) (rest := []) [.ref (ad 17 j0)] (cl_add l D A cs ad dm σ Lx cap mk ev zl tx mt tn tc w0 n tq hC 0 j0 hn22 (by omega) (by omega) (hlo 0 (by omega)).1 (hlo 0 (by omega)).2.1 hl0 (hlo 0 (by omega)).2.2) (cwV 1 F.1.2.2.2.2 gX5_submit_Jx4a65c_add_9ea2d rfl rfl rfl (by decide +kernel) ⟨Nat.le_of_ble_eq_true rfl, Nat.le_of_ble_eq_true rfl⟩) rfl (hC.2.2.2.2.2.1 0 (by omega)) rfl rfl rfl rfl (Nat.le_of_ble_eq_true rfl) dX5_submit_114 ⟨by show _ ≤ mc; omega, by show _ ≤ ms; omega⟩ (fun _ _ _ _ zv1 => ?_)
  obtain ⟨rfl, g114, d114, cp114, mq114, rfl, rfl, hC114, hlo114, rfl⟩ := addE hC hlo (i := 0) (j := j0) (by omega) (by omega) zv1
  show GG p l e _ s m _ below meth c D A (r16 ad g114) (r16 dm d114) _ _ _ _ (cw D (r16 ad g114) cs σ (va_up Lx 0 (Lx 0 ++ [j0])) cp114 mq114 ev zl tx mt tn tc w0) 117 _ [.int 1]
  refine g_pop F dX5_submit_117 rfl ?_
  refine g_aload F 2 dX5_submit_118 rfl ?_
  refine g_getf (k := 14) (i := bb) (ci := 4) (C := RX4) (T := TX4) (N := 5) (fs := (cR (r16 ad g114) σ bb)) (fk := 4) F hinX4 (hC114.2.2.2.2.1 bb (by omega)) rfl rfl (by decide) (by decide +kernel) rfl rfl dX5_submit_120 ?_
  refine g_aload F 0 dX5_submit_123 rfl ?_
  refine q_callV F (C := RJx4a65c) (k := 15) (i := (5 + bb)) (ci := 0) (T := TJx4a65c) (N := 3) (rest := []) [.ref ((r16 ad g114) 17 j0)] (cl_add l D A cs (r16 ad g114) (r16 dm d114) σ (va_up Lx 0 (Lx 0 ++ [j0])) cp114 mq114 ev zl tx mt tn tc w0 n tq hC114 (5 + bb) j0 hn22 (by omega) (by omega) (hlo114 (5 + bb) (by omega)).1 (hlo114 (5 + bb) (by omega)).2.1 (by rw [va_up_ne _ _ (by omega)]; exact hq39 _ (by omega)) (hlo114 (5 + bb) (by omega)).2.2) (cwV 1 F.1.2.2.2.2 gX5_submit_Jx4a65c_add_9ea2d rfl rfl rfl (by decide +kernel) ⟨Nat.le_of_ble_eq_true rfl, Nat.le_of_ble_eq_true rfl⟩) rfl (hC114.2.2.2.2.2.1 (5 + bb) (by omega)) rfl rfl rfl rfl (Nat.le_of_ble_eq_true rfl) dX5_submit_125 ⟨by show _ ≤ mc; omega, by show _ ≤ ms; omega⟩ (fun _ _ _ _ zv2 => ?_)
  obtain ⟨rfl, g125, d125, cp125, mq125, rfl, rfl, hC125, hlo125, rfl⟩ := addE hC114 hlo114 (i := (5 + bb)) (j := j0) (by omega) (by omega) zv2
  show GG p l e _ s m _ below meth c D A (r16 (r16 ad g114) g125) (r16 (r16 dm d114) d125) _ _ _ _ (cw D (r16 (r16 ad g114) g125) cs σ (va_up (va_up Lx 0 (Lx 0 ++ [j0])) (5 + bb) ((va_up Lx 0 (Lx 0 ++ [j0])) (5 + bb) ++ [j0])) cp125 mq125 ev zl tx mt tn tc w0) 128 _ [.int 1]
  refine g_pop F dX5_submit_128 rfl ?_
  refine g_aload_n F 4 dX5_submit_129 rfl rfl ?_
  refine g_aload F 0 dX5_submit_130 rfl ?_
  refine q_callV F (C := RX5) (k := 10) (i := 0) (ci := 5) (T := TX5) (N := 4) (rest := []) [.ref ((r16 (r16 ad g114) g125) 17 j0)] (cc_replaced l D A cs (r16 (r16 ad g114) g125) (r16 (r16 dm d114) d125) σ (va_up (va_up Lx 0 (Lx 0 ++ [j0])) (5 + bb) ((va_up Lx 0 (Lx 0 ++ [j0])) (5 + bb) ++ [j0])) cp125 mq125 ev zl tx mt tn tc w0 n tq hC125 j0 hn40 hL2 hlo125 hn22 hrg hj0 hw) (cwV 1 F.1.2.2.2.2 gX5_submit_X5_deleteReplacedBy rfl rfl rfl (by decide +kernel) ⟨Nat.le_of_ble_eq_true rfl, Nat.le_of_ble_eq_true rfl⟩) rfl hC125.1 rfl rfl rfl rfl (Nat.le_of_ble_eq_true rfl) dX5_submit_132 ⟨by show _ ≤ mc; omega, by show _ ≤ ms; omega⟩ (fun _ _ _ _ zv3 => ?_)
  obtain ⟨rfl, g132, d132, cp132, mq132, rfl, rfl, hC132, hlo132, rfl⟩ := zv3
  show GG p l e _ s m _ below meth c D A (r16 (r16 (r16 ad g114) g125) g132) (r16 (r16 (r16 dm d114) d125) d132) _ _ _ _ (cw D (r16 (r16 (r16 ad g114) g125) g132) cs (dqA j0 (σ, (va_up (va_up Lx 0 (Lx 0 ++ [j0])) (5 + bb) ((va_up Lx 0 (Lx 0 ++ [j0])) (5 + bb) ++ [j0])), ev, zl)).1.1 (dqA j0 (σ, (va_up (va_up Lx 0 (Lx 0 ++ [j0])) (5 + bb) ((va_up Lx 0 (Lx 0 ++ [j0])) (5 + bb) ++ [j0])), ev, zl)).1.2.1 cp132 mq132 (dqA j0 (σ, (va_up (va_up Lx 0 (Lx 0 ++ [j0])) (5 + bb) ((va_up Lx 0 (Lx 0 ++ [j0])) (5 + bb) ++ [j0])), ev, zl)).1.2.2.1 (dqA j0 (σ, (va_up (va_up Lx 0 (Lx 0 ++ [j0])) (5 + bb) ((va_up Lx 0 (Lx 0 ++ [j0])) (5 + bb) ++ [j0])), ev, zl)).1.2.2.2 tx mt tn tc w0) 135 _ []
  refine g_aload F 0 dX5_submit_135 rfl ?_
  refine g_getf (k := 17) (i := j0) (ci := 3) (C := RX3) (T := TX3) (N := 16) (fs := (cM (r16 (r16 (r16 ad g114) g125) g132) (dqA j0 (σ, (va_up (va_up Lx 0 (Lx 0 ++ [j0])) (5 + bb) ((va_up Lx 0 (Lx 0 ++ [j0])) (5 + bb) ++ [j0])), ev, zl)).1.1 mt j0)) (fk := 0) F hinX3 (hC132.2.2.2.2.2.2.2.1 j0 (by omega)).1 rfl rfl (by decide) (by decide +kernel) rfl rfl dX5_submit_137 ?_
  exact x_qi F hr hlocks (fun _ h => h) (hpost _ _ _ (EXP.trans (EXP.trans ⟨g132, d132, cp132, mq132, rfl, rfl, hC132, hlo132, rfl⟩))) (by omega) (by omega) dX5_submit_140

