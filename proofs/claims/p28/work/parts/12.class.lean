/-! the class's objects: kinds 10 root, 11 accounts' row, 12 recipients' row, 13 accounts, 14 recipients, 15 lists (0 the messages, 1.. receipts, 5.. queues), 16 their rows, 17 messages, 18 their failures, 19 their logs, 20 the logs' rows, 21 texts.
σ: the numbers, as in the reference; Lx: what lists hold (places of messages); cap: how long a list's row is, 0 for none; mk: modCount; ev, zl: the logs' rows and how much of them is used; tx, mt: which text an account, a message has; tn, tc: the texts -/
def elen (σ : SG) (j : Nat) : Nat := ix (σ 15 j) + 1
def cO (ad : Nat → Nat → Nat) (σ : SG) : List Value := [.ref (ad 11 0), .ref (ad 12 0), .ref (ad 15 0), .int (σ 0 0)]
def cA (ad : Nat → Nat → Nat) (σ : SG) (tx : Nat → Nat) (i : Nat) : List Value := [.ref (ad 21 (tx i)), .int (σ 4 i), .int (σ 5 i), .int (σ 6 i), .int (σ 7 i), .int (σ 8 i), .ref (ad 15 (1 + i))]
def cR (ad : Nat → Nat → Nat) (σ : SG) (i : Nat) : List Value := [.int (σ 28 i), .int (σ 29 i), .int (σ 30 i), .int (σ 31 i), .ref (ad 15 (5 + i))]
def cM (ad : Nat → Nat → Nat) (σ : SG) (mt : Nat → Nat) (j : Nat) : List Value := [.int (nI j), .ref (ad 13 (ix (σ 12 j))), .ref (ad 14 (ix (σ 13 j))), .ref (ad 21 (mt j)), .int (σ 20 j), .int (σ 21 j), .int (σ 22 j), .int (σ 14 j), .int (σ 15 j), .int (σ 16 j), .ref (ad 19 j), .ref (ad 18 j), .int (σ 23 j), .int (σ 26 j), .int (σ 25 j), .int (σ 24 j)]
def cE (D : va_G) (ad : Nat → Nat → Nat) (cap : Nat → Nat) (i : Nat) : Nat := if cap i = 0 then D.2 100 0 else ad 16 i
def cL (D : va_G) (ad : Nat → Nat → Nat) (Lx : Nat → List Nat) (cap : Nat → Nat) (mk : Nat → Int32) (i : Nat) : List Value := [.int (mk i), .ref (cE D ad cap i), .int (nI (Lx i).length)]
def cX (ad : Nat → Nat → Nat) (xs : List Nat) : Nat → Option Nat := fun k => (xs[k]?).map (ad 17)
def cF (σ : SG) (j : Nat) : Nat → Int32 := fun q => if q < 3 then σ 27 ((3 * j) + (2 - q)) else 0
def cV (σ : SG) (ev : SG) (j : Nat) : Nat → Int32 := fun q => if q < elen σ j then ev j q else 0
def cw (D : va_G) (ad : Nat → Nat → Nat) (cs : Nat → ClassId) (σ : SG) (Lx : Nat → List Nat) (cap : Nat → Nat) (mk : Nat → Int32) (ev : SG) (zl tx mt tn : Nat → Nat) (tc : SG) (w0 : CF) : CF := fun k i =>
  if k = 10 ∧ i = 0 then .inr (5, cO ad σ)
  else if k = 11 then .inl (cs 3, 4, .inr (.inr (.inr (.inr (fun q => if q < 4 then some (ad 13 q) else none)))))
  else if k = 12 then .inl (cs 4, 6, .inr (.inr (.inr (.inr (fun q => if q < 6 then some (ad 14 q) else none)))))
  else if k = 13 then .inr (1, cA ad σ tx i)
  else if k = 14 then .inr (4, cR ad σ i)
  else if k = 15 then .inr (0, cL D ad Lx cap mk i)
  else if k = 16 then .inl (cs 5, cap i, .inr (.inr (.inr (.inr (cX ad (Lx i))))))
  else if k = 17 then .inr (3, cM ad σ mt i)
  else if k = 18 then .inl (cs 0, 3, .inl (cF σ i))
  else if k = 19 then .inr (2, [.ref (ad 20 i), .int (nI (zl i))])
  else if k = 20 then .inl (cs 0, elen σ i, .inl (cV σ ev i))
  else if k = 21 then .inl (cs 0, tn i, .inl (tc i))
  else w0 k i
/-- which of these cells are there: n messages, tq texts -/
def CD (dm : Nat → Nat → Prop) (n : Nat) (cap : Nat → Nat) (tq : Nat) : Prop := dm 10 0 ∧ dm 11 0 ∧ dm 12 0 ∧ (∀ i, i < 4 → dm 13 i) ∧ (∀ i, i < 6 → dm 14 i) ∧ (∀ i, i < 11 → dm 15 i) ∧ (∀ i, i < 11 → 0 < cap i → dm 16 i) ∧ (∀ j, j < n → dm 17 j ∧ dm 18 j ∧ dm 19 j ∧ dm 20 j) ∧ ∀ t, t < tq → dm 21 t
section CWS
abbrev va_E_id (x : va_E) : va_E := x
variable {D : va_G} {ad : Nat → Nat → Nat} {cs : Nat → ClassId} {σ : SG} {Lx : Nat → List Nat} {cap : Nat → Nat} {mk : Nat → Int32} {ev : SG} {zl tx mt tn : Nat → Nat} {tc : SG} {w0 : CF}
theorem cw_up {w w1 : CF} {k i : Nat} {e : va_E} (h1 : w1 k i = e) (h2 : ∀ a b, ¬ (a = k ∧ b = i) → w1 a b = w a b) : up2 w k i e = w1 := by
  funext a b
  by_cases h : a = k ∧ b = i
  · rw [h.1, h.2, up2_self, h1]
  · rw [up2_ne _ _ h, h2 a b h]
/-- a number that stands in one kind of cell alone -/
theorem cw_num {K f : Nat} (v : Int32) (i : Nat) (hK : K = (if f = 0 then 10 else if f ≤ 8 then 13 else if f ≤ 26 then 17 else 14)) (hf : f = 0 ∨ (4 ≤ f ∧ f ≤ 8) ∨ (23 ≤ f ∧ f ≤ 26) ∨ (28 ≤ f ∧ f ≤ 31)) (h0 : f = 0 → i = 0) {e : va_E} (he : cw D ad cs (up2 σ f i v) Lx cap mk ev zl tx mt tn tc w0 K i = e) :
    up2 (cw D ad cs σ Lx cap mk ev zl tx mt tn tc w0) K i e = cw D ad cs (up2 σ f i v) Lx cap mk ev zl tx mt tn tc w0 := by
  have ne : ∀ g b, ¬ (g = f ∧ b = i) → up2 σ f i v g b = σ g b := fun g b h => up2_ne _ _ h
  refine cw_up he (fun a b h => ?_)
  unfold cw
  have e0 : a = 10 ∧ b = 0 → cO ad (up2 σ f i v) = cO ad σ := by
    intro q
    unfold cO
    rw [ne 0 0 (fun z => h ⟨by rw [hK, if_pos z.1.symm]; exact q.1, by rw [h0 z.1.symm]; exact q.2⟩)]
  have e1 : a = 13 → cA ad (up2 σ f i v) tx b = cA ad σ tx b := by
    intro q
    have z : ∀ g, 4 ≤ g → g ≤ 8 → up2 σ f i v g b = σ g b := fun g g1 g2 => ne g b (fun z => h ⟨by rw [hK, if_neg (by omega), if_pos (by omega)]; exact q, z.2⟩)
    unfold cA
    rw [z 4 (by omega) (by omega), z 5 (by omega) (by omega), z 6 (by omega) (by omega), z 7 (by omega) (by omega), z 8 (by omega) (by omega)]
  have e2 : a = 14 → cR ad (up2 σ f i v) b = cR ad σ b := by
    intro q
    have z : ∀ g, 28 ≤ g → g ≤ 31 → up2 σ f i v g b = σ g b := fun g g1 g2 => ne g b (fun z => h ⟨by rw [hK, if_neg (by omega), if_neg (by omega), if_neg (by omega)]; exact q, z.2⟩)
    unfold cR
    rw [z 28 (by omega) (by omega), z 29 (by omega) (by omega), z 30 (by omega) (by omega), z 31 (by omega) (by omega)]
  have zn : ∀ g, 12 ≤ g → g ≤ 22 → up2 σ f i v g b = σ g b := fun g g1 g2 => ne g b (fun z => by omega)
  have e3 : a = 17 → cM ad (up2 σ f i v) mt b = cM ad σ mt b := by
    intro q
    have z : ∀ g, 23 ≤ g → g ≤ 26 → up2 σ f i v g b = σ g b := fun g g1 g2 => ne g b (fun z => h ⟨by rw [hK, if_neg (by omega), if_neg (by omega), if_pos (by omega)]; exact q, z.2⟩)
    unfold cM
    rw [zn 12 (by omega) (by omega), zn 13 (by omega) (by omega), zn 20 (by omega) (by omega), zn 21 (by omega) (by omega), zn 22 (by omega) (by omega), zn 14 (by omega) (by omega), zn 15 (by omega) (by omega), zn 16 (by omega) (by omega), z 23 (by omega) (by omega), z 26 (by omega) (by omega), z 25 (by omega) (by omega), z 24 (by omega) (by omega)]
  have e4 : cF (up2 σ f i v) b = cF σ b := by
    funext q
    unfold cF
    rw [ne 27 _ (fun z => by omega)]
  have e5 : elen (up2 σ f i v) b = elen σ b := by unfold elen; rw [zn 15 (by omega) (by omega)]
  have e6 : cV (up2 σ f i v) ev b = cV σ ev b := by funext q; unfold cV; rw [e5]
  by_cases q0 : a = 10 ∧ b = 0
  · rw [if_pos q0, if_pos q0, e0 q0]
  rw [if_neg q0, if_neg q0]
  by_cases q1 : a = 11
  · rw [if_pos q1, if_pos q1]
  rw [if_neg q1, if_neg q1]
  by_cases q2 : a = 12
  · rw [if_pos q2, if_pos q2]
  rw [if_neg q2, if_neg q2]
  by_cases q3 : a = 13
  · rw [if_pos q3, if_pos q3, e1 q3]
  rw [if_neg q3, if_neg q3]
  by_cases q4 : a = 14
  · rw [if_pos q4, if_pos q4, e2 q4]
  rw [if_neg q4, if_neg q4]
  by_cases q5 : a = 15
  · rw [if_pos q5, if_pos q5]
  rw [if_neg q5, if_neg q5]
  by_cases q6 : a = 16
  · rw [if_pos q6, if_pos q6]
  rw [if_neg q6, if_neg q6]
  by_cases q7 : a = 17
  · rw [if_pos q7, if_pos q7, e3 q7]
  rw [if_neg q7, if_neg q7, e4, e5, e6]
theorem cp_23 (i : Nat) (v : Int32) : up2 (cw D ad cs σ Lx cap mk ev zl tx mt tn tc w0) 17 i (.inr (3, (cM ad σ mt i).set 12 (.int v))) = cw D ad cs (up2 σ 23 i v) Lx cap mk ev zl tx mt tn tc w0 := cw_num (K := 17) (f := 23) v i (by decide) (by decide) (by intro h; first | rfl | exact absurd h (by decide)) (by
  have h : cM ad (up2 σ 23 i v) mt i = (cM ad σ mt i).set 12 (.int v) := by unfold cM; simp [up2]
  show va_E_id (.inr (3, cM ad (up2 σ 23 i v) mt i)) = _
  rw [h])
theorem cp_26 (i : Nat) (v : Int32) : up2 (cw D ad cs σ Lx cap mk ev zl tx mt tn tc w0) 17 i (.inr (3, (cM ad σ mt i).set 13 (.int v))) = cw D ad cs (up2 σ 26 i v) Lx cap mk ev zl tx mt tn tc w0 := cw_num (K := 17) (f := 26) v i (by decide) (by decide) (by intro h; first | rfl | exact absurd h (by decide)) (by
  have h : cM ad (up2 σ 26 i v) mt i = (cM ad σ mt i).set 13 (.int v) := by unfold cM; simp [up2]
  show va_E_id (.inr (3, cM ad (up2 σ 26 i v) mt i)) = _
  rw [h])
theorem cp_25 (i : Nat) (v : Int32) : up2 (cw D ad cs σ Lx cap mk ev zl tx mt tn tc w0) 17 i (.inr (3, (cM ad σ mt i).set 14 (.int v))) = cw D ad cs (up2 σ 25 i v) Lx cap mk ev zl tx mt tn tc w0 := cw_num (K := 17) (f := 25) v i (by decide) (by decide) (by intro h; first | rfl | exact absurd h (by decide)) (by
  have h : cM ad (up2 σ 25 i v) mt i = (cM ad σ mt i).set 14 (.int v) := by unfold cM; simp [up2]
  show va_E_id (.inr (3, cM ad (up2 σ 25 i v) mt i)) = _
  rw [h])
theorem cp_24 (i : Nat) (v : Int32) : up2 (cw D ad cs σ Lx cap mk ev zl tx mt tn tc w0) 17 i (.inr (3, (cM ad σ mt i).set 15 (.int v))) = cw D ad cs (up2 σ 24 i v) Lx cap mk ev zl tx mt tn tc w0 := cw_num (K := 17) (f := 24) v i (by decide) (by decide) (by intro h; first | rfl | exact absurd h (by decide)) (by
  have h : cM ad (up2 σ 24 i v) mt i = (cM ad σ mt i).set 15 (.int v) := by unfold cM; simp [up2]
  show va_E_id (.inr (3, cM ad (up2 σ 24 i v) mt i)) = _
  rw [h])
theorem cp_28 (i : Nat) (v : Int32) : up2 (cw D ad cs σ Lx cap mk ev zl tx mt tn tc w0) 14 i (.inr (4, (cR ad σ i).set 0 (.int v))) = cw D ad cs (up2 σ 28 i v) Lx cap mk ev zl tx mt tn tc w0 := cw_num (K := 14) (f := 28) v i (by decide) (by decide) (by intro h; first | rfl | exact absurd h (by decide)) (by
  have h : cR ad (up2 σ 28 i v) i = (cR ad σ i).set 0 (.int v) := by unfold cR; simp [up2]
  show va_E_id (.inr (4, cR ad (up2 σ 28 i v) i)) = _
  rw [h])
theorem cp_29 (i : Nat) (v : Int32) : up2 (cw D ad cs σ Lx cap mk ev zl tx mt tn tc w0) 14 i (.inr (4, (cR ad σ i).set 1 (.int v))) = cw D ad cs (up2 σ 29 i v) Lx cap mk ev zl tx mt tn tc w0 := cw_num (K := 14) (f := 29) v i (by decide) (by decide) (by intro h; first | rfl | exact absurd h (by decide)) (by
  have h : cR ad (up2 σ 29 i v) i = (cR ad σ i).set 1 (.int v) := by unfold cR; simp [up2]
  show va_E_id (.inr (4, cR ad (up2 σ 29 i v) i)) = _
  rw [h])
theorem cp_30 (i : Nat) (v : Int32) : up2 (cw D ad cs σ Lx cap mk ev zl tx mt tn tc w0) 14 i (.inr (4, (cR ad σ i).set 2 (.int v))) = cw D ad cs (up2 σ 30 i v) Lx cap mk ev zl tx mt tn tc w0 := cw_num (K := 14) (f := 30) v i (by decide) (by decide) (by intro h; first | rfl | exact absurd h (by decide)) (by
  have h : cR ad (up2 σ 30 i v) i = (cR ad σ i).set 2 (.int v) := by unfold cR; simp [up2]
  show va_E_id (.inr (4, cR ad (up2 σ 30 i v) i)) = _
  rw [h])
theorem cp_31 (i : Nat) (v : Int32) : up2 (cw D ad cs σ Lx cap mk ev zl tx mt tn tc w0) 14 i (.inr (4, (cR ad σ i).set 3 (.int v))) = cw D ad cs (up2 σ 31 i v) Lx cap mk ev zl tx mt tn tc w0 := cw_num (K := 14) (f := 31) v i (by decide) (by decide) (by intro h; first | rfl | exact absurd h (by decide)) (by
  have h : cR ad (up2 σ 31 i v) i = (cR ad σ i).set 3 (.int v) := by unfold cR; simp [up2]
  show va_E_id (.inr (4, cR ad (up2 σ 31 i v) i)) = _
  rw [h])
theorem cp_4 (i : Nat) (v : Int32) : up2 (cw D ad cs σ Lx cap mk ev zl tx mt tn tc w0) 13 i (.inr (1, (cA ad σ tx i).set 1 (.int v))) = cw D ad cs (up2 σ 4 i v) Lx cap mk ev zl tx mt tn tc w0 := cw_num (K := 13) (f := 4) v i (by decide) (by decide) (by intro h; first | rfl | exact absurd h (by decide)) (by
  have h : cA ad (up2 σ 4 i v) tx i = (cA ad σ tx i).set 1 (.int v) := by unfold cA; simp [up2]
  show va_E_id (.inr (1, cA ad (up2 σ 4 i v) tx i)) = _
  rw [h])
theorem cp_5 (i : Nat) (v : Int32) : up2 (cw D ad cs σ Lx cap mk ev zl tx mt tn tc w0) 13 i (.inr (1, (cA ad σ tx i).set 2 (.int v))) = cw D ad cs (up2 σ 5 i v) Lx cap mk ev zl tx mt tn tc w0 := cw_num (K := 13) (f := 5) v i (by decide) (by decide) (by intro h; first | rfl | exact absurd h (by decide)) (by
  have h : cA ad (up2 σ 5 i v) tx i = (cA ad σ tx i).set 2 (.int v) := by unfold cA; simp [up2]
  show va_E_id (.inr (1, cA ad (up2 σ 5 i v) tx i)) = _
  rw [h])
theorem cp_6 (i : Nat) (v : Int32) : up2 (cw D ad cs σ Lx cap mk ev zl tx mt tn tc w0) 13 i (.inr (1, (cA ad σ tx i).set 3 (.int v))) = cw D ad cs (up2 σ 6 i v) Lx cap mk ev zl tx mt tn tc w0 := cw_num (K := 13) (f := 6) v i (by decide) (by decide) (by intro h; first | rfl | exact absurd h (by decide)) (by
  have h : cA ad (up2 σ 6 i v) tx i = (cA ad σ tx i).set 3 (.int v) := by unfold cA; simp [up2]
  show va_E_id (.inr (1, cA ad (up2 σ 6 i v) tx i)) = _
  rw [h])
theorem cp_7 (i : Nat) (v : Int32) : up2 (cw D ad cs σ Lx cap mk ev zl tx mt tn tc w0) 13 i (.inr (1, (cA ad σ tx i).set 4 (.int v))) = cw D ad cs (up2 σ 7 i v) Lx cap mk ev zl tx mt tn tc w0 := cw_num (K := 13) (f := 7) v i (by decide) (by decide) (by intro h; first | rfl | exact absurd h (by decide)) (by
  have h : cA ad (up2 σ 7 i v) tx i = (cA ad σ tx i).set 4 (.int v) := by unfold cA; simp [up2]
  show va_E_id (.inr (1, cA ad (up2 σ 7 i v) tx i)) = _
  rw [h])
theorem cp_8 (i : Nat) (v : Int32) : up2 (cw D ad cs σ Lx cap mk ev zl tx mt tn tc w0) 13 i (.inr (1, (cA ad σ tx i).set 5 (.int v))) = cw D ad cs (up2 σ 8 i v) Lx cap mk ev zl tx mt tn tc w0 := cw_num (K := 13) (f := 8) v i (by decide) (by decide) (by intro h; first | rfl | exact absurd h (by decide)) (by
  have h : cA ad (up2 σ 8 i v) tx i = (cA ad σ tx i).set 5 (.int v) := by unfold cA; simp [up2]
  show va_E_id (.inr (1, cA ad (up2 σ 8 i v) tx i)) = _
  rw [h])
theorem cp_0 (v : Int32) : up2 (cw D ad cs σ Lx cap mk ev zl tx mt tn tc w0) 10 0 (.inr (5, (cO ad σ).set 3 (.int v))) = cw D ad cs (up2 σ 0 0 v) Lx cap mk ev zl tx mt tn tc w0 := cw_num (K := 10) (f := 0) v 0 (by decide) (by decide) (by intro h; first | rfl | exact absurd h (by decide)) (by
  have h : cO ad (up2 σ 0 0 v) = (cO ad σ).set 3 (.int v) := by unfold cO; simp [up2]
  show va_E_id (.inr (5, cO ad (up2 σ 0 0 v))) = _
  rw [h])
/-- a failure's count -/
theorem cw_fail {j q : Nat} (hq : q < 3) (v : Int32) : up2 (cw D ad cs σ Lx cap mk ev zl tx mt tn tc w0) 18 j (.inl (cs 0, 3, .inl (upd (cF σ j) q v))) = cw D ad cs (up2 σ 27 ((3 * j) + (2 - q)) v) Lx cap mk ev zl tx mt tn tc w0 := by
  have ne : ∀ g b, g ≠ 27 → up2 σ 27 ((3 * j) + (2 - q)) v g b = σ g b := fun g b h => up2_ne _ _ (fun z => h z.1)
  have eF : ∀ b, b ≠ j → cF (up2 σ 27 ((3 * j) + (2 - q)) v) b = cF σ b := by
    intro b hb
    funext x
    unfold cF
    split
    · rw [up2_ne _ _ (fun z => by omega)]
    · rfl
  have eJ : upd (cF σ j) q v = cF (up2 σ 27 ((3 * j) + (2 - q)) v) j := by
    funext x
    unfold upd cF
    by_cases hx : x = q
    · subst hx
      rw [if_pos rfl, if_pos hq, up2_self]
    · rw [if_neg hx]
      by_cases h3 : x < 3
      · rw [if_pos h3, if_pos h3, up2_ne _ _ (fun z => by omega)]
      · rw [if_neg h3, if_neg h3]
  have eO : cO ad (up2 σ 27 ((3 * j) + (2 - q)) v) = cO ad σ := by unfold cO; rw [ne 0 0 (by decide)]
  have eA : ∀ b, cA ad (up2 σ 27 ((3 * j) + (2 - q)) v) tx b = cA ad σ tx b := by intro b; unfold cA; rw [ne 4 b (by decide), ne 5 b (by decide), ne 6 b (by decide), ne 7 b (by decide), ne 8 b (by decide)]
  have eR : ∀ b, cR ad (up2 σ 27 ((3 * j) + (2 - q)) v) b = cR ad σ b := by intro b; unfold cR; rw [ne 28 b (by decide), ne 29 b (by decide), ne 30 b (by decide), ne 31 b (by decide)]
  have eM : ∀ b, cM ad (up2 σ 27 ((3 * j) + (2 - q)) v) mt b = cM ad σ mt b := by intro b; unfold cM; rw [ne 12 b (by decide), ne 13 b (by decide), ne 20 b (by decide), ne 21 b (by decide), ne 22 b (by decide), ne 14 b (by decide), ne 15 b (by decide), ne 16 b (by decide), ne 23 b (by decide), ne 26 b (by decide), ne 25 b (by decide), ne 24 b (by decide)]
  have eE : ∀ b, elen (up2 σ 27 ((3 * j) + (2 - q)) v) b = elen σ b := by intro b; unfold elen; rw [ne 15 b (by decide)]
  have eV : ∀ b, cV (up2 σ 27 ((3 * j) + (2 - q)) v) ev b = cV σ ev b := by intro b; funext x; unfold cV; rw [eE]
  refine cw_up ?_ (fun a b h => ?_)
  · rw [eJ]; rfl
  · unfold cw
    rw [eO, eA, eR, eM, eE, eV]
    by_cases q8 : a = 18
    · rw [eF b (fun z => h ⟨q8, z⟩)]
    · simp only [if_neg q8]
/-- a list's state, its row's length unchanged -/
theorem cw_list {i : Nat} {xs : List Nat} {c : Nat} {v : Int32} {e e2 : va_E} (hi : cw D ad cs σ (va_up Lx i xs) (va_up cap i c) (va_up mk i v) ev zl tx mt tn tc w0 15 i = e) (h2 : cw D ad cs σ (va_up Lx i xs) (va_up cap i c) (va_up mk i v) ev zl tx mt tn tc w0 16 i = e2) : up2 (up2 (cw D ad cs σ Lx cap mk ev zl tx mt tn tc w0) 16 i e2) 15 i e = cw D ad cs σ (va_up Lx i xs) (va_up cap i c) (va_up mk i v) ev zl tx mt tn tc w0 := by
  refine cw_up hi (fun a b h => ?_)
  by_cases h6 : a = 16 ∧ b = i
  · rw [h6.1, h6.2, up2_self]; exact h2
  · rw [up2_ne _ _ h6]
    unfold cw cL cE
    by_cases q5 : a = 15
    · have hb : b ≠ i := fun z => h ⟨q5, z⟩
      rw [va_up_ne _ _ hb, va_up_ne _ _ hb, va_up_ne _ _ hb]
    · by_cases q6 : a = 16
      · have hb : b ≠ i := fun z => h6 ⟨q6, z⟩
        rw [va_up_ne _ _ hb, va_up_ne _ _ hb, va_up_ne _ _ hb]
      · simp only [if_neg q5, if_neg q6]
/-- an event, and how many there are -/
theorem cw_ev {j q : Nat} (hq : q < elen σ j) (v : Int32) : up2 (cw D ad cs σ Lx cap mk ev zl tx mt tn tc w0) 20 j (.inl (cs 0, elen σ j, .inl (upd (cV σ ev j) q v))) = cw D ad cs σ Lx cap mk (up2 ev j q v) zl tx mt tn tc w0 := by
  refine cw_up ?_ (fun a b h => ?_)
  · show va_E_id (.inl (cs 0, elen σ j, .inl (cV σ (up2 ev j q v) j))) = _
    unfold va_E_id
    congr 4
    funext x
    unfold upd cV
    by_cases hx : x = q
    · subst hx; rw [if_pos rfl, if_pos hq, up2_self]
    · rw [if_neg hx, up2_ne _ _ (fun z => hx z.2)]
  · unfold cw
    by_cases q8 : a = 20
    · have e : cV σ (up2 ev j q v) b = cV σ ev b := by funext x; unfold cV; rw [up2_ne _ _ (fun z => h ⟨q8, z.1⟩)]
      rw [e]
    · simp only [if_neg q8]
theorem cw_zl {j : Nat} (z : Nat) : up2 (cw D ad cs σ Lx cap mk ev zl tx mt tn tc w0) 19 j (.inr (2, [.ref (ad 20 j), .int (nI z)])) = cw D ad cs σ Lx cap mk ev (va_up zl j z) tx mt tn tc w0 := by
  refine cw_up ?_ (fun a b h => ?_)
  · show va_E_id (.inr (2, [.ref (ad 20 j), .int (nI (va_up zl j z j))])) = _
    rw [va_up_self]
  · unfold cw
    by_cases q8 : a = 19
    · rw [va_up_ne _ _ (fun z => h ⟨q8, z⟩)]
    · simp only [if_neg q8]
end CWS

