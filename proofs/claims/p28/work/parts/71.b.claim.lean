set_option maxHeartbeats 8000000 in
set_option maxRecDepth 100000 in
theorem whole_start {p : Program} {e : Env} {s : State} {m : MethodId} {below : List Frame} {meth : Method} {c : Code} (l : Launch) (hflags : l.flags = flags0) {b L : Nat} {xs : Nat → Int32} (hL : L ≤ 260) (C0 : lw_At p s m meth c b L xs) : W p l e room_1 s m #[Value.ref b] below meth c s.heap [] 0 0 (lw_Z below #[Value.ref b] s) (entryFrame m ([Value.ref b] : List Value).toArray 11) := by
  obtain ⟨hx, hb, hr, hml, hown, hts, hX, hbl, hlocks, hgv⟩ := id C0
  obtain ⟨D, cs, rfl, hK, hSF⟩ := start_ok hX hbl hL hts hgv
  have hA : ∀ q : Nat, s.heap.size ≤ q → (fun q : Nat => s.heap.size ≤ q) q := fun _ h => h
  have F : FX p s m #[Value.ref (D.2 100 40)] c cL_law 11 wsL_law RL D (fun q : Nat => s.heap.size ≤ q) (tysG cs) := ⟨⟨hx, hb, hml, hown, fun w h => hts w (wsL_law_in w h)⟩, hK, hA, hSF⟩
  have hfl : l.stackTraces = false := by
    unfold Launch.stackTraces
    rw [hflags]
    decide
  have hl := lv_entry ([.ref (D.2 100 40)]) (n := 11) (Nat.le_of_ble_eq_true rfl)
  rw [lg_entry_eq]
  generalize (lg_sl ([.ref (D.2 100 40)]) ++ List.replicate (11 - (lg_sl ([.ref (D.2 100 40)])).length) Slot.unset).toArray = ls at hl ⊢
  have hl : lv_has ls 11 [(0, .ref (D.2 100 40))] := hl
  have hret : ∀ (ad : Nat → Nat → Nat) (dm : Nat → Nat → Prop) (w : CF) (lv : List (Nat × Value)), GG p l e room_1 s m #[Value.ref (D.2 100 40)] below meth c D (fun q : Nat => s.heap.size ≤ q) ad dm 11 600104 7301314 (lw_Z below #[Value.ref (D.2 100 40)] s) w 386 lv [.int 1] := by
    intro ad dm w lv H locs ls hw hS hl
    refine va_forget (fun q hq => hS.2.2 q hq) ?_
    refine W.base ?_
    exact lw_ret (Drawn.sameBut.refl s.drawn lw_cs) hx hb hr hlocks dL_law_386
  exact law_start (cells := 0) (slots := 0) F hfl hret s.heap [] ls ⟨[], fun _ => .inr (0, []), fun k q h => by simp [va_pl] at h, ⟨fun i j p q h => by simp [va_pl] at h, fun k q h => by simp [va_pl] at h⟩, fun _ _ h => h.elim, fun _ _ _ _ h => h.elim⟩ va_S.rf hl
