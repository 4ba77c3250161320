theorem ty_pr {s : State} {args : Array Value} {ty : FieldType} (h : (Cond.arrayClass ty).before args s = true) (hp : ∀ C, ty ≠ .object C) : ∃ cA, ArrOfT s cA ty ∧ va_RA s cA ty := by
  obtain ⟨cA, kA, comp, h1, h2, h3⟩ := Cond.arrayClass_spec h
  refine ⟨cA, fun n z => ⟨fun k h => (by cases h), kA, h2, comp, h3⟩, ?_⟩
  cases ty with
  | object C => exact absurd rfl (hp C)
  | _ => exact h1
theorem ty_ob {s : State} {args : Array Value} {C : String} (h : (Cond.arrayOver (.object C)).before args s = true) : ∃ cA, ArrOfT s cA (.object C) ∧ va_RA s cA (.object C) := by
  obtain ⟨comp, cA, kA, h1, h2, h3, h4, h5⟩ := Cond.arrayOver_spec h
  exact ⟨cA, fun n z => ⟨fun k h => (by cases h), kA, h3, comp, h4⟩, kA, comp, h3, h4, h1, h5⟩
set_option maxHeartbeats 8000000 in
set_option maxRecDepth 100000 in
theorem start_ok {s : State} {b L : Nat} {xs : Nat → Int32} (hX : va_X b L xs s s.heap) (hbl : b < s.heap.size) (hL : L ≤ 260) (hts : ∀ w ∈ lw_tbl, w.before #[Value.ref b] s = true) (hgv : (Jvm.Cond.and given_1 narrow_1).before #[Value.ref b] s = true) : ∃ (D : va_G) (cs : Nat → ClassId), D.2 100 40 = b ∧ va_K D vwCl (tysG cs) s ∧ SF D (fun q : Nat => s.heap.size ≤ q) s s.heap := by
  have hs := flat_of_before _ hgv
  have hW : ∀ (w : Cond) (i : Nat), stW[i]? = some w → w.before #[Value.ref b] s = true := fun w i h => hts w (stW_in w (List.mem_of_getElem? h))
  have hN : ∀ (w : Cond) (i : Nat), stN[i]? = some w → w.before #[Value.ref b] s = true := fun w i h => hs w (stN_in w (List.mem_of_getElem? h))
  have hA : ∀ a : Nat, a < s.heap.size → ¬ (fun q : Nat => s.heap.size ≤ q) a := fun a h => Nat.not_le.mpr h
  obtain ⟨c0, i0, k0⟩ := u_known (C := RJx4a65c) (T := TJx4a65c) (N := 3) (n := 3) hts inJx4a65c (hW (.instantiable RJx4a65c 3) 32 rfl)
  obtain ⟨c1, i1, k1⟩ := u_known (C := RX0) (T := TX0) (N := 7) (n := 7) hts inX0 (hW (.instantiable RX0 7) 33 rfl)
  obtain ⟨c2, i2, k2⟩ := u_known (C := RX2) (T := TX2) (N := 2) (n := 2) hts inX2 (hW (.instantiable RX2 2) 34 rfl)
  obtain ⟨c3, i3, k3⟩ := u_known (C := RX3) (T := TX3) (N := 16) (n := 16) hts inX3 (hW (.instantiable RX3 16) 35 rfl)
  obtain ⟨c4, i4, k4⟩ := u_known (C := RX4) (T := TX4) (N := 5) (n := 5) hts inX4 (hW (.instantiable RX4 5) 36 rfl)
  obtain ⟨c5, i5, k5⟩ := u_known (C := RX5) (T := TX5) (N := 4) (n := 4) hts inX5 (hW (.instantiable RX5 4) 37 rfl)
  obtain ⟨a0, p0⟩ := ty_pr (hW (.arrayClass .int) 31 rfl) (fun _ h => by cases h)
  obtain ⟨a3, p3⟩ := ty_ob (hW (.arrayOver (.object "MessageCentre$Account")) 11 rfl)
  obtain ⟨a4, p4⟩ := ty_ob (hW (.arrayOver (.object "MessageCentre$Recipient")) 12 rfl)
  obtain ⟨a5, p5⟩ := ty_ob (hW (.arrayOver (.object "java/lang/Object")) 10 rfl)
  obtain ⟨t0, e0, T0⟩ := va_Tof (N := 0) (f := fun _ => Value.null) (by decide) (hN (.arrayOf (.static "java/util/ArrayList" "DEFAULTCAPACITY_EMPTY_ELEMENTDATA" "[Ljava/lang/Object;") (.object "java/lang/Object")) 0 rfl) (va_eqt (hN (.eq (.length (.static "java/util/ArrayList" "DEFAULTCAPACITY_EMPTY_ELEMENTDATA" "[Ljava/lang/Object;")) (.int 0)) 1 rfl)) (fun j hj => absurd hj (Nat.not_lt_zero j)) hA
  have Z0 := va_Zof (hW (.laysStatic "java/util/ArrayList" "DEFAULTCAPACITY_EMPTY_ELEMENTDATA" "[Ljava/lang/Object;") 0 rfl) (hW (.initialized "java/util/ArrayList") 1 rfl) e0 hA
  obtain ⟨ae, En⟩ := va_Enof (E := "MessageCentre$Cause") (d := "LMessageCentre$Cause;") (nm := ["BUSY", "ABSENT", "FULL"]) (F := [("MessageCentre$Cause", "place", "I", [0, 1, 2]), ("MessageCentre$Cause", "firstDelay", "I", [2, 5, 10]), ("MessageCentre$Cause", "mark", "I", [0, 1, 2])]) (fun i hi => by rcases (show i = 0 ∨ i = 1 ∨ i = 2 by simp only [List.length_cons, List.length_nil] at hi; omega) with rfl | rfl | rfl; exact (hW (.laysStatic "MessageCentre$Cause" "BUSY" "LMessageCentre$Cause;") 2 rfl); exact (hW (.laysStatic "MessageCentre$Cause" "ABSENT" "LMessageCentre$Cause;") 3 rfl); exact (hW (.laysStatic "MessageCentre$Cause" "FULL" "LMessageCentre$Cause;") 4 rfl)) (hW (.initialized "MessageCentre$Cause") 5 rfl) (fun i hi => by rcases (show i = 0 ∨ i = 1 ∨ i = 2 by simp only [List.length_cons, List.length_nil] at hi; omega) with rfl | rfl | rfl; exact (hN (.exactly (.static "MessageCentre$Cause" "BUSY" "LMessageCentre$Cause;") "MessageCentre$Cause") 4 rfl); exact (hN (.exactly (.static "MessageCentre$Cause" "ABSENT" "LMessageCentre$Cause;") "MessageCentre$Cause") 5 rfl); exact (hN (.exactly (.static "MessageCentre$Cause" "FULL" "LMessageCentre$Cause;") "MessageCentre$Cause") 6 rfl)) (fun q hq i hi => by simp only [List.mem_cons, List.not_mem_nil, or_false] at hq; rcases (show i = 0 ∨ i = 1 ∨ i = 2 by simp only [List.length_cons, List.length_nil] at hi; omega) with rfl | rfl | rfl <;> rcases hq with rfl | rfl | rfl; exact (hN (.eq (.field (.static "MessageCentre$Cause" "BUSY" "LMessageCentre$Cause;") "MessageCentre$Cause" "place" "I") (.int 0)) 7 rfl); exact (hN (.eq (.field (.static "MessageCentre$Cause" "BUSY" "LMessageCentre$Cause;") "MessageCentre$Cause" "firstDelay" "I") (.int 2)) 8 rfl); exact (hN (.eq (.field (.static "MessageCentre$Cause" "BUSY" "LMessageCentre$Cause;") "MessageCentre$Cause" "mark" "I") (.int 0)) 9 rfl); exact (hN (.eq (.field (.static "MessageCentre$Cause" "ABSENT" "LMessageCentre$Cause;") "MessageCentre$Cause" "place" "I") (.int 1)) 10 rfl); exact (hN (.eq (.field (.static "MessageCentre$Cause" "ABSENT" "LMessageCentre$Cause;") "MessageCentre$Cause" "firstDelay" "I") (.int 5)) 11 rfl); exact (hN (.eq (.field (.static "MessageCentre$Cause" "ABSENT" "LMessageCentre$Cause;") "MessageCentre$Cause" "mark" "I") (.int 1)) 12 rfl); exact (hN (.eq (.field (.static "MessageCentre$Cause" "FULL" "LMessageCentre$Cause;") "MessageCentre$Cause" "place" "I") (.int 2)) 13 rfl); exact (hN (.eq (.field (.static "MessageCentre$Cause" "FULL" "LMessageCentre$Cause;") "MessageCentre$Cause" "firstDelay" "I") (.int 10)) 14 rfl); exact (hN (.eq (.field (.static "MessageCentre$Cause" "FULL" "LMessageCentre$Cause;") "MessageCentre$Cause" "mark" "I") (.int 2)) 15 rfl)) (fun i j hi hj hij => by rcases (show i = 0 ∨ i = 1 ∨ i = 2 by simp only [List.length_cons, List.length_nil] at hi; omega) with rfl | rfl | rfl <;> rcases (show j = 0 ∨ j = 1 ∨ j = 2 by simp only [List.length_cons, List.length_nil] at hj; omega) with rfl | rfl | rfl; exact absurd rfl hij; exact .inl (hN (.not (.eq (.static "MessageCentre$Cause" "BUSY" "LMessageCentre$Cause;") (.static "MessageCentre$Cause" "ABSENT" "LMessageCentre$Cause;"))) 16 rfl); exact .inl (hN (.not (.eq (.static "MessageCentre$Cause" "BUSY" "LMessageCentre$Cause;") (.static "MessageCentre$Cause" "FULL" "LMessageCentre$Cause;"))) 17 rfl); exact .inr (hN (.not (.eq (.static "MessageCentre$Cause" "BUSY" "LMessageCentre$Cause;") (.static "MessageCentre$Cause" "ABSENT" "LMessageCentre$Cause;"))) 16 rfl); exact absurd rfl hij; exact .inl (hN (.not (.eq (.static "MessageCentre$Cause" "ABSENT" "LMessageCentre$Cause;") (.static "MessageCentre$Cause" "FULL" "LMessageCentre$Cause;"))) 18 rfl); exact .inr (hN (.not (.eq (.static "MessageCentre$Cause" "BUSY" "LMessageCentre$Cause;") (.static "MessageCentre$Cause" "FULL" "LMessageCentre$Cause;"))) 17 rfl); exact .inr (hN (.not (.eq (.static "MessageCentre$Cause" "ABSENT" "LMessageCentre$Cause;") (.static "MessageCentre$Cause" "FULL" "LMessageCentre$Cause;"))) 18 rfl); exact absurd rfl hij) hA
  have Q1 := vx_Zqof (hW (.laysStatic Bundle.tN "UNASSIGNED_STACK" Bundle.steD) 6 rfl) (hW (.initialized Bundle.tN) 8 rfl) (hN (.isRef (.static Bundle.tN "UNASSIGNED_STACK" Bundle.steD)) 2 rfl) hA
  have Q2 := vx_Zqof (hW (.laysStatic Bundle.tN "SUPPRESSED_SENTINEL" Bundle.listD) 7 rfl) (hW (.initialized Bundle.tN) 8 rfl) (hN (.isRef (.static Bundle.tN "SUPPRESSED_SENTINEL" Bundle.listD)) 3 rfl) hA
  obtain ⟨mi, Mi⟩ := va_Mi.of (hN (.isRef (.mirror "[Ljava/lang/Object;")) 19 rfl)
  obtain ⟨s0, -, -, -, S0, -⟩ := Cond.exactly_spec (hN (.exactly (.string RX5 202) "java/lang/String") 20 rfl)
  obtain ⟨s1, -, -, -, S1, -⟩ := Cond.exactly_spec (hN (.exactly (.string RX5 212) "java/lang/String") 21 rfl)
  obtain ⟨s2, -, -, -, S2, -⟩ := Cond.exactly_spec (hN (.exactly (.string RX5 204) "java/lang/String") 22 rfl)
  obtain ⟨s3, -, -, -, S3, -⟩ := Cond.exactly_spec (hN (.exactly (.string RX5 86) "java/lang/String") 23 rfl)
  obtain ⟨s4, -, -, -, S4, -⟩ := Cond.exactly_spec (hN (.exactly (.string RX5 206) "java/lang/String") 24 rfl)
  obtain ⟨s5, -, -, -, S5, -⟩ := Cond.exactly_spec (hN (.exactly (.string RX5 208) "java/lang/String") 25 rfl)
  obtain ⟨s6, -, -, -, S6, -⟩ := Cond.exactly_spec (hN (.exactly (.string RX5 140) "java/lang/String") 26 rfl)
  obtain ⟨s7, -, -, -, S7, -⟩ := Cond.exactly_spec (hN (.exactly (.string RX5 193) "java/lang/String") 27 rfl)
  have hx : KX s := by
    intro w hw
    simp only [kxB, List.mem_cons, List.not_mem_nil, or_false] at hw
    rcases hw with rfl | rfl | rfl | rfl | rfl | rfl | rfl | rfl | rfl
    · exact va_any rfl (hW (.declares (Bundle.initS "java/lang/RuntimeException")) 14 rfl)
    · exact va_any rfl (hW (.declares (Bundle.initS "java/lang/Exception")) 15 rfl)
    · exact va_any rfl (hW (.declares (Bundle.initS Bundle.tN)) 16 rfl)
    · exact va_any rfl (hW (.castable "java/lang/IndexOutOfBoundsException" "java/lang/IndexOutOfBoundsException") 17 rfl)
    · exact va_any rfl (hW (.castable "java/lang/IllegalArgumentException" "java/lang/IllegalArgumentException") 18 rfl)
    · exact va_any rfl (hW (.castable "java/lang/IllegalStateException" "java/lang/IllegalStateException") 19 rfl)
    · exact va_any rfl (hW (.castable "[I" "java/lang/Cloneable") 20 rfl)
    · exact va_any rfl (hW (.methodLinkNest RX5 15 yX0_init "MessageCentre") 21 rfl)
    · exact va_any rfl (hW (.methodLinkNest RX5 22 yX4_init "MessageCentre") 22 rfl)
  refine ⟨((fun k => if k = 0 then c0 else if k = 1 then c1 else if k = 2 then c2 else if k = 3 then c3 else if k = 4 then c4 else c5), (fun k i => if k = 100 then (if i = 40 then b else if i = 0 then t0 else if i ≤ 3 then ae (i - 1) else if i = 10 then s0 else if i = 11 then s1 else if i = 12 then s2 else if i = 13 then s3 else if i = 14 then s4 else if i = 15 then s5 else if i = 16 then s6 else if i = 17 then s7 else mi) else if k = 0 then i0 i else if k = 1 then i1 i else if k = 2 then i2 i else if k = 3 then i3 i else if k = 4 then i4 i else i5 i)), (fun k => if k = 0 then a0 else if k = 3 then a3 else if k = 4 then a4 else a5), rfl, ⟨fun k q hq => ?_, fun k q hq => ?_⟩, ⟨⟨Z0, T0, ?_, Q1, Q2, ⟨L, xs, hL, hX, hbl, Nat.not_le.mpr hbl⟩⟩, ⟨Mi, va_Dc.of (hW (.declares ⟨"java/lang/Object", "getClass", "()Ljava/lang/Class;"⟩) 9 rfl), va_AO.of (hW (.arrayOver (.object "java/lang/Object")) 10 rfl), va_AO.of (hW (.arrayOver (.object "MessageCentre$Account")) 11 rfl), va_AO.of (hW (.arrayOver (.object "MessageCentre$Recipient")) 12 rfl), va_Nw.of rfl (hW (.castable "MessageCentre$Message" "java/lang/Object") 13 rfl), hx, va_Nc.of (hN (.not (.castable "java/lang/IllegalArgumentException" "java/lang/IndexOutOfBoundsException")) 28 rfl), va_Nc.of (hN (.not (.castable "java/lang/IllegalStateException" "java/lang/IndexOutOfBoundsException")) 29 rfl), va_Nc.of (hN (.not (.castable "java/lang/IllegalStateException" "java/lang/IllegalArgumentException")) 30 rfl)⟩, ⟨vk_R.of (hW (.stringRef RX5 202 "no such account") 23 rfl) S0, vk_R.of (hW (.stringRef RX5 212 "an argument is out of its range") 24 rfl) S1, vk_R.of (hW (.stringRef RX5 204 "no such recipient") 25 rfl) S2, vk_R.of (hW (.stringRef RX5 86 "throttled, or no message more") 26 rfl) S3, vk_R.of (hW (.stringRef RX5 206 "no such message") 27 rfl) S4, vk_R.of (hW (.stringRef RX5 208 "the message does not wait") 28 rfl) S5, vk_R.of (hW (.stringRef RX5 140 "no such part") 29 rfl) S6, vk_R.of (hW (.stringRef RX5 193 "no receipt") 30 rfl) S7⟩⟩⟩
  · match k, hq with
    | 0, hq => cases hq; exact k0
    | 1, hq => cases hq; exact k1
    | 2, hq => cases hq; exact k2
    | 3, hq => cases hq; exact k3
    | 4, hq => cases hq; exact k4
    | 5, hq => cases hq; exact k5
    | k + 6, hq => simp at hq
  · match k, hq with
    | 0, hq => cases hq; exact p0
    | 1, hq => cases hq; exact p0
    | 2, hq => cases hq; exact p0
    | 3, hq => cases hq; exact p3
    | 4, hq => cases hq; exact p4
    | 5, hq => cases hq; exact p5
    | k + 6, hq => simp at hq
  · exact ⟨fun i hi => by rcases (show i = 0 ∨ i = 1 ∨ i = 2 by simp only [List.length_cons, List.length_nil] at hi; omega) with rfl | rfl | rfl; exact En.1 0 (by decide); exact En.1 1 (by decide); exact En.1 2 (by decide), fun i j hi hj e => by
      have hi3 : i < 3 := hi
      have hj3 : j < 3 := hj
      refine En.2 i j hi hj ?_
      rcases (show i = 0 ∨ i = 1 ∨ i = 2 by omega) with rfl | rfl | rfl <;> rcases (show j = 0 ∨ j = 1 ∨ j = 2 by omega) with rfl | rfl | rfl <;> exact e⟩
