section TB17
variable {p : Program} {l : Launch} {e : Env} {R : Room} {s : State} {m : MethodId} {args : Array Value} {below : List Frame} {meth : Method} {c : Code} {cells slots : Nat} {Q : State → Prop} {cc : ByteArray} {nL : Nat} {Ts : List Cond} {own : String} {D : va_G} {A : Nat → Prop} {tys : List (ClassId × FieldType)} {ad : Nat → Nat → Nat} {dm : Nat → Nat → Prop} {w : CF} {pc : Nat} {lv : List (Nat × Value)} {rest : List Value}
theorem g_tIn (F : FX p s m args c cc nL Ts own D A tys) {dflt lo hi : Int} {offs : Array Int} {len : Nat} {x : Int32} {off : Int} {tgt : Nat} (d : decode cc pc = .ok (.tableswitch dflt lo hi offs, len)) (h1 : ¬ x.toInt < lo) (h2 : ¬ hi < x.toInt) (ho : offs[(x.toInt - lo).toNat]? = some off) (ht : (pc : Int) + off = (tgt : Int)) (kk : GG p l e R s m args below meth c D A ad dm nL cells slots Q w tgt lv rest) : GG p l e R s m args below meth c D A ad dm nL cells slots Q w pc lv (.int x :: rest) := fun H locs ls hw hS hl => lv_tableIn F.1.1 F.1.2.1 d h1 h2 ho ht (kk H locs ls hw hS hl)
theorem g_tOut (F : FX p s m args c cc nL Ts own D A tys) {dflt lo hi : Int} {offs : Array Int} {len : Nat} {x : Int32} {tgt : Nat} (d : decode cc pc = .ok (.tableswitch dflt lo hi offs, len)) (h : x.toInt < lo ∨ hi < x.toInt) (ht : (pc : Int) + dflt = (tgt : Int)) (kk : GG p l e R s m args below meth c D A ad dm nL cells slots Q w tgt lv rest) : GG p l e R s m args below meth c D A ad dm nL cells slots Q w pc lv (.int x :: rest) := fun H locs ls hw hS hl => lv_tableOut F.1.1 F.1.2.1 d h ht (kk H locs ls hw hS hl)
theorem la_len (F : FX p s m args c cc nL Ts own D A tys) {b L : Nat} {xs : Nat → Int32} (hX : va_X b L xs s s.heap) (hbl : b < s.heap.size) (hbA : ¬ A b) (d : decode cc pc = .ok (.arraylength, 1)) (kk : GG p l e R s m args below meth c D A ad dm nL cells slots Q w (pc + 1) lv (.int (nI L) :: rest)) : GG p l e R s m args below meth c D A ad dm nL cells slots Q w pc lv (.ref b :: rest) := fun H locs ls hw hS hl => va_slen F.1.1 F.1.2.1 hX hbl hbA hS d (kk H locs ls hw hS hl)
end TB17
theorem and31 (x : Int32) : ∃ k, k < 32 ∧ x &&& 31 = nI k := by
  refine ⟨(x &&& 31).toBitVec.toNat, ?_, ?_⟩
  · have h : (x &&& 31).toBitVec = x.toBitVec &&& 31#32 := rfl
    rw [h, BitVec.toNat_and]
    exact Nat.lt_of_le_of_lt Nat.and_le_right (by decide)
  · apply Int32.toBitVec_inj.mp
    show (x &&& 31).toBitVec = BitVec.ofNat 32 (x &&& 31).toBitVec.toNat
    exact (BitVec.ofNat_toNat _ _ |>.trans (BitVec.setWidth_eq _)).symm
theorem lt_len {L i : Nat} (hL : L ≤ 2560) (hi : i ≤ 2560) : nI L - 5 < nI i ↔ L < i + 5 := by
  rcases Nat.lt_or_ge L 5 with h | h
  · have h1 : nI L - 5 < 0 := by
      rcases (show L = 0 ∨ L = 1 ∨ L = 2 ∨ L = 3 ∨ L = 4 by omega) with rfl | rfl | rfl | rfl | rfl <;> decide
    exact ⟨fun _ => by omega, fun _ => Int32.lt_of_lt_of_le h1 (nI_pos' (by omega))⟩
  · have e : nI L - 5 = nI (L - 5) := by
      have q : nI (L - 5) + 5 = nI L := (nI_add (L - 5) 5).trans (congrArg nI (by omega))
      rw [← q, Int32.add_sub_cancel]
    rw [e, nI_ltI (by omega) (by omega)]
    omega
