section CS17
variable {p : Program} {l : Launch} {e : Env} {R : Room} {s : State} {m : MethodId} {args : Array Value} {below : List Frame} {meth : Method} {c : Code} {cells slots : Nat} {Q : State → Prop} {cc : ByteArray} {nL : Nat} {Ts : List Cond} {own : String} {D : va_G} {A : Nat → Prop} {tys : List (ClassId × FieldType)} {ad : Nat → Nat → Nat} {dm : Nat → Nat → Prop} {w : CF} {pc : Nat} {lv : List (Nat × Value)} {rest : List Value}
theorem q_callSW (F : FX p s m args c cc nL Ts own D A tys) {y : MethodName} {bytes : ByteArray} {maxL mc ms n index : Nat} {ret : Option FieldType} {hh : List (Nat × Nat × Nat × Nat)} {ws : List Cond} {rm : Room} {post : Option Value → (Nat → Nat → Nat) → (Nat → Nat → Prop) → CF → Prop} (As : List Value) {st : List Value} (hM : Met l y ws rm (va_Pc (As) (PW D A tys ad dm w)) (QW D A tys post) mc ms A) (cw : vx_CSW R s args own index y bytes maxL ret hh ws rm mc ms n) (hn : As.length = n) (hst : st = As.reverse ++ rest) (hroom : (rest.map fun v => v.category).sum ≤ 8) (d : decode cc pc = .ok (.invokestatic index, 3)) (hf : cells + mc ≤ R.cells ∧ slots + ms ≤ R.slots)
    (kk : ∀ (v : Option Value) (ad1 : Nat → Nat → Nat) (dm1 : Nat → Nat → Prop) (w1 : CF), post v ad1 dm1 w1 → GG p l e R s m args below meth c D A ad1 dm1 nL (cells + mc) (slots + ms) Q w1 (pc + 3) lv (v.toList ++ rest)) : GG p l e R s m args below meth c D A ad dm nL cells slots Q w pc lv st := by
  intro H locs ls hw hS hl
  subst hst
  exact q_call (vx_runSW (As := As) (rest := rest) F.1 hM cw ⟨fun a U g mk q => ⟨q.1, q.2.call a g mk⟩, fun U hU hW => ⟨rfl, F.PW hw hS hU hW⟩⟩ rfl hn hl.1 rfl (lv_room hroom) d hf) hS hl kk
end CS17

