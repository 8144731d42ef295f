/-! answers that are truths -/
theorem gx_ite0 {q : Prop} [Decidable q] : ((if q then nI 1 else nI 0) = (0 : Int32)) ↔ ¬ q := by
  by_cases h : q
  · rw [if_pos h]
    exact ⟨fun z => absurd z (by decide), fun z => absurd h z⟩
  · rw [if_neg h]
    exact ⟨fun _ => h, fun _ => rfl⟩
section GXI
variable {p : Program} {l : Launch} {e : Env} {R : Room} {s : State} {m : MethodId} {args : Array Value} {below : List Frame} {meth : Method} {c : Code} {H : Heap} {locs : List Loc} {cells slots : Nat} {Q : State → Prop}
variable {cc : ByteArray} {pc : Nat} {ls : Array Slot} {rest : List Value}
theorem gx_ifb_eq (hexec : p.tables.exec = Jvm.exec) (hb : c.code = cc) {q : Prop} [Decidable q] {off : Int} {tgt : Nat} (hdg : decode cc pc = .ok (.ifCond .eq off, 3)) (ht : (pc : Int) + off = (tgt : Int)) (kt : ¬ q → W p l e R s m args below meth c H locs cells slots Q (F0 m tgt ls rest)) (kf : q → W p l e R s m args below meth c H locs cells slots Q (F0 m (pc + 3) ls rest)) : W p l e R s m args below meth c H locs cells slots Q (F0 m pc ls (.int (if q then nI 1 else nI 0) :: rest)) :=
  lv_if_eq hexec hb hdg ht (fun h => kt (gx_ite0.mp h)) (fun h => kf (Classical.byContradiction fun z => h (gx_ite0.mpr z)))
theorem gx_ifb_ne (hexec : p.tables.exec = Jvm.exec) (hb : c.code = cc) {q : Prop} [Decidable q] {off : Int} {tgt : Nat} (hdg : decode cc pc = .ok (.ifCond .ne off, 3)) (ht : (pc : Int) + off = (tgt : Int)) (kt : q → W p l e R s m args below meth c H locs cells slots Q (F0 m tgt ls rest)) (kf : ¬ q → W p l e R s m args below meth c H locs cells slots Q (F0 m (pc + 3) ls rest)) : W p l e R s m args below meth c H locs cells slots Q (F0 m pc ls (.int (if q then nI 1 else nI 0) :: rest)) :=
  lv_if_ne hexec hb hdg ht (fun h => kt (Classical.byContradiction fun z => h (gx_ite0.mpr z))) (fun h => kf (gx_ite0.mp h))
end GXI
theorem gx_nb {q : Prop} [Decidable q] : narrow .boolean (.int (if q then nI 1 else nI 0)) = .int (if q then nI 1 else nI 0) := by
  by_cases h : q
  · rw [if_pos h]; rfl
  · rw [if_neg h]; rfl
