/-! what a throw stands on, beside the good words -/
def tx_names : List String := ["java/lang/RuntimeException", "java/lang/Exception"]
def tx_BL (X : String) : List Cond := [.declares (Bundle.init0 "java/lang/RuntimeException"), .declares (Bundle.init0 "java/lang/Exception"), .declares (Bundle.init0 "java/lang/Throwable"), .castable X X]
def cx_ZX (A : Nat → Prop) (U : State) (H : Heap) : Prop := (vx_Zq Bundle.tN "UNASSIGNED_STACK" Bundle.steD A U H ∧ vx_Zq Bundle.tN "SUPPRESSED_SENTINEL" Bundle.listD A U H) ∧ (va_Nw (.declares (Bundle.init0 "java/lang/RuntimeException")) U ∧ va_Nw (.declares (Bundle.init0 "java/lang/Exception")) U ∧ va_Nw (.declares (Bundle.init0 "java/lang/Throwable")) U) ∧ va_Nw (.castable "java/lang/IllegalArgumentException" "java/lang/IllegalArgumentException") U ∧ va_Nw (.castable "java/lang/IndexOutOfBoundsException" "java/lang/IndexOutOfBoundsException") U ∧ va_Nc "java/lang/IllegalArgumentException" "java/lang/IndexOutOfBoundsException" U
theorem cx_okX {A : Nat → Prop} : gx_ok A (cx_ZX A) := fun _ _ _ _ hW hq h => ⟨⟨(vx_Zq.moved hW.alike h.1.1).kept hq, (vx_Zq.moved hW.alike h.1.2).kept hq⟩, ⟨va_Nw.warmD hW h.2.1.1, va_Nw.warmD hW h.2.1.2.1, va_Nw.warmD hW h.2.1.2.2⟩, va_Nw.warmC hW h.2.2.1, va_Nw.warmC hW h.2.2.2.1, va_Nc.moved hW.alike h.2.2.2.2⟩
theorem cx_ZX.narrow {A B : Nat → Prop} {U : State} {H : Heap} (h : cx_ZX A U H) (hAB : ∀ q, B q → A q) : cx_ZX B U H := ⟨⟨h.1.1.narrow hAB, h.1.2.narrow hAB⟩, h.2⟩
theorem cx_Zt.narrow {A B : Nat → Prop} {n : String} {f : Nat → Nat} {U : State} {H : Heap} (h : cx_Zt A n f U H) (hAB : ∀ q, B q → A q) : cx_Zt B n f U H := by
  obtain ⟨t, h1, h2⟩ := h
  exact ⟨t, h1.narrow hAB, h2.narrow hAB⟩
theorem cx_Z.narrow {A B : Nat → Prop} {U : State} {H : Heap} (h : cx_Z A U H) (hAB : ∀ q, B q → A q) : cx_Z B U H := ⟨h.1.narrow hAB, h.2.1.narrow hAB, h.2.2.1.narrow hAB, h.2.2.2⟩
theorem tx_B {A : Nat → Prop} {s : State} {H : Heap} {X : String} (h : cx_ZX A s H) (hc : va_Nw (.castable X X) s) (args : Array Value) : ∀ w ∈ tx_BL X, w.before args s = true := vx_c (va_Nw.use rfl h.2.1.1) (vx_c (va_Nw.use rfl h.2.1.2.1) (vx_c (va_Nw.use rfl h.2.1.2.2) (vx_c (va_Nw.use rfl hc) vx_n)))

theorem tx_gA : ∀ w ∈ (vx_at0 "MessageCrossbar" 54 "java/lang/IllegalArgumentException" tx_names).filter goodWord, w ∈ mx_T := by
  have h : ((vx_at0 "MessageCrossbar" 54 "java/lang/IllegalArgumentException" tx_names).filter goodWord).all (fun w => mx_T.contains w) = true := by decide +kernel
  intro w hw
  have := List.all_eq_true.mp h w hw
  exact List.contains_iff_mem.mp this
theorem tx_nA : ∀ w ∈ (vx_at0 "MessageCrossbar" 54 "java/lang/IllegalArgumentException" tx_names).filter (fun w => !goodWord w), w ∈ tx_BL "java/lang/IllegalArgumentException" := by
  have h : ((vx_at0 "MessageCrossbar" 54 "java/lang/IllegalArgumentException" tx_names).filter (fun w => !goodWord w)).all (fun w => (tx_BL "java/lang/IllegalArgumentException").contains w) = true := by decide +kernel
  intro w hw
  have := List.all_eq_true.mp h w hw
  exact List.contains_iff_mem.mp this
theorem tx_oA (ik : Nat) : ∀ w ∈ Cond.classLink "MessageCrossbar" ik "java/lang/IllegalArgumentException" :: Cond.initialized "java/lang/IllegalArgumentException" :: vx_at0 "MessageCrossbar" 54 "java/lang/IllegalArgumentException" tx_names, vx_ot w = true := by
  have h : (vx_at0 "MessageCrossbar" 54 "java/lang/IllegalArgumentException" tx_names).all vx_ot = true := by decide +kernel
  intro w hw
  rcases List.mem_cons.mp hw with rfl | hw
  · rfl
  · rcases List.mem_cons.mp hw with rfl | hw
    · rfl
    · exact List.all_eq_true.mp h w hw

theorem tx_gO : ∀ w ∈ (vx_at0 "MessageCrossbar" 119 "java/lang/IndexOutOfBoundsException" tx_names).filter goodWord, w ∈ mx_T := by
  have h : ((vx_at0 "MessageCrossbar" 119 "java/lang/IndexOutOfBoundsException" tx_names).filter goodWord).all (fun w => mx_T.contains w) = true := by decide +kernel
  intro w hw
  have := List.all_eq_true.mp h w hw
  exact List.contains_iff_mem.mp this
theorem tx_nO : ∀ w ∈ (vx_at0 "MessageCrossbar" 119 "java/lang/IndexOutOfBoundsException" tx_names).filter (fun w => !goodWord w), w ∈ tx_BL "java/lang/IndexOutOfBoundsException" := by
  have h : ((vx_at0 "MessageCrossbar" 119 "java/lang/IndexOutOfBoundsException" tx_names).filter (fun w => !goodWord w)).all (fun w => (tx_BL "java/lang/IndexOutOfBoundsException").contains w) = true := by decide +kernel
  intro w hw
  have := List.all_eq_true.mp h w hw
  exact List.contains_iff_mem.mp this
theorem tx_oO (ik : Nat) : ∀ w ∈ Cond.classLink "MessageCrossbar" ik "java/lang/IndexOutOfBoundsException" :: Cond.initialized "java/lang/IndexOutOfBoundsException" :: vx_at0 "MessageCrossbar" 119 "java/lang/IndexOutOfBoundsException" tx_names, vx_ot w = true := by
  have h : (vx_at0 "MessageCrossbar" 119 "java/lang/IndexOutOfBoundsException" tx_names).all vx_ot = true := by decide +kernel
  intro w hw
  rcases List.mem_cons.mp hw with rfl | hw
  · rfl
  · rcases List.mem_cons.mp hw with rfl | hw
    · rfl
    · exact List.all_eq_true.mp h w hw

abbrev tx_P (D : va_G) (K : Nat → ClassId) (ad : Nat → Nat) (σ : Nat → Nat → Int32) (τ : Nat → Nat → Int64) : State → Prop := gx_P D mx_cl (mx_tys K) (cx_E ad K) ad 70 (cx_ZX (gx_A ad 70)) σ τ
abbrev tx_X (D : va_G) (K : Nat → ClassId) (ad : Nat → Nat) (X : String) (σ : Nat → Nat → Int32) (τ : Nat → Nat → Int64) : String → State → State → Prop := vx_X (fun u : gx_U => u = (σ, τ)) (fun E u t => E = X ∧ gx_B D mx_cl (cx_E ad K) ad 70 u t) (gx_A ad 70)
abbrev tx_no : Array Value → State → Outcome → State → Prop := va_Qi (fun _ (_ : Unit) => False) (fun _ _ => True) (fun _ => False)
/-- a contract that may throw is opened -/
theorem tx_met {l : Launch} {y : MethodName} {ws ws' : List Cond} {rm : Room} {av : List Value} {B : State → Prop} {Qc : Array Value → State → Outcome → State → Prop} {XC : String → State → State → Prop} {mc ms : Nat} {free : Addr → Prop} {cc : ByteArray} {maxL : Nat} {ret : Option FieldType}
    (hy : plainName y.cls = true) (hw : ws = Cond.code y cc maxL ret :: ws') (hlen : (lg_sl av).length ≤ maxL)
    (body : ∀ (p : Program) (e : Env) (s : State) (m : MethodId) (args : Array Value) (below : List Frame) (meth : Method) (c : Code) (ls : Array Slot), p.tables.exec = Jvm.exec → c.code = cc → meth.sig.returnType = ret → c.maxLocals = maxL → (∀ w ∈ ws', w.before args s = true) → s.vm.findClass y.cls = some m.cls → meth.locks = false → (∀ x ∈ c.exceptionTable.toList, False) → args = av.toArray → B s → lv_has ls maxL (lv_args 0 av) →
      W p l e (headSpec ws rm).room s m args below meth c s.heap [] 0 0 (vx_MQ below Qc XC args s mc ms free) (F0 m 0 ls [])) : vx_Met l y ws rm (va_Pc av B) Qc XC mc ms free := by
  refine vx_ofW (cc := cc) (maxL := maxL) (ret := ret) hy hw ?_
  intro p e s m args below meth c s₁ B' hml hno hv
  obtain ⟨ha, hB⟩ := hv
  have hts := atoms_spec (ws := ws) B'.pre
  have hown : s.vm.findClass y.cls = some m.cls := findClass_of_methodNamed B'.named
  have hl := lv_entry av (n := maxL) hlen
  have hE : entryFrame m args maxL = F0 m 0 ((lg_sl av ++ List.replicate (maxL - (lg_sl av).length) Slot.unset).toArray) [] := by rw [ha]; exact lg_entry_eq m av maxL
  rw [hE]
  exact body p e s m args below meth c _ B'.exec B'.bytes B'.returns hml (fun w h => hts w (by rw [hw]; exact List.mem_cons_of_mem _ h)) hown B'.notSynchronized hno ha hB hl
section TX
variable {p : Program} {l : Launch} {e : Env} {R : Room} {s : State} {m : MethodId} {args : Array Value} {below : List Frame} {meth : Method} {c : Code} {H : Heap} {locs : List Loc} {Q : State → Prop}
variable {cc : ByteArray} {pc : Nat} {ls : Array Slot} {D : va_G} {K : Nat → ClassId} {ad : Nat → Nat} {σ : Nat → Nat → Int32} {τ : Nat → Nat → Int64}
theorem tx_lost (hV : gx_V D mx_cl (mx_tys K) (cx_E ad K) ad 70 σ τ s H) (hS : va_S (gx_A ad 70) s.heap H locs) {X : String} : ∀ t : State, s.vm.Alike t.vm → H.size ≤ t.heap.size → (∀ q : Nat, q < H.size → t.heap[q]? = H[q]?) → tx_X D K ad X σ τ X s t := fun t _ h1 h2 => ⟨(σ, τ), rfl, ⟨rfl, hV.1.kept (fun k q hq => h2 q.1 (hV.1 k q hq).lt)⟩, ⟨Nat.le_trans hS.1 h1, fun q hq hA => by rw [h2 q (Nat.lt_of_lt_of_le hq hS.1)]; exact hS.2.1 q hq hA⟩⟩

theorem tx_throwA (hexec : p.tables.exec = Jvm.exec) (hb : c.code = cc) (hlt : l.stackTraces = false) (hown : s.vm.findClass "MessageCrossbar" = some m.cls) (ht : ∀ w ∈ mx_T, w.before args s = true) (hV : gx_V D mx_cl (mx_tys K) (cx_E ad K) ad 70 σ τ s H) (hZ : cx_ZX (gx_A ad 70) s s.heap) (hS : va_S (gx_A ad 70) s.heap H locs) (hsize : ls.size = c.maxLocals)
    (d0 : decode cc pc = .ok (.new 52, 3)) (d3 : decode cc (pc + 3) = .ok (.dup, 1)) (d4 : decode cc (pc + 4) = .ok (.invokespecial 54, 3)) (d7 : decode cc (pc + 7) = .ok (.athrow, 1)) (hno : ∀ x ∈ c.exceptionTable.toList, False) (hR : 5 < R.frames ∧ 81 ≤ R.locals ∧ 1 ≤ R.cells ∧ 6 ≤ R.slots) (hlocks : meth.locks = false) {Qc : Array Value → State → Outcome → State → Prop} :
    W p l e R s m args below meth c H locs 0 0 (vx_MQ below Qc (tx_X D K ad "java/lang/IllegalArgumentException" σ τ) args s 1 6 (gx_A ad 70)) (F0 m pc ls []) :=
  vx_throw0 (names := tx_names) (A := gx_A ad 70) hexec hb hlt hown (by decide) (by decide) (ht _ mw_181) (ht _ mw_10) (vx_hat (fun w hw => ht w (tx_gA w hw)) tx_nA (tx_B hZ hZ.2.2.1 args)) (tx_oA 52) hZ.1.1 hZ.1.2 hS hsize d0 d3 d4 d7 (fun x hx => (hno x hx).elim) hR.1 (by have := hR.2.1; show 0 + (13 * (2 + 1) + 42) ≤ _; omega) (by have := hR.2.2.1; omega) (by have := hR.2.2.2; omega) hlocks (tx_lost hV hS) hS.2.2 (Nat.le_refl _) (Nat.le_refl _)

theorem tx_throwO (hexec : p.tables.exec = Jvm.exec) (hb : c.code = cc) (hlt : l.stackTraces = false) (hown : s.vm.findClass "MessageCrossbar" = some m.cls) (ht : ∀ w ∈ mx_T, w.before args s = true) (hV : gx_V D mx_cl (mx_tys K) (cx_E ad K) ad 70 σ τ s H) (hZ : cx_ZX (gx_A ad 70) s s.heap) (hS : va_S (gx_A ad 70) s.heap H locs) (hsize : ls.size = c.maxLocals)
    (d0 : decode cc pc = .ok (.new 117, 3)) (d3 : decode cc (pc + 3) = .ok (.dup, 1)) (d4 : decode cc (pc + 4) = .ok (.invokespecial 119, 3)) (d7 : decode cc (pc + 7) = .ok (.athrow, 1)) (hno : ∀ x ∈ c.exceptionTable.toList, False) (hR : 5 < R.frames ∧ 81 ≤ R.locals ∧ 1 ≤ R.cells ∧ 6 ≤ R.slots) (hlocks : meth.locks = false) {Qc : Array Value → State → Outcome → State → Prop} :
    W p l e R s m args below meth c H locs 0 0 (vx_MQ below Qc (tx_X D K ad "java/lang/IndexOutOfBoundsException" σ τ) args s 1 6 (gx_A ad 70)) (F0 m pc ls []) :=
  vx_throw0 (names := tx_names) (A := gx_A ad 70) hexec hb hlt hown (by decide) (by decide) (ht _ mw_429) (ht _ mw_12) (vx_hat (fun w hw => ht w (tx_gO w hw)) tx_nO (tx_B hZ hZ.2.2.2.1 args)) (tx_oO 117) hZ.1.1 hZ.1.2 hS hsize d0 d3 d4 d7 (fun x hx => (hno x hx).elim) hR.1 (by have := hR.2.1; show 0 + (13 * (2 + 1) + 42) ≤ _; omega) (by have := hR.2.2.1; omega) (by have := hR.2.2.2; omega) hlocks (tx_lost hV hS) hS.2.2 (Nat.le_refl _) (Nat.le_refl _)

end TX
