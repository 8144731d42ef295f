/-! making objects: the cells come one behind the other, from a on -/
def nx_ok (a : Nat) (ws : va_W) : Prop := ∀ (k : Nat) (q : Nat × va_E), ws[k]? = some q → q.1 = a + k
theorem nx_ok.D {a : Nat} {ws : va_W} (h : nx_ok a ws) : va_D (fun q => a ≤ q) ws :=
  ⟨fun i j p q hp hq e => by have h1 := h i p hp; have h2 := h j q hq; omega, fun k q hk => by have h1 := h k q hk; show a ≤ q.1; omega⟩
theorem nx_ok.set {a : Nat} {ws : va_W} (h : nx_ok a ws) {j x : Nat} {e e0 : va_E} (hj : ws[j]? = some (x, e0)) : nx_ok a (ws.set j (x, e)) := by
  intro k q hk
  by_cases hkj : k = j
  · subst hkj
    rw [List.getElem?_set_self (List.getElem?_eq_some_iff.mp hj).1] at hk
    cases hk
    exact h k (x, e0) hj
  · rw [List.getElem?_set_ne (Ne.symm hkj)] at hk
    exact h k q hk
theorem nx_ok.app {a : Nat} {ws ws' : va_W} (h : nx_ok a ws) (h' : nx_ok (a + ws.length) ws') : nx_ok a (ws ++ ws') := by
  intro k q hk
  by_cases hl : k < ws.length
  · rw [List.getElem?_append_left hl] at hk
    exact h k q hk
  · rw [List.getElem?_append_right (by omega)] at hk
    have := h' _ q hk
    omega
theorem nx_ok.one {a : Nat} {e : va_E} : nx_ok a [(a, e)] := by
  intro k q hk
  have hz : k < 1 := (List.getElem?_eq_some_iff.mp hk).1
  have : k = 0 := by omega
  subst this
  cases hk
  rfl
theorem nx_ok.nil {a : Nat} : nx_ok a [] := fun k q hk => by simp at hk
theorem nx_ok.cons {a : Nat} {ws : va_W} {e : va_E} (h : nx_ok (a + 1) ws) : nx_ok a ((a, e) :: ws) := nx_ok.app (ws := [(a, e)]) nx_ok.one h
theorem nx_ok.push {a : Nat} {ws : va_W} (h : nx_ok a ws) {e : va_E} : nx_ok a (ws ++ [(a + ws.length, e)]) := h.app .one
theorem nx_q {D : va_G} {cl : List vw_C} {a q : Nat} {ws : va_W} {e : va_E} {H1 : Heap} (hO : nx_ok a ws) (hP : va_P D cl (ws ++ [(q, e)]) H1) (hD : va_D (fun q => a ≤ q) (ws ++ [(q, e)])) (hz : H1.size ≤ a + ws.length + 1) : q = a + ws.length := by
  have hl : (ws ++ [(q, e)])[ws.length]? = some (q, e) := by simp
  have h1 : q < H1.size := (hP _ _ hl).lt
  have h2 : a ≤ q := hD.2 _ _ hl
  by_cases h : q < a + ws.length
  · obtain ⟨x, hx⟩ : ∃ x, ws[q - a]? = some x := ⟨ws[q - a]'(by omega), List.getElem?_eq_getElem _⟩
    have h3 := hO _ _ hx
    have h4 : (ws ++ [(q, e)])[q - a]? = some x := by rw [List.getElem?_append_left (by omega)]; exact hx
    have h5 := hD.1 _ _ _ _ h4 hl (by show x.1 = q; omega)
    omega
  · omega
theorem nx_RA {U : State} {cA cB : ClassId} {ty : FieldType} (h1 : va_RA U cA ty) (h2 : va_RA U cB ty) : cA = cB := by
  cases ty with
  | object C =>
    obtain ⟨_, _, -, -, -, e1⟩ := h1
    obtain ⟨_, _, -, -, -, e2⟩ := h2
    exact Option.some.inj (e1.symm.trans e2)
  | _ => exact Option.some.inj (h1.symm.trans h2)
section NX
variable {p : Program} {l : Launch} {e : Env} {R : Room} {s : State} {m : MethodId} {args : Array Value} {below : List Frame} {meth : Method} {c : Code} {H H0 : Heap} {locs : List Loc} {cells slots : Nat} {Q : State → Prop}
variable {cc : ByteArray} {pc : Nat} {ls : Array Slot} {rest : List Value} {D : va_G} {cl : List vw_C} {tys : List (ClassId × FieldType)} {a : Nat} {ws : va_W}
theorem nx_sz {g : JFrame} (kk : H.size ≤ s.heap.size + cells → W p l e R s m args below meth c H locs cells slots Q g) : W p l e R s m args below meth c H locs cells slots Q g := fun T hT X => kk (by have h1 := X.same.2.2.1; rw [← hT]; exact h1) T hT X
theorem nx_newa (hexec : p.tables.exec = Jvm.exec) (hb : c.code = cc) {atype : ArrayType} (harr : (Cond.arrayClass (newarray.typeOf atype)).before args s = true) {ty : FieldType} (hty : newarray.typeOf atype = ty) (hK : va_K D cl tys s) (t0 : Nat) {cT : ClassId} (ht : tys[t0]? = some (cT, ty)) (hP : va_P D cl ws H) (hO : nx_ok a ws) (hS : va_S (fun q => a ≤ q) H0 H locs) (hA : a ≤ H0.size) (hcnt : s.heap.size + cells = a + ws.length)
    {n : Int32} {N' : Nat} {a0 : vp_A} (ha : ∀ cA : ClassId, vp_cell cA a0 = arrV cA N' (fun _ => defaultValue ty)) (hn : ¬ n < 0) (hN : n.toNatClampNeg = N') (hbytes : N' * componentBytes ty ≤ 536870912) (hcells : cells + 1 ≤ R.cells) (hslots : slots + N' ≤ R.slots) (hdg : decode cc pc = .ok (.newarray atype, 2))
    (kk : ∀ (H1 : Heap), va_P D cl (ws ++ [(a + ws.length, .inl (cT, a0))]) H1 → nx_ok a (ws ++ [(a + ws.length, .inl (cT, a0))]) → va_S (fun q => a ≤ q) H0 H1 locs →
      W p l e R s m args below meth c H1 locs (cells + 1) (slots + N') Q (F0 m (pc + 2) ls (.ref (a + ws.length) :: rest))) : W p l e R s m args below meth c H locs cells slots Q (F0 m pc ls (.int n :: rest)) :=
  va_newa hexec hb harr hty hK hP hO.D hS (fun q h => Nat.le_trans hA h) ha hn hN hbytes hcells hslots hdg (fun q cA H1 hK1 hP1 hD1 hS1 => nx_sz (fun hz => by
    have hq := nx_q hO hP1 hD1 (by omega)
    have h1 := (hK1.2 t0 (cT, ty) (by rw [List.getElem?_append_left (List.getElem?_eq_some_iff.mp ht).1]; exact ht)).2
    have h2 := (hK1.2 tys.length (cA, ty) (by simp)).2
    have hc := nx_RA h1 h2
    subst hq
    subst hc
    exact kk H1 hP1 hO.push hS1))
theorem nx_newq (hexec : p.tables.exec = Jvm.exec) (hb : c.code = cc) {own C : String} {index : Nat} (hown : s.vm.findClass own = some m.cls) (hclink : (Cond.classLink own index C).before args s = true) (hover : va_AO C s) (hK : va_K D cl tys s) (t0 : Nat) {cT : ClassId} (ht : tys[t0]? = some (cT, .object C)) (hP : va_P D cl ws H) (hO : nx_ok a ws) (hS : va_S (fun q => a ≤ q) H0 H locs) (hA : a ≤ H0.size) (hcnt : s.heap.size + cells = a + ws.length)
    {n : Int32} {N' : Nat} (hn : ¬ n < 0) (hN : n.toNatClampNeg = N') (hbytes : N' * 4 ≤ 536870912) (hcells : cells + 1 ≤ R.cells) (hslots : slots + N' ≤ R.slots) (hdg : decode cc pc = .ok (.anewarray index, 3))
    (kk : ∀ (H1 : Heap), va_P D cl (ws ++ [(a + ws.length, .inl (cT, N', .inr (.inr (.inr (.inr (fun _ => none))))))]) H1 → nx_ok a (ws ++ [(a + ws.length, .inl (cT, N', .inr (.inr (.inr (.inr (fun _ => none))))))]) → va_S (fun q => a ≤ q) H0 H1 locs →
      W p l e R s m args below meth c H1 locs (cells + 1) (slots + N') Q (F0 m (pc + 3) ls (.ref (a + ws.length) :: rest))) : W p l e R s m args below meth c H locs cells slots Q (F0 m pc ls (.int n :: rest)) :=
  va_newq hexec hb hown hclink hover hK hP hO.D hS (fun q h => Nat.le_trans hA h) hn hN hbytes hcells hslots hdg (fun q cA H1 hK1 hP1 hD1 hS1 => nx_sz (fun hz => by
    have hq := nx_q hO hP1 hD1 (by omega)
    have h1 := (hK1.2 t0 (cT, .object C) (by rw [List.getElem?_append_left (List.getElem?_eq_some_iff.mp ht).1]; exact ht)).2
    have h2 := (hK1.2 tys.length (cA, .object C) (by simp)).2
    have hc := nx_RA h1 h2
    subst hq
    subst hc
    exact kk H1 hP1 hO.push hS1))
theorem nx_new (hexec : p.tables.exec = Jvm.exec) (hb : c.code = cc) {own C : String} {T : u_T} {N ci index : Nat} {Ts : List Cond} (hts : ∀ w ∈ Ts, w.before args s = true) (hin : ∀ w ∈ u_ws C T N, w ∈ Ts) (ty : Nat → FieldType) (hty : ∀ k, k < N → parseFieldDescriptor (T k).2.2.1 = some (ty k)) (hown : s.vm.findClass own = some m.cls) (hcl : (Cond.classLink own index C).before args s = true) (hinst : (Cond.instantiable C N).before args s = true) (hini : (Cond.initialized C).before args s = true)
    (hK : va_K D cl tys s) (hP : va_P D cl ws H) (hO : nx_ok a ws) (hS : va_S (fun q => a ≤ q) H0 H locs) (hA : a ≤ H0.size) (hcnt : s.heap.size + cells = a + ws.length) (hc : cl[ci]? = some (C, T, N)) {fs : List Value} (hfs : ∀ j, j < N → defaultValue (ty j) = vp_V fs j) (hcells : cells + 1 ≤ R.cells) (hslots : slots + N ≤ R.slots) (hdg : decode cc pc = .ok (.new index, 3))
    (kk : ∀ (H1 : Heap), va_P D cl (ws ++ [(a + ws.length, .inr (ci, fs))]) H1 → nx_ok a (ws ++ [(a + ws.length, .inr (ci, fs))]) → va_S (fun q => a ≤ q) H0 H1 locs →
      W p l e R s m args below meth c H1 locs (cells + 1) (slots + N) Q (F0 m (pc + 3) ls (.ref (a + ws.length) :: rest))) : W p l e R s m args below meth c H locs cells slots Q (F0 m pc ls rest) :=
  va_new hexec hb hts hin ty hty hown hcl hinst hini hK hP hO.D hS (fun q h => Nat.le_trans hA h) hc hfs hcells hslots hdg (fun q H1 hP1 hD1 hS1 => nx_sz (fun hz => by
    have hq := nx_q hO hP1 hD1 (by omega)
    subst hq
    exact kk H1 hP1 hO.push hS1))
end NX
/-- a constructor's start: its object is the newest cell -/
def nx_P (D : va_G) (K : Nat → ClassId) (Z : State → Prop) (b : Nat) (e0 : va_E) (U : State) : Prop := va_P D mx_cl [(b, e0)] U.heap ∧ va_K D mx_cl (mx_tys K) U ∧ U.heap.size = b + 1 ∧ Z U
def nx_warm (Z : State → Prop) : Prop := ∀ U U' : State, U.WarmedH U'.vm → Z U → Z U'
theorem nx_blind {D : va_G} {K : Nat → ClassId} {Z : State → Prop} (hZ : nx_warm Z) {b : Nat} {e0 : va_E} (av : List Value) : FrameBlind (va_Pc av (nx_P D K Z b e0)) := fun a U g mk q => ⟨q.1, q.2.1, va_K.moved (u := U) (U := U.calling g mk a) (Vm.Alike.refl U.vm) q.2.2.1, q.2.2.2.1, hZ U (U.calling g mk a) (State.WarmedH.refl U) q.2.2.2.2⟩
abbrev nx_Q (D : va_G) (b : Nat) (ws1 : va_W) : Array Value → State → Outcome → State → Prop := va_Qv (fun _ : Unit => True) (fun _ t => va_P D mx_cl ws1 t.heap) (fun q => b ≤ q)
section NXC
variable {p : Program} {l : Launch} {e : Env} {R : Room} {s : State} {m : MethodId} {args : Array Value} {below : List Frame} {meth : Method} {c : Code} {H : Heap} {locs : List Loc} {cells slots mc ms : Nat} {Q : State → Prop}
variable {cc : ByteArray} {pc : Nat} {ls : Array Slot} {rest st0 : List Value} {D : va_G} {K : Nat → ClassId} {a : Nat} {ws0 ws1 : va_W} {e0 : va_E} {aa : Array Value}
theorem nx_pre {Z : State → Prop} (hZw : nx_warm Z) (hZ : Z s) (hK : va_K D mx_cl (mx_tys K) s) (hP : va_P D mx_cl (ws0 ++ [(a + ws0.length, e0)]) H) (hz : H.size = a + ws0.length + 1) (As : List Value) : PreS s H (va_Pc (.ref (a + ws0.length) :: As) (nx_P D K Z (a + ws0.length) e0)) (.ref (a + ws0.length) :: As) :=
by
  refine ⟨nx_blind hZw _, fun U hU hW => ⟨rfl, ?_, va_K.moved hW.alike hK, by rw [hU]; exact hz, hZw s U hW hZ⟩⟩
  rw [hU]
  intro k q hk
  have h1 : k < 1 := (List.getElem?_eq_some_iff.mp hk).1
  have h0 : k = 0 := by omega
  subst h0
  cases hk
  exact hP ws0.length _ (by simp)
theorem nx_full (hP : va_P D mx_cl (ws0 ++ [(a + ws0.length, e0)]) H) (hcnt : s.heap.size + cells = a + ws0.length + 1) (kk : H.size = a + ws0.length + 1 → W p l e R s m args below meth c H locs cells slots Q (F0 m pc ls st0)) : W p l e R s m args below meth c H locs cells slots Q (F0 m pc ls st0) :=
  nx_sz (fun hz => kk (by
    have h1 : a + ws0.length < H.size := (hP ws0.length (a + ws0.length, e0) (by simp)).lt
    omega))
theorem nx_callv (hr : va_Run p l e R s m args below meth c H locs cells slots mc ms (F0 m pc ls st0) rest (nx_Q D (a + ws0.length) ws1 aa) (fun q => a + ws0.length ≤ q)) (hP : va_P D mx_cl (ws0 ++ [(a + ws0.length, e0)]) H) (hO : nx_ok a (ws0 ++ [(a + ws0.length, e0)])) (hO1 : nx_ok (a + ws0.length) ws1) {H0 : Heap} (hS : va_S (fun q => a ≤ q) H0 H locs)
    (kk : ∀ (H1 : Heap) (locs1 : List Loc), va_P D mx_cl (ws0 ++ ws1) H1 → nx_ok a (ws0 ++ ws1) → va_S (fun q => a ≤ q) H0 H1 locs1 → W p l e R s m args below meth c H1 locs1 (cells + mc) (slots + ms) Q (F0 m (pc + 3) ls rest)) : W p l e R s m args below meth c H locs cells slots Q (F0 m pc ls st0) :=
  va_callv hr hS (fun _ _ h => by omega) (fun _ h => by omega) (fun u t H1 locs1 ht _ _ hB _ hk hS1 => by
    have h0 : va_P D mx_cl ws0 H := fun k q hq => hP k q (by rw [List.getElem?_append_left (List.getElem?_eq_some_iff.mp hq).1]; exact hq)
    have o0 : nx_ok a ws0 := fun k q hq => hO k q (by rw [List.getElem?_append_left (List.getElem?_eq_some_iff.mp hq).1]; exact hq)
    refine kk H1 locs1 (va_P.app (h0.kept (fun k q hq => hk q.1 (h0 k q hq).lt ?_)) (by rw [← ht]; exact hB)) (o0.app hO1) hS1
    have h1 := o0 k q hq
    have h2 := (List.getElem?_eq_some_iff.mp hq).1
    omega)
end NXC
/-- a constructor is opened -/
theorem nx_vret {p : Program} {l : Launch} {e : Env} {R : Room} {s : State} {m : MethodId} {args : Array Value} {below : List Frame} {meth : Method} {c : Code} {H : Heap} {locs : List Loc} {cells slots : Nat} {cc : ByteArray} {pc : Nat} {ls : Array Slot} {D : va_G} {b : Nat} {ws1 : va_W} (hexec : p.tables.exec = Jvm.exec) (hb : c.code = cc) (hr : meth.sig.returnType = none) (hP : va_P D mx_cl ws1 H) (hS : va_S (fun q => b ≤ q) s.heap H locs) (hdg : decode cc pc = .ok (.return_, 1)) (hlk : meth.locks = false) :
    W p l e R s m args below meth c H locs cells slots (MQ below (nx_Q D b ws1) args s cells slots (fun q => b ≤ q)) (F0 m pc ls []) :=
  W.vret hexec hb hr (fun t ht _ => ⟨⟨(), rfl, trivial, by show va_P D mx_cl ws1 t.heap; rw [ht]; exact hP⟩, hS.F ht⟩) hS.2.2 hdg hlk
theorem nx_w0 : nx_warm (fun _ => True) := fun _ _ _ _ => trivial
