/-! worlds that are laid out by a table: cell j lies at 'ad j' and holds 'E σ τ j' (σ: ints by cell and place, τ: longs) -/
abbrev gx_L : Type := (Nat → Nat → Int32) → (Nat → Nat → Int64) → Nat → va_E
abbrev gx_U : Type := (Nat → Nat → Int32) × (Nat → Nat → Int64)
def gx_ws (E : gx_L) (ad : Nat → Nat) (N : Nat) (σ : Nat → Nat → Int32) (τ : Nat → Nat → Int64) : va_W := (List.range N).map fun j => (ad j, E σ τ j)
def gx_loc (E : gx_L) : Prop := ∀ (σ σ' : Nat → Nat → Int32) (τ τ' : Nat → Nat → Int64) (i : Nat), σ i = σ' i → τ i = τ' i → E σ τ i = E σ' τ' i
def gx_A (ad : Nat → Nat) (N : Nat) : Nat → Prop := fun q => ∃ j : Nat, j < N ∧ q = ad j
def gx_inj (ad : Nat → Nat) (N : Nat) : Prop := ∀ i j : Nat, i < N → j < N → ad i = ad j → i = j
def gx_V (D : va_G) (cl : List vw_C) (tys : List (ClassId × FieldType)) (E : gx_L) (ad : Nat → Nat) (N : Nat) (σ : Nat → Nat → Int32) (τ : Nat → Nat → Int64) (U : State) (H : Heap) : Prop := va_P D cl (gx_ws E ad N σ τ) H ∧ va_K D cl tys U ∧ gx_inj ad N
def gx_P (D : va_G) (cl : List vw_C) (tys : List (ClassId × FieldType)) (E : gx_L) (ad : Nat → Nat) (N : Nat) (Z : State → Heap → Prop) (σ : Nat → Nat → Int32) (τ : Nat → Nat → Int64) (U : State) : Prop := gx_V D cl tys E ad N σ τ U U.heap ∧ Z U U.heap
def gx_B (D : va_G) (cl : List vw_C) (E : gx_L) (ad : Nat → Nat) (N : Nat) (u : gx_U) (t : State) : Prop := va_P D cl (gx_ws E ad N u.1 u.2) t.heap
def gx_ok (A : Nat → Prop) (Z : State → Heap → Prop) : Prop := ∀ (U U' : State) (H H' : Heap), U.WarmedH U'.vm → (∀ q : Nat, q < H.size → ¬ A q → H'[q]? = H[q]?) → Z U H → Z U' H'
def gx_upL (τ : Nat → Nat → Int64) (j k : Nat) (v : Int64) : Nat → Nat → Int64 := fun i q => if i = j ∧ q = k then v else τ i q
theorem gx_upL_s {τ : Nat → Nat → Int64} {j k : Nat} {v : Int64} : gx_upL τ j k v j k = v := by simp [gx_upL]
theorem gx_upL_J {τ : Nat → Nat → Int64} {j k i : Nat} {v : Int64} (h : i ≠ j) : gx_upL τ j k v i = τ i := by funext q; simp [gx_upL, h]
section GXA
variable {E : gx_L} {ad : Nat → Nat} {N : Nat} {σ σ' : Nat → Nat → Int32} {τ τ' : Nat → Nat → Int64}
theorem gx_at {j : Nat} (hj : j < N) {e : va_E} (he : E σ τ j = e) : (gx_ws E ad N σ τ)[j]? = some (ad j, e) := by
  unfold gx_ws
  rw [List.getElem?_map, List.getElem?_range hj, ← he]
  rfl
theorem gx_of {k : Nat} {q : Nat × va_E} (h : (gx_ws E ad N σ τ)[k]? = some q) : k < N ∧ q = (ad k, E σ τ k) := by
  unfold gx_ws at h
  have hk : k < N := by
    have := (List.getElem?_eq_some_iff.mp h).1
    simpa using this
  rw [List.getElem?_map, List.getElem?_range hk] at h
  exact ⟨hk, (Option.some.inj h).symm⟩
theorem gx_len : (gx_ws E ad N σ τ).length = N := by simp [gx_ws]
theorem gx_set (hE : gx_loc E) {j : Nat} (hj : j < N) {e : va_E} (he : E σ' τ' j = e) (h1 : ∀ i, i ≠ j → σ' i = σ i) (h2 : ∀ i, i ≠ j → τ' i = τ i) : (gx_ws E ad N σ τ).set j (ad j, e) = gx_ws E ad N σ' τ' := by
  apply List.ext_getElem?
  intro i
  by_cases hi : i = j
  · subst hi
    rw [List.getElem?_set_self (by rw [gx_len]; exact hj), gx_at hj he]
  · rw [List.getElem?_set_ne (Ne.symm hi)]
    by_cases hN : i < N
    · rw [gx_at hN rfl, gx_at hN rfl, hE σ σ' τ τ' i (h1 i hi).symm (h2 i hi).symm]
    · rw [List.getElem?_eq_none (by rw [gx_len]; omega), List.getElem?_eq_none (by rw [gx_len]; omega)]
theorem gx_D (h : gx_inj ad N) : va_D (gx_A ad N) (gx_ws E ad N σ τ) := by
  refine ⟨fun i j p q hp hq e => ?_, fun k q hk => ?_⟩
  · obtain ⟨a1, rfl⟩ := gx_of hp
    obtain ⟨a2, rfl⟩ := gx_of hq
    exact h i j a1 a2 e
  · obtain ⟨a1, rfl⟩ := gx_of hk
    exact ⟨k, a1, rfl⟩
end GXA
section GXR
variable {p : Program} {l : Launch} {e : Env} {R : Room} {s : State} {m : MethodId} {args : Array Value} {below : List Frame} {meth : Method} {c : Code} {H : Heap} {locs : List Loc} {cells slots : Nat} {Q : State → Prop}
variable {cc : ByteArray} {pc : Nat} {ls : Array Slot} {rest : List Value} {D : va_G} {cl : List vw_C} {tys : List (ClassId × FieldType)}
variable {E : gx_L} {ad : Nat → Nat} {N : Nat} {σ : Nat → Nat → Int32} {τ : Nat → Nat → Int64} {Z : State → Heap → Prop}
theorem gx_get (hexec : p.tables.exec = Jvm.exec) (hb : c.code = cc) {own ref C : String} {T : u_T} {N' ci index : Nat} {Ts : List Cond} (hts : ∀ w ∈ Ts, w.before args s = true) (hin : ∀ w ∈ u_ws C T N', w ∈ Ts) (hown : s.vm.findClass own = some m.cls) (hV : gx_V D cl tys E ad N σ τ s H) {j : Nat} (hj : j < N) {fs : List Value} (he : E σ τ j = .inr (ci, fs)) (hc : cl[ci]? = some (C, T, N')) (k : Nat) (hk : k < N') (hlink : (Cond.fieldLink own index ref (T k).2.1 (T k).2.2.1).before args s = true) (hsame : ∀ x, s.fieldFound? (T k).1 (T k).2.1 (T k).2.2.1 = some x → s.fieldFound? ref (T k).2.1 (T k).2.2.1 = some x) {v : Value} (hv : fs[k]? = some v) (hdg : decode cc pc = .ok (.getfield index, 3))
    (kk : W p l e R s m args below meth c H locs cells slots Q (F0 m (pc + 3) ls (v :: rest))) : W p l e R s m args below meth c H locs cells slots Q (F0 m pc ls (.ref (ad j) :: rest)) :=
  va_get hexec hb hts hin hown hV.2.1 hV.1 j (gx_at hj he) hc k hk hlink hsame hv hdg kk
theorem gx_put (hE : gx_loc E) (hexec : p.tables.exec = Jvm.exec) (hb : c.code = cc) {own ref C : String} {T : u_T} {N' ci index : Nat} {Ts : List Cond} (hts : ∀ w ∈ Ts, w.before args s = true) (hin : ∀ w ∈ u_ws C T N', w ∈ Ts) (ty0 : Nat → FieldType) (hty : ∀ k, k < N' → parseFieldDescriptor (T k).2.2.1 = some (ty0 k)) (hnm : ∀ a, a < N' → ∀ b, b < N' → a ≠ b → (T a).2.1 ≠ (T b).2.1) (hown : s.vm.findClass own = some m.cls) (hV : gx_V D cl tys E ad N σ τ s H) (hS : va_S (gx_A ad N) s.heap H locs) {j : Nat} (hj : j < N) {fs : List Value} (he : E σ τ j = .inr (ci, fs)) (hc : cl[ci]? = some (C, T, N')) (k : Nat) (hk : k < N') (hlink : (Cond.fieldLink own index ref (T k).2.1 (T k).2.2.1).before args s = true) (hsame : ∀ x, s.fieldFound? (T k).1 (T k).2.1 (T k).2.2.1 = some x → s.fieldFound? ref (T k).2.1 (T k).2.2.1 = some x) (hfin : (T k).2.2.2 = false) {ty : FieldType} {v : Value} (hd : parseFieldDescriptor (T k).2.2.1 = some ty) (hn : narrow ty v = v) (hfit : fits ty v = true) (hl : k < fs.length)
    (hdg : decode cc pc = .ok (.putfield index, 3)) (σ' : Nat → Nat → Int32) (τ' : Nat → Nat → Int64) (he' : E σ' τ' j = .inr (ci, fs.set k v)) (h1 : ∀ i, i ≠ j → σ' i = σ i) (h2 : ∀ i, i ≠ j → τ' i = τ i)
    (kk : ∀ (H1 : Heap) (locs1 : List Loc), gx_V D cl tys E ad N σ' τ' s H1 → va_S (gx_A ad N) s.heap H1 locs1 → W p l e R s m args below meth c H1 locs1 cells slots Q (F0 m (pc + 3) ls rest)) : W p l e R s m args below meth c H locs cells slots Q (F0 m pc ls (v :: .ref (ad j) :: rest)) :=
  va_put hexec hb hts hin ty0 hty hnm hown hV.2.1 hV.1 (gx_D hV.2.2) hS j (gx_at hj he) hc k hk hlink hsame hfin hd hn hfit hl hdg (fun H1 locs1 hP1 _ hS1 => kk H1 locs1 ⟨by rw [gx_set hE hj he' h1 h2] at hP1; exact hP1, hV.2.1, hV.2.2⟩ hS1)
theorem gx_ia {x : Int32} {k n : Nat} (hk : k < n) (hn : n < 2 ^ 31) (hi : x = nI k) : vp_in x n ∧ x.toNatClampNeg = k := by
  subst hi
  exact ⟨vp_in_nI hk hn, nI_clamp (by omega)⟩
theorem gx_iald (hexec : p.tables.exec = Jvm.exec) (hb : c.code = cc) (hV : gx_V D cl tys E ad N σ τ s H) {j : Nat} (hj : j < N) (t0 : Nat) {cA : ClassId} {n : Nat} {f : Nat → Int32} (he : E σ τ j = .inl (cA, n, .inl f)) (ht : tys[t0]? = some (cA, .int)) {i : Int32} (k : Nat) (hk : k < n) (hn : n < 2 ^ 31) (hi : i = nI k) (hdg : decode cc pc = .ok (.iaload, 1))
    (kk : W p l e R s m args below meth c H locs cells slots Q (F0 m (pc + 1) ls (.int (f k) :: rest))) : W p l e R s m args below meth c H locs cells slots Q (F0 m pc ls (.int i :: .ref (ad j) :: rest)) := by
  obtain ⟨h1, h2⟩ := gx_ia hk hn hi
  exact va_iald hexec hb hV.2.1 hV.1 j t0 (gx_at hj he) ht h1 hdg (by rw [h2]; exact kk)
theorem gx_bald (hexec : p.tables.exec = Jvm.exec) (hb : c.code = cc) (hV : gx_V D cl tys E ad N σ τ s H) {j : Nat} (hj : j < N) (t0 : Nat) {cA : ClassId} {n : Nat} {f : Nat → Int32} (he : E σ τ j = .inl (cA, n, .inl f)) (ht : tys[t0]? = some (cA, .byte)) {i : Int32} (k : Nat) (hk : k < n) (hn : n < 2 ^ 31) (hi : i = nI k) (hdg : decode cc pc = .ok (.baload, 1))
    (kk : W p l e R s m args below meth c H locs cells slots Q (F0 m (pc + 1) ls (.int (f k) :: rest))) : W p l e R s m args below meth c H locs cells slots Q (F0 m pc ls (.int i :: .ref (ad j) :: rest)) := by
  obtain ⟨h1, h2⟩ := gx_ia hk hn hi
  exact va_bald hexec hb hV.2.1 hV.1 j t0 (gx_at hj he) ht h1 hdg (by rw [h2]; exact kk)
theorem gx_zald (hexec : p.tables.exec = Jvm.exec) (hb : c.code = cc) (hV : gx_V D cl tys E ad N σ τ s H) {j : Nat} (hj : j < N) (t0 : Nat) {cA : ClassId} {n : Nat} {f : Nat → Int32} (he : E σ τ j = .inl (cA, n, .inl f)) (ht : tys[t0]? = some (cA, .boolean)) {i : Int32} (k : Nat) (hk : k < n) (hn : n < 2 ^ 31) (hi : i = nI k) (hdg : decode cc pc = .ok (.baload, 1))
    (kk : W p l e R s m args below meth c H locs cells slots Q (F0 m (pc + 1) ls (.int (f k) :: rest))) : W p l e R s m args below meth c H locs cells slots Q (F0 m pc ls (.int i :: .ref (ad j) :: rest)) := by
  obtain ⟨h1, h2⟩ := gx_ia hk hn hi
  exact va_zald hexec hb hV.2.1 hV.1 j t0 (gx_at hj he) ht h1 hdg (by rw [h2]; exact kk)
theorem gx_lald (hexec : p.tables.exec = Jvm.exec) (hb : c.code = cc) (hV : gx_V D cl tys E ad N σ τ s H) {j : Nat} (hj : j < N) (t0 : Nat) {cA : ClassId} {n : Nat} {f : Nat → Int64} (he : E σ τ j = .inl (cA, n, .inr (.inl f))) (ht : tys[t0]? = some (cA, .long)) {i : Int32} (k : Nat) (hk : k < n) (hn : n < 2 ^ 31) (hi : i = nI k) (hdg : decode cc pc = .ok (.laload, 1))
    (kk : W p l e R s m args below meth c H locs cells slots Q (F0 m (pc + 1) ls (.long (f k) :: rest))) : W p l e R s m args below meth c H locs cells slots Q (F0 m pc ls (.int i :: .ref (ad j) :: rest)) := by
  obtain ⟨h1, h2⟩ := gx_ia hk hn hi
  exact va_lald hexec hb hV.2.1 hV.1 j t0 (gx_at hj he) ht h1 hdg (by rw [h2]; exact kk)
theorem gx_aald (hexec : p.tables.exec = Jvm.exec) (hb : c.code = cc) (hV : gx_V D cl tys E ad N σ τ s H) {j : Nat} (hj : j < N) (t0 : Nat) {cA : ClassId} {C : String} {n a : Nat} {f : Nat → Option Nat} (he : E σ τ j = .inl (cA, n, .inr (.inr (.inr (.inr f))))) (ht : tys[t0]? = some (cA, .object C)) {i : Int32} (k : Nat) (hk : k < n) (hn : n < 2 ^ 31) (hi : i = nI k) (hf : f k = some a) (hdg : decode cc pc = .ok (.aaload, 1))
    (kk : W p l e R s m args below meth c H locs cells slots Q (F0 m (pc + 1) ls (.ref a :: rest))) : W p l e R s m args below meth c H locs cells slots Q (F0 m pc ls (.int i :: .ref (ad j) :: rest)) := by
  obtain ⟨h1, h2⟩ := gx_ia hk hn hi
  exact va_aldq hexec hb hV.2.1 hV.1 j t0 (gx_at hj he) ht h1 hdg (by rw [h2, hf]; exact kk)
theorem gx_alen (hexec : p.tables.exec = Jvm.exec) (hb : c.code = cc) (hV : gx_V D cl tys E ad N σ τ s H) {j : Nat} (hj : j < N) (t0 : Nat) {cA : ClassId} {x : vp_A} (he : E σ τ j = .inl (cA, x)) {ty : FieldType} (ht : tys[t0]? = some (cA, ty)) {v : Int32} (hv : Int32.ofNat x.1 = v) (hdg : decode cc pc = .ok (.arraylength, 1))
    (kk : W p l e R s m args below meth c H locs cells slots Q (F0 m (pc + 1) ls (.int v :: rest))) : W p l e R s m args below meth c H locs cells slots Q (F0 m pc ls (.ref (ad j) :: rest)) :=
  va_alen hexec hb hV.2.1 hV.1 j t0 (gx_at hj he) ht hv hdg kk
theorem gx_iast (hE : gx_loc E) (hexec : p.tables.exec = Jvm.exec) (hb : c.code = cc) (hV : gx_V D cl tys E ad N σ τ s H) (hS : va_S (gx_A ad N) s.heap H locs) {j : Nat} (hj : j < N) (t0 : Nat) {cA : ClassId} {n : Nat} {f : Nat → Int32} (he : E σ τ j = .inl (cA, n, .inl f)) (ht : tys[t0]? = some (cA, .int)) {i x : Int32} (k : Nat) (hk : k < n) (hn : n < 2 ^ 31) (hi : i = nI k) (hdg : decode cc pc = .ok (.iastore, 1))
    (σ' : Nat → Nat → Int32) (he' : E σ' τ j = .inl (cA, n, .inl (upd f k x))) (h1 : ∀ i, i ≠ j → σ' i = σ i)
    (kk : ∀ (H1 : Heap) (locs1 : List Loc), gx_V D cl tys E ad N σ' τ s H1 → va_S (gx_A ad N) s.heap H1 locs1 → W p l e R s m args below meth c H1 locs1 cells slots Q (F0 m (pc + 1) ls rest)) : W p l e R s m args below meth c H locs cells slots Q (F0 m pc ls (.int x :: .int i :: .ref (ad j) :: rest)) := by
  obtain ⟨g1, g2⟩ := gx_ia hk hn hi
  exact va_iast hexec hb hV.2.1 hV.1 (gx_D hV.2.2) hS j t0 (gx_at hj he) ht g1 hdg (fun H1 locs1 hP1 _ hS1 => kk H1 locs1 ⟨by rw [g2, gx_set hE hj he' h1 (fun _ _ => rfl)] at hP1; exact hP1, hV.2.1, hV.2.2⟩ hS1)
theorem gx_bast (hE : gx_loc E) (hexec : p.tables.exec = Jvm.exec) (hb : c.code = cc) (hV : gx_V D cl tys E ad N σ τ s H) (hS : va_S (gx_A ad N) s.heap H locs) {j : Nat} (hj : j < N) (t0 : Nat) {cA : ClassId} {n : Nat} {f : Nat → Int32} (he : E σ τ j = .inl (cA, n, .inl f)) (ht : tys[t0]? = some (cA, .byte)) {i x : Int32} (k : Nat) (hk : k < n) (hn : n < 2 ^ 31) (hi : i = nI k) (hdg : decode cc pc = .ok (.bastore, 1))
    (σ' : Nat → Nat → Int32) (he' : E σ' τ j = .inl (cA, n, .inl (upd f k (vp_nar .byte x)))) (h1 : ∀ i, i ≠ j → σ' i = σ i)
    (kk : ∀ (H1 : Heap) (locs1 : List Loc), gx_V D cl tys E ad N σ' τ s H1 → va_S (gx_A ad N) s.heap H1 locs1 → W p l e R s m args below meth c H1 locs1 cells slots Q (F0 m (pc + 1) ls rest)) : W p l e R s m args below meth c H locs cells slots Q (F0 m pc ls (.int x :: .int i :: .ref (ad j) :: rest)) := by
  obtain ⟨g1, g2⟩ := gx_ia hk hn hi
  exact va_bast hexec hb hV.2.1 hV.1 (gx_D hV.2.2) hS j t0 (gx_at hj he) ht g1 hdg (fun H1 locs1 hP1 _ hS1 => kk H1 locs1 ⟨by rw [g2, gx_set hE hj he' h1 (fun _ _ => rfl)] at hP1; exact hP1, hV.2.1, hV.2.2⟩ hS1)
theorem gx_last (hE : gx_loc E) (hexec : p.tables.exec = Jvm.exec) (hb : c.code = cc) (hV : gx_V D cl tys E ad N σ τ s H) (hS : va_S (gx_A ad N) s.heap H locs) {j : Nat} (hj : j < N) (t0 : Nat) {cA : ClassId} {n : Nat} {f : Nat → Int64} (he : E σ τ j = .inl (cA, n, .inr (.inl f))) (ht : tys[t0]? = some (cA, .long)) {i : Int32} {x : Int64} (k : Nat) (hk : k < n) (hn : n < 2 ^ 31) (hi : i = nI k) (hdg : decode cc pc = .ok (.lastore, 1))
    (τ' : Nat → Nat → Int64) (he' : E σ τ' j = .inl (cA, n, .inr (.inl (vp_updL f k x)))) (h1 : ∀ i, i ≠ j → τ' i = τ i)
    (kk : ∀ (H1 : Heap) (locs1 : List Loc), gx_V D cl tys E ad N σ τ' s H1 → va_S (gx_A ad N) s.heap H1 locs1 → W p l e R s m args below meth c H1 locs1 cells slots Q (F0 m (pc + 1) ls rest)) : W p l e R s m args below meth c H locs cells slots Q (F0 m pc ls (.long x :: .int i :: .ref (ad j) :: rest)) := by
  obtain ⟨g1, g2⟩ := gx_ia hk hn hi
  exact va_last hexec hb hV.2.1 hV.1 (gx_D hV.2.2) hS j t0 (gx_at hj he) ht g1 hdg (fun H1 locs1 hP1 _ hS1 => kk H1 locs1 ⟨by rw [g2, gx_set hE hj he' (fun _ _ => rfl) h1] at hP1; exact hP1, hV.2.1, hV.2.2⟩ hS1)
/-! calls of a method of the same world -/
theorem gx_blind (hok : gx_ok (gx_A ad N) Z) (av : List Value) : FrameBlind (va_Pc av (gx_P D cl tys E ad N Z σ τ)) := fun a U g mk q => ⟨q.1, ⟨q.2.1.1, va_K.moved (u := U) (U := U.calling g mk a) (Vm.Alike.refl U.vm) q.2.1.2.1, q.2.1.2.2⟩, hok U (U.calling g mk a) U.heap U.heap (State.WarmedH.refl U) (fun _ _ _ => rfl) q.2.2⟩
theorem gx_into (hok : gx_ok (gx_A ad N) Z) (hV : gx_V D cl tys E ad N σ τ s H) (hZ : Z s s.heap) (hS : va_S (gx_A ad N) s.heap H locs) (U : State) (hU : U.heap = H) (hW : s.WarmedH U.vm) : gx_P D cl tys E ad N Z σ τ U :=
  ⟨⟨by rw [hU]; exact hV.1, va_K.moved hW.alike hV.2.1, hV.2.2⟩, by rw [hU]; exact hok s U s.heap H hW hS.2.1 hZ⟩
theorem gx_preV (hok : gx_ok (gx_A ad N) Z) (hV : gx_V D cl tys E ad N σ τ s H) (hZ : Z s s.heap) (hS : va_S (gx_A ad N) s.heap H locs) {j ci : Nat} {q : vw_C} {fs : List Value} (hj : j < N) (he : E σ τ j = .inr (ci, fs)) (hc : cl[ci]? = some q) (As : List Value) : PreV s H q.1 (ad j) (va_Pc (.ref (ad j) :: As) (gx_P D cl tys E ad N Z σ τ)) As :=
  ⟨gx_blind hok _, va_recv hV.2.1 hV.1 hc (gx_at hj he), fun U hU hW => ⟨rfl, gx_into hok hV hZ hS U hU hW⟩⟩
theorem gx_preS (hok : gx_ok (gx_A ad N) Z) (hV : gx_V D cl tys E ad N σ τ s H) (hZ : Z s s.heap) (hS : va_S (gx_A ad N) s.heap H locs) (As : List Value) : PreS s H (va_Pc As (gx_P D cl tys E ad N Z σ τ)) As :=
  ⟨gx_blind hok _, fun U hU hW => ⟨rfl, gx_into hok hV hZ hS U hU hW⟩⟩
variable {st0 : List Value} {a : Array Value}
theorem gx_calli {post : Int32 → gx_U → Prop} (hr : va_Run p l e R s m args below meth c H locs cells slots 0 0 (F0 m pc ls st0) rest (va_Qi post (gx_B D cl E ad N) (gx_A ad N) a) (gx_A ad N)) (hV : gx_V D cl tys E ad N σ τ s H) (hS : va_S (gx_A ad N) s.heap H locs)
    (kk : ∀ (r : Int32) (σ' : Nat → Nat → Int32) (τ' : Nat → Nat → Int64) (H1 : Heap) (locs1 : List Loc), post r (σ', τ') → gx_V D cl tys E ad N σ' τ' s H1 → va_S (gx_A ad N) s.heap H1 locs1 → W p l e R s m args below meth c H1 locs1 cells slots Q (F0 m (pc + 3) ls (.int r :: rest))) : W p l e R s m args below meth c H locs cells slots Q (F0 m pc ls st0) :=
  va_calli hr hS (fun _ _ h => h) (fun _ h => h) (fun r u t H1 locs1 ht _ hp hB _ _ hS1 => kk r u.1 u.2 H1 locs1 hp ⟨by rw [← ht]; exact hB, hV.2.1, hV.2.2⟩ hS1)
theorem gx_calll {post : Int64 → gx_U → Prop} (hr : va_Run p l e R s m args below meth c H locs cells slots 0 0 (F0 m pc ls st0) rest (va_Ql post (gx_B D cl E ad N) (gx_A ad N) a) (gx_A ad N)) (hV : gx_V D cl tys E ad N σ τ s H) (hS : va_S (gx_A ad N) s.heap H locs)
    (kk : ∀ (r : Int64) (σ' : Nat → Nat → Int32) (τ' : Nat → Nat → Int64) (H1 : Heap) (locs1 : List Loc), post r (σ', τ') → gx_V D cl tys E ad N σ' τ' s H1 → va_S (gx_A ad N) s.heap H1 locs1 → W p l e R s m args below meth c H1 locs1 cells slots Q (F0 m (pc + 3) ls (.long r :: rest))) : W p l e R s m args below meth c H locs cells slots Q (F0 m pc ls st0) :=
  va_calll hr hS (fun _ _ h => h) (fun _ h => h) (fun r u t H1 locs1 ht _ hp hB _ _ hS1 => kk r u.1 u.2 H1 locs1 hp ⟨by rw [← ht]; exact hB, hV.2.1, hV.2.2⟩ hS1)
theorem gx_callv {post : gx_U → Prop} (hr : va_Run p l e R s m args below meth c H locs cells slots 0 0 (F0 m pc ls st0) rest (va_Qv post (gx_B D cl E ad N) (gx_A ad N) a) (gx_A ad N)) (hV : gx_V D cl tys E ad N σ τ s H) (hS : va_S (gx_A ad N) s.heap H locs)
    (kk : ∀ (σ' : Nat → Nat → Int32) (τ' : Nat → Nat → Int64) (H1 : Heap) (locs1 : List Loc), post (σ', τ') → gx_V D cl tys E ad N σ' τ' s H1 → va_S (gx_A ad N) s.heap H1 locs1 → W p l e R s m args below meth c H1 locs1 cells slots Q (F0 m (pc + 3) ls rest)) : W p l e R s m args below meth c H locs cells slots Q (F0 m pc ls st0) :=
  va_callv hr hS (fun _ _ h => h) (fun _ h => h) (fun u t H1 locs1 ht _ hp hB _ _ hS1 => kk u.1 u.2 H1 locs1 hp ⟨by rw [← ht]; exact hB, hV.2.1, hV.2.2⟩ hS1)
/-- a call of a method that only counts: no cell is touched -/
theorem gx_callp {post : Int32 → Prop} (hr : va_Run p l e R s m args below meth c H locs cells slots 0 0 (F0 m pc ls st0) rest (va_Qi (fun r (_ : Unit) => post r) (fun _ _ => True) (fun _ => False) a) (fun _ => False)) (hV : gx_V D cl tys E ad N σ τ s H) (hS : va_S (gx_A ad N) s.heap H locs)
    (kk : ∀ (r : Int32) (H1 : Heap) (locs1 : List Loc), post r → gx_V D cl tys E ad N σ τ s H1 → va_S (gx_A ad N) s.heap H1 locs1 → W p l e R s m args below meth c H1 locs1 cells slots Q (F0 m (pc + 3) ls (.int r :: rest))) : W p l e R s m args below meth c H locs cells slots Q (F0 m pc ls st0) :=
  va_calli hr hS (fun _ _ h => h.elim) (fun _ h => h.elim) (fun r u t H1 locs1 _ _ hp _ _ hk hS1 => kk r H1 locs1 hp ⟨hV.1.kept (fun k q hq => hk q.1 ((hV.1 k q hq).lt) (fun z => z)), hV.2.1, hV.2.2⟩ hS1)
theorem gx_preP (As : List Value) : PreS s H (va_Pc As (fun _ => True)) As := ⟨fun _ _ _ _ q => ⟨q.1, trivial⟩, fun _ _ _ => ⟨rfl, trivial⟩⟩
end GXR
/-- a contract is opened: the machine, the code, the words, the world, the locals -/
theorem gx_met {l : Launch} {y : MethodName} {ws ws' : List Cond} {rm : Room} {av : List Value} {B : State → Prop} {Qc : Array Value → State → Outcome → State → Prop} {mc ms : Nat} {free : Addr → Prop} {cc : ByteArray} {maxL : Nat} {ret : Option FieldType}
    (hy : plainName y.cls = true) (hw : ws = Cond.code y cc maxL ret :: ws') (hlen : (lg_sl av).length ≤ maxL)
    (body : ∀ (p : Program) (e : Env) (s : State) (m : MethodId) (args : Array Value) (below : List Frame) (meth : Method) (c : Code) (ls : Array Slot), p.tables.exec = Jvm.exec → c.code = cc → meth.sig.returnType = ret → c.maxLocals = maxL → (∀ w ∈ ws', w.before args s = true) → s.vm.findClass y.cls = some m.cls → meth.locks = false → meth.name = y.name → args = av.toArray → B s → lv_has ls maxL (lv_args 0 av) →
      W p l e (headSpec ws rm).room s m args below meth c s.heap [] 0 0 (MQ below Qc args s mc ms free) (F0 m 0 ls [])) : Met l y ws rm (va_Pc av B) Qc mc ms free := by
  refine Met.ofW (cc := cc) (maxL := maxL) (ret := ret) hy hw ?_
  intro p e s m args below meth c s₁ B' hml hv
  obtain ⟨ha, hB⟩ := hv
  have hts := atoms_spec (ws := ws) B'.pre
  have hown : s.vm.findClass y.cls = some m.cls := findClass_of_methodNamed B'.named
  have hl := lv_entry av (n := maxL) hlen
  have hnm : meth.name = y.name := (name_of_methodNamed B'.named B'.method).1
  have hE : entryFrame m args maxL = F0 m 0 ((lg_sl av ++ List.replicate (maxL - (lg_sl av).length) Slot.unset).toArray) [] := by rw [ha]; exact lg_entry_eq m av maxL
  rw [hE]
  exact body p e s m args below meth c _ B'.exec B'.bytes B'.returns hml (fun w h => hts w (by rw [hw]; exact List.mem_cons_of_mem _ h)) hown B'.notSynchronized hnm ha hB hl
