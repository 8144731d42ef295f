/-! the class's world: 70 cells. Array classes K: 0 int, 1 byte, 2 boolean, 3 long, 4 Master, 5 Port, 6 Message. Classes in mx_cl: 0 Line, 1 Master, 2 Message, 3 Port, 4 the crossbar, 5 the reference -/
abbrev mx_tys (K : Nat → ClassId) : List (ClassId × FieldType) := [(K 0, .int), (K 1, .byte), (K 2, .boolean), (K 3, .long), (K 4, .object "MessageCrossbar$Master"), (K 5, .object "MessageCrossbar$Port"), (K 6, .object "MessageCrossbar$Message")]
def cx_E (ad : Nat → Nat) (K : Nat → ClassId) : gx_L := fun σ τ j =>
  if j = 0 then .inr (4, [.ref (ad 1), .ref (ad 17), .ref (ad 42), .ref (ad 67), .ref (ad 68), .ref (ad 69), .long (τ j 0)])
  else if j = 1 then .inl (K 4, 3, .inr (.inr (.inr (.inr (fun m => some (ad (2 + 5 * m)))))))
  else if j < 17 then
    (if (j - 2) % 5 = 0 then .inr (1, [.ref (ad (j + 1)), .ref (ad (j + 3)), .int (σ j 2), .int (σ j 3), .int (σ j 4)])
     else if (j - 2) % 5 = 2 then .inl (K 0, 8, .inl (σ j))
     else if (j - 2) % 5 = 4 then .inl (K 0, 4, .inl (σ j))
     else .inr (0, [.ref (ad (j + 1)), .int (σ j 1)]))
  else if j = 17 then .inl (K 5, 4, .inr (.inr (.inr (.inr (fun p => some (ad (18 + 6 * p)))))))
  else if j < 42 then
    (if (j - 18) % 6 = 0 then .inr (3, [.ref (ad (j + 1)), .ref (ad (j + 3)), .ref (ad (j + 5)), .int (σ j 3), .int (σ j 4), .int (σ j 5), .int (σ j 6)])
     else if (j - 18) % 6 = 5 then .inl (K 0, 4, .inl (σ j))
     else if (j - 18) % 6 = 2 ∨ (j - 18) % 6 = 4 then .inl (K 0, 2, .inl (σ j))
     else .inr (0, [.ref (ad (j + 1)), .int (σ j 1)]))
  else if j = 42 then .inl (K 6, 24, .inr (.inr (.inr (.inr (fun x => some (ad (43 + x)))))))
  else if j < 67 then .inr (2, [.int (σ j 0), .int (σ j 1), .int (σ j 2), .long (τ j 0), .int (σ j 4)])
  else if j = 67 then .inl (K 1, 640, .inl (σ j))
  else if j = 68 then .inl (K 0, 32, .inl (σ j))
  else .inl (K 0, 8, .inl (σ j))
theorem cx_loc {ad : Nat → Nat} {K : Nat → ClassId} : gx_loc (cx_E ad K) := by
  intro σ σ' τ τ' i h1 h2
  simp only [cx_E, h1, h2]
section CXE
variable {ad : Nat → Nat} {K : Nat → ClassId} {σ : Nat → Nat → Int32} {τ : Nat → Nat → Int64}
theorem cx_E_X : cx_E ad K σ τ 0 = .inr (4, [.ref (ad 1), .ref (ad 17), .ref (ad 42), .ref (ad 67), .ref (ad 68), .ref (ad 69), .long (τ 0 0)]) := rfl
theorem cx_E_Ms : cx_E ad K σ τ 1 = .inl (K 4, 3, .inr (.inr (.inr (.inr (fun m => some (ad (2 + 5 * m))))))) := rfl
theorem cx_E_Ps : cx_E ad K σ τ 17 = .inl (K 5, 4, .inr (.inr (.inr (.inr (fun p => some (ad (18 + 6 * p))))))) := rfl
theorem cx_E_Gs : cx_E ad K σ τ 42 = .inl (K 6, 24, .inr (.inr (.inr (.inr (fun x => some (ad (43 + x))))))) := rfl
theorem cx_E_By : cx_E ad K σ τ 67 = .inl (K 1, 640, .inl (σ 67)) := rfl
theorem cx_E_Lg : cx_E ad K σ τ 68 = .inl (K 0, 32, .inl (σ 68)) := rfl
theorem cx_E_Ct : cx_E ad K σ τ 69 = .inl (K 0, 8, .inl (σ 69)) := rfl
theorem cx_3 {m : Nat} (h : m < 3) : m = 0 ∨ m = 1 ∨ m = 2 := by omega
theorem cx_4 {m : Nat} (h : m < 4) : m = 0 ∨ m = 1 ∨ m = 2 ∨ m = 3 := by omega
theorem cx_E_M {m : Nat} (h : m < 3) : cx_E ad K σ τ (2 + 5 * m) = .inr (1, [.ref (ad (3 + 5 * m)), .ref (ad (5 + 5 * m)), .int (σ (2 + 5 * m) 2), .int (σ (2 + 5 * m) 3), .int (σ (2 + 5 * m) 4)]) := by
  rcases cx_3 h with rfl | rfl | rfl <;> rfl
theorem cx_E_P {p : Nat} (h : p < 4) : cx_E ad K σ τ (18 + 6 * p) = .inr (3, [.ref (ad (19 + 6 * p)), .ref (ad (21 + 6 * p)), .ref (ad (23 + 6 * p)), .int (σ (18 + 6 * p) 3), .int (σ (18 + 6 * p) 4), .int (σ (18 + 6 * p) 5), .int (σ (18 + 6 * p) 6)]) := by
  rcases cx_4 h with rfl | rfl | rfl | rfl <;> rfl
theorem cx_E_O {p : Nat} (h : p < 4) : cx_E ad K σ τ (23 + 6 * p) = .inl (K 0, 4, .inl (σ (23 + 6 * p))) := by
  rcases cx_4 h with rfl | rfl | rfl | rfl <;> rfl
theorem cx_E_G {x : Nat} (h : x < 24) : cx_E ad K σ τ (43 + x) = .inr (2, [.int (σ (43 + x) 0), .int (σ (43 + x) 1), .int (σ (43 + x) 2), .long (τ (43 + x) 0), .int (σ (43 + x) 4)]) := by
  unfold cx_E
  rw [if_neg (by omega), if_neg (by omega), if_neg (by omega), if_neg (by omega), if_neg (by omega), if_neg (by omega), if_pos (by omega)]
/-- l is the cell of a line with room for r keys -/
def cx_isL (l r : Nat) : Prop := (∃ m, m < 3 ∧ ((l = 3 + 5 * m ∧ r = 8) ∨ (l = 5 + 5 * m ∧ r = 4))) ∨ ∃ p, p < 4 ∧ (l = 19 + 6 * p ∨ l = 21 + 6 * p) ∧ r = 2
theorem cx_E_L {l r : Nat} (h : cx_isL l r) : cx_E ad K σ τ l = .inr (0, [.ref (ad (l + 1)), .int (σ l 1)]) ∧ cx_E ad K σ τ (l + 1) = .inl (K 0, r, .inl (σ (l + 1))) := by
  rcases h with ⟨m, hm, ⟨rfl, rfl⟩ | ⟨rfl, rfl⟩⟩ | ⟨p, hp, rfl | rfl, rfl⟩
  · rcases cx_3 hm with rfl | rfl | rfl <;> exact ⟨rfl, rfl⟩
  · rcases cx_3 hm with rfl | rfl | rfl <;> exact ⟨rfl, rfl⟩
  · rcases cx_4 hp with rfl | rfl | rfl | rfl <;> exact ⟨rfl, rfl⟩
  · rcases cx_4 hp with rfl | rfl | rfl | rfl <;> exact ⟨rfl, rfl⟩
theorem cx_isL.lt {l r : Nat} (h : cx_isL l r) : l < 70 ∧ l + 1 < 70 ∧ r ≤ 8 ∧ 0 < r := by
  rcases h with ⟨m, hm, ⟨rfl, rfl⟩ | ⟨rfl, rfl⟩⟩ | ⟨p, hp, rfl | rfl, rfl⟩ <;> omega
theorem cx_isL_W {m : Nat} (h : m < 3) : cx_isL (3 + 5 * m) 8 := Or.inl ⟨m, h, Or.inl ⟨rfl, rfl⟩⟩
theorem cx_isL_B {m : Nat} (h : m < 3) : cx_isL (5 + 5 * m) 4 := Or.inl ⟨m, h, Or.inr ⟨rfl, rfl⟩⟩
theorem cx_isL_Q {p : Nat} (h : p < 4) : cx_isL (19 + 6 * p) 2 := Or.inr ⟨p, h, Or.inl rfl, rfl⟩
theorem cx_isL_A {p : Nat} (h : p < 4) : cx_isL (21 + 6 * p) 2 := Or.inr ⟨p, h, Or.inr rfl, rfl⟩
end CXE
/-- what is given of the class's statics (tables of numbers that nobody writes), and of the one private field that a nest mate reads -/
def cx_ends (j : Nat) : Nat := if j = 0 then 256 else if j = 1 then 512 else if j = 2 then 640 else 1024
def cx_wps (j : Nat) : Nat := if j = 0 then 2 else if j = 1 then 0 else 3
def cx_dls (j : Nat) : Nat := if j = 0 then 2 else if j = 1 then 1 else if j = 2 then 3 else 1
def cx_Zt (A : Nat → Prop) (n : String) (f : Nat → Nat) (U : State) (H : Heap) : Prop := ∃ t : Nat, va_Z "MessageCrossbar" n "[I" (.ref t) A U H ∧ va_T .int t 4 (fun j => .int (nI (f j))) A U H
def cx_Z (A : Nat → Prop) (U : State) (H : Heap) : Prop := cx_Zt A "ENDS" cx_ends U H ∧ cx_Zt A "WIDTH_POWERS" cx_wps U H ∧ cx_Zt A "DELAYS" cx_dls U H ∧ va_Nw (.fieldLinkNest "MessageCrossbar$Message" 28 "MessageCrossbar" "ENDS" "[I" "MessageCrossbar") U
theorem cx_Zt.go {A : Nat → Prop} {n : String} {f : Nat → Nat} {U U' : State} {H H' : Heap} (h : cx_Zt A n f U H) (hW : U.WarmedH U'.vm) (hq : ∀ q : Nat, q < H.size → ¬ A q → H'[q]? = H[q]?) : cx_Zt A n f U' H' := by
  obtain ⟨t, h1, h2⟩ := h
  exact ⟨t, (va_Z.moved hW.alike h1).kept hq, (va_T.moved hW.alike h2).kept hq⟩
theorem cx_ok {A : Nat → Prop} : gx_ok A (cx_Z A) := fun _ _ _ _ hW hq h => ⟨h.1.go hW hq, h.2.1.go hW hq, h.2.2.1.go hW hq, va_Nw.warmF hW h.2.2.2⟩
/-! a contract's start and ends in the class's world -/
abbrev cx_P (D : va_G) (K : Nat → ClassId) (ad : Nat → Nat) (σ : Nat → Nat → Int32) (τ : Nat → Nat → Int64) : State → Prop := gx_P D mx_cl (mx_tys K) (cx_E ad K) ad 70 (cx_Z (gx_A ad 70)) σ τ
abbrev cx_Qi (D : va_G) (K : Nat → ClassId) (ad : Nat → Nat) (post : Int32 → gx_U → Prop) : Array Value → State → Outcome → State → Prop := va_Qi post (gx_B D mx_cl (cx_E ad K) ad 70) (gx_A ad 70)
abbrev cx_Ql (D : va_G) (K : Nat → ClassId) (ad : Nat → Nat) (post : Int64 → gx_U → Prop) : Array Value → State → Outcome → State → Prop := va_Ql post (gx_B D mx_cl (cx_E ad K) ad 70) (gx_A ad 70)
abbrev cx_Qv (D : va_G) (K : Nat → ClassId) (ad : Nat → Nat) (post : gx_U → Prop) : Array Value → State → Outcome → State → Prop := va_Qv post (gx_B D mx_cl (cx_E ad K) ad 70) (gx_A ad 70)
section GXM
variable {p : Program} {l : Launch} {e : Env} {R : Room} {s : State} {m : MethodId} {args : Array Value} {below : List Frame} {meth : Method} {c : Code} {H : Heap} {locs : List Loc} {cells slots : Nat} {Q : State → Prop}
variable {cc : ByteArray} {pc : Nat} {ls : Array Slot} {rest : List Value} {D : va_G} {cl : List vw_C} {tys : List (ClassId × FieldType)}
variable {E : gx_L} {ad : Nat → Nat} {N : Nat} {σ : Nat → Nat → Int32} {τ : Nat → Nat → Int64}
theorem gx_ialdv (hexec : p.tables.exec = Jvm.exec) (hb : c.code = cc) (hV : gx_V D cl tys E ad N σ τ s H) {j : Nat} (hj : j < N) (t0 : Nat) {cA : ClassId} {n : Nat} {f : Nat → Int32} (he : E σ τ j = .inl (cA, n, .inl f)) (ht : tys[t0]? = some (cA, .int)) {i : Int32} (k : Nat) (hk : k < n) (hn : n < 2 ^ 31) (hi : i = nI k) {v : Int32} (hv : f k = v) (hdg : decode cc pc = .ok (.iaload, 1))
    (kk : W p l e R s m args below meth c H locs cells slots Q (F0 m (pc + 1) ls (.int v :: rest))) : W p l e R s m args below meth c H locs cells slots Q (F0 m pc ls (.int i :: .ref (ad j) :: rest)) :=
  gx_iald hexec hb hV hj t0 he ht k hk hn hi hdg (by rw [hv]; exact kk)
/-- the ends of a method that keeps to the world -/
theorem gx_iret {σ' : Nat → Nat → Int32} {τ' : Nat → Nat → Int64} {post : Int32 → gx_U → Prop} {v : Int32} (hexec : p.tables.exec = Jvm.exec) (hb : c.code = cc) (hr : meth.sig.returnType = some .int) (hV : gx_V D cl tys E ad N σ' τ' s H) (hS : va_S (gx_A ad N) s.heap H locs) (hp : post v (σ', τ')) (hdg : decode cc pc = .ok (.ireturn, 1)) (hlk : meth.locks = false) :
    W p l e R s m args below meth c H locs cells slots (MQ below (va_Qi post (gx_B D cl E ad N) (gx_A ad N)) args s cells slots (gx_A ad N)) (F0 m pc ls [.int v]) :=
  W.iret hexec hb hr (fun t ht _ => ⟨⟨v, (σ', τ'), rfl, hp, by show va_P _ _ _ t.heap; rw [ht]; exact hV.1⟩, hS.F ht⟩) hS.2.2 hdg hlk
theorem gx_zret {σ' : Nat → Nat → Int32} {τ' : Nat → Nat → Int64} {post : Int32 → gx_U → Prop} {v : Int32} (hexec : p.tables.exec = Jvm.exec) (hb : c.code = cc) (hr : meth.sig.returnType = some .boolean) (hn : narrow .boolean (.int v) = .int v) (hV : gx_V D cl tys E ad N σ' τ' s H) (hS : va_S (gx_A ad N) s.heap H locs) (hp : post v (σ', τ')) (hdg : decode cc pc = .ok (.ireturn, 1)) (hlk : meth.locks = false) :
    W p l e R s m args below meth c H locs cells slots (MQ below (va_Qi post (gx_B D cl E ad N) (gx_A ad N)) args s cells slots (gx_A ad N)) (F0 m pc ls [.int v]) :=
  W.zret hexec hb hr hn (fun t ht _ => ⟨⟨v, (σ', τ'), rfl, hp, by show va_P _ _ _ t.heap; rw [ht]; exact hV.1⟩, hS.F ht⟩) hS.2.2 hdg hlk
theorem gx_lret {σ' : Nat → Nat → Int32} {τ' : Nat → Nat → Int64} {post : Int64 → gx_U → Prop} {v : Int64} (hexec : p.tables.exec = Jvm.exec) (hb : c.code = cc) (hr : meth.sig.returnType = some .long) (hV : gx_V D cl tys E ad N σ' τ' s H) (hS : va_S (gx_A ad N) s.heap H locs) (hp : post v (σ', τ')) (hdg : decode cc pc = .ok (.lreturn, 1)) (hlk : meth.locks = false) :
    W p l e R s m args below meth c H locs cells slots (MQ below (va_Ql post (gx_B D cl E ad N) (gx_A ad N)) args s cells slots (gx_A ad N)) (F0 m pc ls [.long v]) :=
  W.lret hexec hb hr (fun t ht _ => ⟨⟨v, (σ', τ'), rfl, hp, by show va_P _ _ _ t.heap; rw [ht]; exact hV.1⟩, hS.F ht⟩) hS.2.2 hdg hlk
theorem gx_vret {σ' : Nat → Nat → Int32} {τ' : Nat → Nat → Int64} {post : gx_U → Prop} (hexec : p.tables.exec = Jvm.exec) (hb : c.code = cc) (hr : meth.sig.returnType = none) (hV : gx_V D cl tys E ad N σ' τ' s H) (hS : va_S (gx_A ad N) s.heap H locs) (hp : post (σ', τ')) (hdg : decode cc pc = .ok (.return_, 1)) (hlk : meth.locks = false) :
    W p l e R s m args below meth c H locs cells slots (MQ below (va_Qv post (gx_B D cl E ad N) (gx_A ad N)) args s cells slots (gx_A ad N)) (F0 m pc ls []) :=
  W.vret hexec hb hr (fun t ht _ => ⟨⟨(σ', τ'), rfl, hp, by show va_P _ _ _ t.heap; rw [ht]; exact hV.1⟩, hS.F ht⟩) hS.2.2 hdg hlk
/-- .. of one that only counts -/
theorem gx_pret {post : Int32 → Prop} {v : Int32} (hexec : p.tables.exec = Jvm.exec) (hb : c.code = cc) (hr : meth.sig.returnType = some .int) (hS : va_S (fun _ => False) s.heap H locs) (hp : post v) (hdg : decode cc pc = .ok (.ireturn, 1)) (hlk : meth.locks = false) :
    W p l e R s m args below meth c H locs cells slots (MQ below (va_Qi (fun r (_ : Unit) => post r) (fun _ _ => True) (fun _ => False)) args s cells slots (fun _ => False)) (F0 m pc ls [.int v]) :=
  W.iret hexec hb hr (fun t ht _ => ⟨⟨v, (), rfl, hp, trivial⟩, hS.F ht⟩) hS.2.2 hdg hlk
theorem gx_pzret {post : Int32 → Prop} {v : Int32} (hexec : p.tables.exec = Jvm.exec) (hb : c.code = cc) (hr : meth.sig.returnType = some .boolean) (hn : narrow .boolean (.int v) = .int v) (hS : va_S (fun _ => False) s.heap H locs) (hp : post v) (hdg : decode cc pc = .ok (.ireturn, 1)) (hlk : meth.locks = false) :
    W p l e R s m args below meth c H locs cells slots (MQ below (va_Qi (fun r (_ : Unit) => post r) (fun _ _ => True) (fun _ => False)) args s cells slots (fun _ => False)) (F0 m pc ls [.int v]) :=
  W.zret hexec hb hr hn (fun t ht _ => ⟨⟨v, (), rfl, hp, trivial⟩, hS.F ht⟩) hS.2.2 hdg hlk
end GXM
