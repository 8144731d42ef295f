/-! the law's world: 88 cells, the class's 70, the reference's 17 behind them, the law's own array of one long -/
section GXS
variable {D : va_G} {cl : List vw_C} {tys : List (ClassId × FieldType)} {E E' : gx_L} {ad : Nat → Nat} {N n o : Nat} {σ σ' σ2 : Nat → Nat → Int32} {τ τ' τ2 : Nat → Nat → Int64} {U : State} {H H1 : Heap}
theorem gx_V.sub (h : gx_V D cl tys E ad N σ τ U H) (hN : n + o ≤ N) (he : ∀ j, j < n → E σ τ (j + o) = E' σ' τ' j) : gx_V D cl tys E' (fun j => ad (j + o)) n σ' τ' U H := by
  refine ⟨fun k q hq => ?_, h.2.1, fun i j hi hj e => ?_⟩
  · obtain ⟨hk, rfl⟩ := gx_of hq
    exact h.1 (k + o) _ (gx_at (by omega) (he k hk))
  · have := h.2.2 (i + o) (j + o) (by omega) (by omega) e
    omega
theorem gx_V.join (h : gx_V D cl tys E ad N σ τ U H) (hN : n + o ≤ N) (hB : va_P D cl (gx_ws E' (fun j => ad (j + o)) n σ' τ') H1) (hq : ∀ q : Nat, q < H.size → ¬ gx_A (fun j => ad (j + o)) n q → H1[q]? = H[q]?) (h1 : ∀ j, j < n → E σ2 τ2 (j + o) = E' σ' τ' j) (h2 : ∀ i, i < N → (i < o ∨ n + o ≤ i) → E σ2 τ2 i = E σ τ i) : gx_V D cl tys E ad N σ2 τ2 U H1 := by
  refine ⟨fun k q hk => ?_, h.2.1, h.2.2⟩
  obtain ⟨hk1, rfl⟩ := gx_of hk
  by_cases hi : k < o ∨ n + o ≤ k
  · rw [h2 k hk1 hi]
    have hat := h.1 k _ (gx_at hk1 rfl)
    refine hat.kept (hq _ hat.lt ?_)
    rintro ⟨j, hj, e⟩
    have := h.2.2 k (j + o) hk1 (by omega) e
    omega
  · have e0 : k - o + o = k := by omega
    have e1 := h1 (k - o) (by omega)
    rw [e0] at e1
    rw [e1]
    have e2 := hB (k - o) _ (gx_at (by omega) rfl)
    rw [e0] at e2
    exact e2
end GXS
def lz_E (ad : Nat → Nat) (K : Nat → ClassId) : gx_L := fun σ τ j =>
  if j < 70 then cx_E ad K σ τ j
  else if j < 87 then rx_E (fun i => ad (i + 70)) K (fun i => σ (i + 70)) (fun i => τ (i + 70)) (j - 70)
  else .inl (K 3, 1, .inr (.inl (τ j)))
def lz_s (σ : Nat → Nat → Int32) (ρ : Nat → Nat → Nat) : Nat → Nat → Int32 := fun i => if i < 70 then σ i else mq_n ρ (i - 70)
def lz_t (τ : Nat → Nat → Int64) (μ : Nat → Int64) (lt : Int64) (o : Nat → Int64) : Nat → Nat → Int64 := fun i => if i < 70 then τ i else if i < 87 then rx_t μ lt (i - 70) else if i = 87 then o else fun _ => 0
theorem lz_loc {ad : Nat → Nat} {K : Nat → ClassId} : gx_loc (lz_E ad K) := by
  intro σ σ' τ τ' i h1 h2
  unfold lz_E
  by_cases a : i < 70
  · rw [if_pos a, if_pos a]
    exact cx_loc σ σ' τ τ' i h1 h2
  · rw [if_neg a, if_neg a]
    by_cases b : i < 87
    · rw [if_pos b, if_pos b]
      refine rx_loc _ _ _ _ (i - 70) ?_ ?_
      · show σ (i - 70 + 70) = σ' (i - 70 + 70)
        rw [show i - 70 + 70 = i by omega]; exact h1
      · show τ (i - 70 + 70) = τ' (i - 70 + 70)
        rw [show i - 70 + 70 = i by omega]; exact h2
    · rw [if_neg b, if_neg b, h2]
section LZ
variable {D : va_G} {K : Nat → ClassId} {ad : Nat → Nat} {σ σ' : Nat → Nat → Int32} {τ τ' : Nat → Nat → Int64} {ρ ρ' : Nat → Nat → Nat} {μ μ' : Nat → Int64} {lt lt' : Int64} {o : Nat → Int64} {s U t : State} {H H1 : Heap} {locs : List Loc}
theorem lz_eC {j : Nat} (hj : j < 70) : lz_E ad K (lz_s σ ρ) (lz_t τ μ lt o) j = cx_E ad K σ τ j := by
  unfold lz_E
  rw [if_pos hj]
  exact cx_loc _ _ _ _ j (by unfold lz_s; rw [if_pos hj]) (by unfold lz_t; rw [if_pos hj])
theorem lz_eR {j : Nat} (hj : j < 17) : lz_E ad K (lz_s σ ρ) (lz_t τ μ lt o) (j + 70) = rx_E (fun i => ad (i + 70)) K (mq_n ρ) (rx_t μ lt) j := by
  unfold lz_E
  rw [if_neg (by omega), if_pos (by omega), Nat.add_sub_cancel]
  refine rx_loc _ _ _ _ j ?_ ?_
  · show lz_s σ ρ (j + 70) = _
    unfold lz_s
    rw [if_neg (by omega), Nat.add_sub_cancel]
  · show lz_t τ μ lt o (j + 70) = _
    unfold lz_t
    rw [if_neg (by omega), if_pos (by omega), Nat.add_sub_cancel]
theorem lz_eO : lz_E ad K (lz_s σ ρ) (lz_t τ μ lt o) 87 = .inl (K 3, 1, .inr (.inl o)) := rfl
abbrev lz_V (D : va_G) (K : Nat → ClassId) (ad : Nat → Nat) (σ : Nat → Nat → Int32) (τ : Nat → Nat → Int64) (ρ : Nat → Nat → Nat) (μ : Nat → Int64) (lt : Int64) (o : Nat → Int64) (U : State) (H : Heap) : Prop := gx_V D mx_cl (mx_tys K) (lz_E ad K) ad 88 (lz_s σ ρ) (lz_t τ μ lt o) U H
theorem lz_cls (h : lz_V D K ad σ τ ρ μ lt o U H) : gx_V D mx_cl (mx_tys K) (cx_E ad K) ad 70 σ τ U H := gx_V.sub (o := 0) h (by omega) (fun _ hj => lz_eC hj)
theorem lz_ref (h : lz_V D K ad σ τ ρ μ lt o U H) : gx_V D mx_cl (mx_tys K) (rx_E (fun i => ad (i + 70)) K) (fun i => ad (i + 70)) 17 (mq_n ρ) (rx_t μ lt) U H := gx_V.sub (o := 70) h (by omega) (fun _ hj => lz_eR hj)
theorem lz_eX {i : Nat} (hi : i < 88) (h7 : 70 ≤ i) : lz_E ad K (lz_s σ' ρ) (lz_t τ' μ lt o) i = lz_E ad K (lz_s σ ρ) (lz_t τ μ lt o) i := by
  by_cases h : i = 87
  · subst h
    rfl
  · obtain ⟨j, rfl⟩ : ∃ j, i = j + 70 := ⟨i - 70, by omega⟩
    rw [lz_eR (by omega), lz_eR (by omega)]
theorem lz_clsB (h : lz_V D K ad σ τ ρ μ lt o U H) (hB : gx_B D mx_cl (cx_E ad K) ad 70 (σ', τ') t) (ht : t.heap = H1) (hq : ∀ q : Nat, q < H.size → ¬ gx_A ad 70 q → H1[q]? = H[q]?) : lz_V D K ad σ' τ' ρ μ lt o U H1 := by
  refine gx_V.join (o := 0) (n := 70) (E' := cx_E ad K) (σ' := σ') (τ' := τ') h (by omega) ?_ hq (fun _ hj => lz_eC hj) (fun i hi h7 => lz_eX hi (by omega))
  rw [← ht]
  exact hB
theorem lz_eY {i : Nat} (hi : i < 88) (h7 : i < 70 ∨ 17 + 70 ≤ i) : lz_E ad K (lz_s σ ρ') (lz_t τ μ' lt' o) i = lz_E ad K (lz_s σ ρ) (lz_t τ μ lt o) i := by
  rcases h7 with h | h
  · rw [lz_eC h, lz_eC h]
  · have : i = 87 := by omega
    subst this
    rfl
theorem lz_refB (h : lz_V D K ad σ τ ρ μ lt o U H) (hB : gx_B D mx_cl (rx_E (fun i => ad (i + 70)) K) (fun i => ad (i + 70)) 17 (mq_n ρ', rx_t μ' lt') t) (ht : t.heap = H1) (hq : ∀ q : Nat, q < H.size → ¬ gx_A (fun i => ad (i + 70)) 17 q → H1[q]? = H[q]?) : lz_V D K ad σ τ ρ' μ' lt' o U H1 := by
  refine gx_V.join (o := 70) (n := 17) (E' := rx_E (fun i => ad (i + 70)) K) (σ' := mq_n ρ') (τ' := rx_t μ' lt') h (by omega) ?_ hq (fun _ hj => lz_eR hj) (fun i hi h7 => lz_eY hi h7)
  rw [← ht]
  exact hB
theorem lz_A1 {q : Nat} (h : gx_A ad 70 q) : gx_A ad 88 q := by
  obtain ⟨j, hj, e⟩ := h
  exact ⟨j, by omega, e⟩
theorem lz_A2 {q : Nat} (h : gx_A (fun i => ad (i + 70)) 17 q) : gx_A ad 88 q := by
  obtain ⟨j, hj, e⟩ := h
  exact ⟨j + 70, by omega, e⟩
def lz_Z (A : Nat → Prop) (U : State) (H : Heap) : Prop := cx_Z A U H ∧ cx_ZX A U H
theorem lz_ok {A : Nat → Prop} : gx_ok A (lz_Z A) := fun a b c d hW hq h => ⟨cx_ok a b c d hW hq h.1, cx_okX a b c d hW hq h.2⟩
abbrev lz_P (D : va_G) (K : Nat → ClassId) (ad : Nat → Nat) (σ : Nat → Nat → Int32) (τ : Nat → Nat → Int64) (ρ : Nat → Nat → Nat) (μ : Nat → Int64) (lt : Int64) (o : Nat → Int64) : State → Prop := gx_P D mx_cl (mx_tys K) (lz_E ad K) ad 88 (lz_Z (gx_A ad 88)) (lz_s σ ρ) (lz_t τ μ lt o)
abbrev lz_Qi (D : va_G) (K : Nat → ClassId) (ad : Nat → Nat) (post : Int32 → gx_U → Prop) : Array Value → State → Outcome → State → Prop := va_Qi post (gx_B D mx_cl (lz_E ad K) ad 88) (gx_A ad 88)
theorem lz_intoC (hV : lz_V D K ad σ τ ρ μ lt o s H) (hZ : lz_Z (gx_A ad 88) s s.heap) (hS : va_S (gx_A ad 88) s.heap H locs) (U : State) (hU : U.heap = H) (hW : s.WarmedH U.vm) : cx_P D K ad σ τ U ∧ tx_P D K ad σ τ U := by
  have hz := lz_ok s U s.heap H hW hS.2.1 hZ
  have hv := lz_cls hV
  refine ⟨⟨⟨by rw [hU]; exact hv.1, va_K.moved hW.alike hv.2.1, hv.2.2⟩, ?_⟩, ⟨⟨by rw [hU]; exact hv.1, va_K.moved hW.alike hv.2.1, hv.2.2⟩, ?_⟩⟩
  · rw [hU]; exact hz.1.narrow (fun _ h => lz_A1 h)
  · rw [hU]; exact hz.2.narrow (fun _ h => lz_A1 h)
theorem lz_preC (hV : lz_V D K ad σ τ ρ μ lt o s H) (hZ : lz_Z (gx_A ad 88) s s.heap) (hS : va_S (gx_A ad 88) s.heap H locs) (As : List Value) : PreV s H "MessageCrossbar" (ad 0) (va_Pc (.ref (ad 0) :: As) (cx_P D K ad σ τ)) As :=
  ⟨gx_blind cx_ok _, va_recv (q := (mR_X, mT_X, 7)) (lz_cls hV).2.1 (lz_cls hV).1 rfl (gx_at (j := 0) (by omega) cx_E_X), fun U hU hW => ⟨rfl, (lz_intoC hV hZ hS U hU hW).1⟩⟩
theorem lz_preX (hV : lz_V D K ad σ τ ρ μ lt o s H) (hZ : lz_Z (gx_A ad 88) s s.heap) (hS : va_S (gx_A ad 88) s.heap H locs) (As : List Value) : PreV s H "MessageCrossbar" (ad 0) (va_Pc (.ref (ad 0) :: As) (tx_P D K ad σ τ)) As :=
  ⟨gx_blind cx_okX _, va_recv (q := (mR_X, mT_X, 7)) (lz_cls hV).2.1 (lz_cls hV).1 rfl (gx_at (j := 0) (by omega) cx_E_X), fun U hU hW => ⟨rfl, (lz_intoC hV hZ hS U hU hW).2⟩⟩
theorem lz_preR (hV : lz_V D K ad σ τ ρ μ lt o s H) (As : List Value) : PreV s H "MessageCrossbarModel" (ad 70) (va_Pc (.ref (ad 70) :: As) (rx_P D K (fun i => ad (i + 70)) (mq_n ρ) (rx_t μ lt))) As :=
  ⟨gx_blind rx_ok _, va_recv (q := (mR_R, mT_R, 20)) (lz_ref hV).2.1 (lz_ref hV).1 rfl (gx_at (j := 0) (by omega) rx_E_0), fun U hU hW => ⟨rfl, ⟨by rw [hU]; exact (lz_ref hV).1, va_K.moved hW.alike (lz_ref hV).2.1, (lz_ref hV).2.2⟩, trivial⟩⟩
end LZ
section LZC
variable {p : Program} {l : Launch} {e : Env} {R : Room} {s : State} {m : MethodId} {args : Array Value} {below : List Frame} {meth : Method} {c : Code} {H : Heap} {locs : List Loc} {cells slots mc ms : Nat} {Q : State → Prop}
variable {pc : Nat} {ls : Array Slot} {rest st0 : List Value} {a : Array Value} {D : va_G} {K : Nat → ClassId} {ad : Nat → Nat} {σ : Nat → Nat → Int32} {τ : Nat → Nat → Int64} {ρ : Nat → Nat → Nat} {μ : Nat → Int64} {lt : Int64} {o : Nat → Int64}
theorem lz_calliC {post : Int32 → gx_U → Prop} (hr : va_Run p l e R s m args below meth c H locs cells slots mc ms (F0 m pc ls st0) rest (va_Qi post (gx_B D mx_cl (cx_E ad K) ad 70) (gx_A ad 70) a) (gx_A ad 70)) (hV : lz_V D K ad σ τ ρ μ lt o s H) (hS : va_S (gx_A ad 88) s.heap H locs)
    (kk : ∀ (r : Int32) (σ' : Nat → Nat → Int32) (τ' : Nat → Nat → Int64) (H1 : Heap) (locs1 : List Loc), post r (σ', τ') → lz_V D K ad σ' τ' ρ μ lt o s H1 → va_S (gx_A ad 88) s.heap H1 locs1 → W p l e R s m args below meth c H1 locs1 (cells + mc) (slots + ms) Q (F0 m (pc + 3) ls (.int r :: rest))) : W p l e R s m args below meth c H locs cells slots Q (F0 m pc ls st0) :=
  va_calli hr hS (fun _ _ h => lz_A1 h) (fun _ h => lz_A1 h) (fun r u t H1 locs1 ht _ hp hB _ hk hS1 => kk r u.1 u.2 H1 locs1 hp (lz_clsB hV hB ht hk) hS1)
theorem lz_calllC {post : Int64 → gx_U → Prop} (hr : va_Run p l e R s m args below meth c H locs cells slots mc ms (F0 m pc ls st0) rest (va_Ql post (gx_B D mx_cl (cx_E ad K) ad 70) (gx_A ad 70) a) (gx_A ad 70)) (hV : lz_V D K ad σ τ ρ μ lt o s H) (hS : va_S (gx_A ad 88) s.heap H locs)
    (kk : ∀ (r : Int64) (σ' : Nat → Nat → Int32) (τ' : Nat → Nat → Int64) (H1 : Heap) (locs1 : List Loc), post r (σ', τ') → lz_V D K ad σ' τ' ρ μ lt o s H1 → va_S (gx_A ad 88) s.heap H1 locs1 → W p l e R s m args below meth c H1 locs1 (cells + mc) (slots + ms) Q (F0 m (pc + 3) ls (.long r :: rest))) : W p l e R s m args below meth c H locs cells slots Q (F0 m pc ls st0) :=
  va_calll hr hS (fun _ _ h => lz_A1 h) (fun _ h => lz_A1 h) (fun r u t H1 locs1 ht _ hp hB _ hk hS1 => kk r u.1 u.2 H1 locs1 hp (lz_clsB hV hB ht hk) hS1)
theorem lz_calliR {post : Int32 → gx_U → Prop} (hr : va_Run p l e R s m args below meth c H locs cells slots mc ms (F0 m pc ls st0) rest (va_Qi post (gx_B D mx_cl (rx_E (fun i => ad (i + 70)) K) (fun i => ad (i + 70)) 17) (gx_A (fun i => ad (i + 70)) 17) a) (gx_A (fun i => ad (i + 70)) 17)) (hV : lz_V D K ad σ τ ρ μ lt o s H) (hS : va_S (gx_A ad 88) s.heap H locs)
    (kk : ∀ (r : Int32) (u : gx_U) (H1 : Heap) (locs1 : List Loc), post r u → (∀ ρ' μ' lt', u = (mq_n ρ', rx_t μ' lt') → lz_V D K ad σ τ ρ' μ' lt' o s H1) → va_S (gx_A ad 88) s.heap H1 locs1 → W p l e R s m args below meth c H1 locs1 (cells + mc) (slots + ms) Q (F0 m (pc + 3) ls (.int r :: rest))) : W p l e R s m args below meth c H locs cells slots Q (F0 m pc ls st0) :=
  va_calli hr hS (fun _ _ h => lz_A2 h) (fun _ h => lz_A2 h) (fun r u t H1 locs1 ht _ hp hB _ hk hS1 => kk r u H1 locs1 hp (fun ρ' μ' lt' hu => lz_refB hV (by rw [hu] at hB; exact hB) ht hk) hS1)
theorem lz_calllR {post : Int64 → gx_U → Prop} (hr : va_Run p l e R s m args below meth c H locs cells slots mc ms (F0 m pc ls st0) rest (va_Ql post (gx_B D mx_cl (rx_E (fun i => ad (i + 70)) K) (fun i => ad (i + 70)) 17) (gx_A (fun i => ad (i + 70)) 17) a) (gx_A (fun i => ad (i + 70)) 17)) (hV : lz_V D K ad σ τ ρ μ lt o s H) (hS : va_S (gx_A ad 88) s.heap H locs)
    (kk : ∀ (r : Int64) (u : gx_U) (H1 : Heap) (locs1 : List Loc), post r u → (∀ ρ' μ' lt', u = (mq_n ρ', rx_t μ' lt') → lz_V D K ad σ τ ρ' μ' lt' o s H1) → va_S (gx_A ad 88) s.heap H1 locs1 → W p l e R s m args below meth c H1 locs1 (cells + mc) (slots + ms) Q (F0 m (pc + 3) ls (.long r :: rest))) : W p l e R s m args below meth c H locs cells slots Q (F0 m pc ls st0) :=
  va_calll hr hS (fun _ _ h => lz_A2 h) (fun _ h => lz_A2 h) (fun r u t H1 locs1 ht _ hp hB _ hk hS1 => kk r u H1 locs1 hp (fun ρ' μ' lt' hu => lz_refB hV (by rw [hu] at hB; exact hB) ht hk) hS1)
theorem lz_callX {X : String} (hr : vx_Run p l e R s m args below meth c H locs cells slots 1 6 (F0 m pc ls st0) rest (tx_no a) (tx_X D K ad X σ τ) (gx_A ad 70)) (hV : lz_V D K ad σ τ ρ μ lt o s H) (hS : va_S (gx_A ad 88) s.heap H locs)
    (kx : ∀ (ce : Cell) (q9 : Addr) (H1 : Heap) (locs1 : List Loc), lz_V D K ad σ τ ρ μ lt o s H1 → va_S (gx_A ad 88) s.heap H1 locs1 → H1[q9]? = some ce → ce.vm = .none → s.vm.findClass X = some ce.cls → vx_W p l e R s m args below meth c H1 locs1 (cells + 1) (slots + 6) Q (F0 m pc ls rest) q9) : W p l e R s m args below meth c H locs cells slots Q (F0 m pc ls st0) :=
  vx_calli hr hS (fun _ _ h => h.elim) (fun _ h => lz_A1 h) (fun _ _ h => lz_A1 h) (fun E ce q9 u t H1 locs1 ht _ hp hB _ hk hS1 h1 h2 h3 => by
    obtain ⟨rfl, hB⟩ := hB
    subst hp
    exact kx ce q9 H1 locs1 (lz_clsB hV hB ht hk) hS1 h1 h2 h3) (fun r u t H1 locs1 _ _ hp _ _ _ _ => hp.elim)
/-- the law's own long is written -/
theorem lz_ast {cc : ByteArray} (hexec : p.tables.exec = Jvm.exec) (hb : c.code = cc) (hV : lz_V D K ad σ τ ρ μ lt o s H) (hS : va_S (gx_A ad 88) s.heap H locs) {x : Int64} (hdg : decode cc pc = .ok (.lastore, 1))
    (kk : ∀ (o' : Nat → Int64) (H1 : Heap) (locs1 : List Loc), o' 0 = x → lz_V D K ad σ τ ρ μ lt o' s H1 → va_S (gx_A ad 88) s.heap H1 locs1 → W p l e R s m args below meth c H1 locs1 cells slots Q (F0 m (pc + 1) ls rest)) : W p l e R s m args below meth c H locs cells slots Q (F0 m pc ls (.long x :: .int (nI 0) :: .ref (ad 87) :: rest)) :=
  gx_last lz_loc hexec hb hV hS (j := 87) (by omega) 3 lz_eO rfl 0 (by omega) (by decide) rfl hdg (lz_t τ μ lt (vp_updL o 0 x)) rfl (fun i h => by
    unfold lz_t
    by_cases a : i < 70
    · rw [if_pos a, if_pos a]
    · rw [if_neg a, if_neg a]
      by_cases b : i < 87
      · rw [if_pos b, if_pos b]
      · rw [if_neg b, if_neg b, if_neg h, if_neg h]) (fun H1 locs1 hV1 hS1 => kk _ H1 locs1 rfl hV1 hS1)
end LZC
