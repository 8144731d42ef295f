/-! the reference's world: 17 cells (itself, then its arrays), numbers all of them but for longs -/
def mq_n (ρ : Nat → Nat → Nat) : Nat → Nat → Int32 := fun j k => nI (ρ j k)
theorem rx_up {ρ : Nat → Nat → Nat} {j k v : Nat} : cx_up (mq_n ρ) j k (nI v) = mq_n (mq_up ρ j k v) := by
  funext i q
  unfold cx_up mq_n mq_up
  split <;> rfl
/-- the reference's longs: bytes (cell 6), latest (cell 0) -/
def rx_t (μ : Nat → Int64) (lt : Int64) : Nat → Nat → Int64 := fun j k => if j = 6 then μ k else if j = 0 ∧ k = 0 then lt else 0
theorem rx_t6 {μ : Nat → Int64} {lt v : Int64} {x : Nat} : gx_upL (rx_t μ lt) 6 x v = rx_t (mq_upL μ x v) lt := by
  funext j k
  unfold gx_upL rx_t mq_upL
  by_cases hj : j = 6
  · subst hj
    simp
  · simp [hj]
theorem rx_t0 {μ : Nat → Int64} {lt v : Int64} : gx_upL (rx_t μ lt) 0 0 v = rx_t μ v := by
  funext j k
  unfold gx_upL rx_t
  by_cases hj : j = 6
  · subst hj
    simp
  · by_cases h0 : j = 0 ∧ k = 0
    · simp [hj, h0]
    · simp [hj, h0]
def rx_len (j : Nat) : Nat := if j = 10 then 3 else if j = 11 ∨ j = 12 ∨ j = 13 then 4 else if j = 14 then 640 else if j = 15 then 32 else if j = 16 then 8 else 24
def rx_E (ad : Nat → Nat) (K : Nat → ClassId) : gx_L := fun σ τ j =>
  if j = 0 then .inr (5, [.int (σ j 0), .ref (ad 1), .ref (ad 2), .ref (ad 3), .ref (ad 4), .ref (ad 5), .ref (ad 6), .ref (ad 7), .ref (ad 8), .int (σ j 1), .ref (ad 9), .ref (ad 10), .ref (ad 11), .ref (ad 12), .ref (ad 13), .ref (ad 14), .ref (ad 15), .ref (ad 16), .long (τ j 0), .int (σ j 2)])
  else if j = 6 then .inl (K 3, 24, .inr (.inl (τ j)))
  else if j = 9 then .inl (K 2, 3, .inl (σ j))
  else .inl (K 0, rx_len j, .inl (σ j))
theorem rx_loc {ad : Nat → Nat} {K : Nat → ClassId} : gx_loc (rx_E ad K) := by
  intro σ σ' τ τ' i h1 h2
  simp only [rx_E, h1, h2]
section RXE
variable {ad : Nat → Nat} {K : Nat → ClassId} {σ : Nat → Nat → Int32} {τ : Nat → Nat → Int64}
theorem rx_E_0 : rx_E ad K σ τ 0 = .inr (5, [.int (σ 0 0), .ref (ad 1), .ref (ad 2), .ref (ad 3), .ref (ad 4), .ref (ad 5), .ref (ad 6), .ref (ad 7), .ref (ad 8), .int (σ 0 1), .ref (ad 9), .ref (ad 10), .ref (ad 11), .ref (ad 12), .ref (ad 13), .ref (ad 14), .ref (ad 15), .ref (ad 16), .long (τ 0 0), .int (σ 0 2)]) := rfl
theorem rx_E_1 : rx_E ad K σ τ 1 = .inl (K 0, 24, .inl (σ 1)) := rfl
theorem rx_E_2 : rx_E ad K σ τ 2 = .inl (K 0, 24, .inl (σ 2)) := rfl
theorem rx_E_3 : rx_E ad K σ τ 3 = .inl (K 0, 24, .inl (σ 3)) := rfl
theorem rx_E_4 : rx_E ad K σ τ 4 = .inl (K 0, 24, .inl (σ 4)) := rfl
theorem rx_E_5 : rx_E ad K σ τ 5 = .inl (K 0, 24, .inl (σ 5)) := rfl
theorem rx_E_7 : rx_E ad K σ τ 7 = .inl (K 0, 24, .inl (σ 7)) := rfl
theorem rx_E_8 : rx_E ad K σ τ 8 = .inl (K 0, 24, .inl (σ 8)) := rfl
theorem rx_E_10 : rx_E ad K σ τ 10 = .inl (K 0, 3, .inl (σ 10)) := rfl
theorem rx_E_11 : rx_E ad K σ τ 11 = .inl (K 0, 4, .inl (σ 11)) := rfl
theorem rx_E_12 : rx_E ad K σ τ 12 = .inl (K 0, 4, .inl (σ 12)) := rfl
theorem rx_E_13 : rx_E ad K σ τ 13 = .inl (K 0, 4, .inl (σ 13)) := rfl
theorem rx_E_14 : rx_E ad K σ τ 14 = .inl (K 0, 640, .inl (σ 14)) := rfl
theorem rx_E_15 : rx_E ad K σ τ 15 = .inl (K 0, 32, .inl (σ 15)) := rfl
theorem rx_E_16 : rx_E ad K σ τ 16 = .inl (K 0, 8, .inl (σ 16)) := rfl
theorem rx_E_6 : rx_E ad K σ τ 6 = .inl (K 3, 24, .inr (.inl (τ 6))) := rfl
theorem rx_E_9 : rx_E ad K σ τ 9 = .inl (K 2, 3, .inl (σ 9)) := rfl
end RXE
def rx_Z (_ : Nat → Prop) (_ : State) (_ : Heap) : Prop := True
theorem rx_ok {A : Nat → Prop} : gx_ok A (rx_Z A) := fun _ _ _ _ _ _ _ => trivial
abbrev rx_P (D : va_G) (K : Nat → ClassId) (ad : Nat → Nat) (σ : Nat → Nat → Int32) (τ : Nat → Nat → Int64) : State → Prop := gx_P D mx_cl (mx_tys K) (rx_E ad K) ad 17 (rx_Z (gx_A ad 17)) σ τ
abbrev rx_Qi (D : va_G) (K : Nat → ClassId) (ad : Nat → Nat) (post : Int32 → gx_U → Prop) : Array Value → State → Outcome → State → Prop := va_Qi post (gx_B D mx_cl (rx_E ad K) ad 17) (gx_A ad 17)
abbrev rx_Ql (D : va_G) (K : Nat → ClassId) (ad : Nat → Nat) (post : Int64 → gx_U → Prop) : Array Value → State → Outcome → State → Prop := va_Ql post (gx_B D mx_cl (rx_E ad K) ad 17) (gx_A ad 17)
abbrev rx_Qv (D : va_G) (K : Nat → ClassId) (ad : Nat → Nat) (post : gx_U → Prop) : Array Value → State → Outcome → State → Prop := va_Qv post (gx_B D mx_cl (rx_E ad K) ad 17) (gx_A ad 17)
section GXZ
variable {p : Program} {l : Launch} {e : Env} {R : Room} {s : State} {m : MethodId} {args : Array Value} {below : List Frame} {meth : Method} {c : Code} {H : Heap} {locs : List Loc} {cells slots : Nat} {Q : State → Prop}
variable {cc : ByteArray} {pc : Nat} {ls : Array Slot} {rest : List Value} {D : va_G} {cl : List vw_C} {tys : List (ClassId × FieldType)}
variable {E : gx_L} {ad : Nat → Nat} {N : Nat} {σ : Nat → Nat → Int32} {τ : Nat → Nat → Int64}
theorem gx_zast (hE : gx_loc E) (hexec : p.tables.exec = Jvm.exec) (hb : c.code = cc) (hV : gx_V D cl tys E ad N σ τ s H) (hS : va_S (gx_A ad N) s.heap H locs) {j : Nat} (hj : j < N) (t0 : Nat) {cA : ClassId} {n : Nat} {f : Nat → Int32} (he : E σ τ j = .inl (cA, n, .inl f)) (ht : tys[t0]? = some (cA, .boolean)) {i x : Int32} (k : Nat) (hk : k < n) (hn : n < 2 ^ 31) (hi : i = nI k) (hdg : decode cc pc = .ok (.bastore, 1))
    (σ' : Nat → Nat → Int32) (he' : E σ' τ j = .inl (cA, n, .inl (upd f k (vp_nar .boolean x)))) (h1 : ∀ i, i ≠ j → σ' i = σ i)
    (kk : ∀ (H1 : Heap) (locs1 : List Loc), gx_V D cl tys E ad N σ' τ s H1 → va_S (gx_A ad N) s.heap H1 locs1 → W p l e R s m args below meth c H1 locs1 cells slots Q (F0 m (pc + 1) ls rest)) : W p l e R s m args below meth c H locs cells slots Q (F0 m pc ls (.int x :: .int i :: .ref (ad j) :: rest)) := by
  obtain ⟨g1, g2⟩ := gx_ia hk hn hi
  exact va_zast hexec hb hV.2.1 hV.1 (gx_D hV.2.2) hS j t0 (gx_at hj he) ht g1 hdg (fun H1 locs1 hP1 _ hS1 => kk H1 locs1 ⟨by rw [g2, gx_set hE hj he' h1 (fun _ _ => rfl)] at hP1; exact hP1, hV.2.1, hV.2.2⟩ hS1)
end GXZ
/-- whose place: a master's number, or one below minus the port's -/
def mq_who (g : Nat) : Int32 := if g < 3 then nI g else -1 - nI (g - 3)
theorem mq_who_lo {g : Nat} (h : g < 3) : mq_who g = nI g := if_pos h
theorem mq_who_hi {p : Nat} : mq_who (3 + p) = -1 - nI p := by
  unfold mq_who
  rw [if_neg (by omega), show 3 + p - 3 = p by omega]
theorem mq_neg : ∀ p, p < 4 → (-1 : Int32) - nI p < 0 := by decide +kernel
theorem mq_nn : ∀ p, p < 4 → (-1 : Int32) - (-1 - nI p) = nI p := by decide +kernel
/-- what holds of every state of the reference -/
def mq_V (ρ : Nat → Nat → Nat) : Prop := (∀ x, x < 24 → ρ 1 x ≤ 5 ∧ (ρ 1 x ≠ 0 → ρ 2 x < 2 ^ 31 ∧ ρ 3 x < 3 ∧ (∃ z, z < 4 ∧ ρ 4 x = 2 ^ z) ∧ ρ 5 x < 1024 ∧ ρ 5 x % ρ 4 x = 0 ∧ ρ 7 x < 256 ∧ (2 ≤ ρ 1 x → ρ 1 x ≤ 4 → ρ 8 x < 4))) ∧ (∀ m, m < 3 → ρ 9 m ≤ 1 ∧ ρ 10 m < 4) ∧ (∀ p, p < 4 → ρ 11 p < 3 ∧ ρ 12 p < 16) ∧ (∀ a, a < 640 → ρ 14 a < 256) ∧ ρ 16 3 ≤ ρ 0 1
theorem rr_R.V {σ : Nat → Nat → Int32} {τ : Nat → Nat → Int64} {ρ : Nat → Nat → Nat} {μ : Nat → Int64} {lt : Int64} {pl : Nat → Nat → List Nat} (h : rr_R σ τ ρ μ lt pl) (hm : ρ 0 1 < 2 ^ 31) : mq_V ρ := by
  obtain ⟨hL, hP, hJ, hM, hO, hG, hB, hT⟩ := h
  refine ⟨fun x hx => ⟨hP.2.2 x hx, fun h0 => ?_⟩, fun m hm' => ?_, fun p hp => ?_, fun a ha => (hB.1 a ha).1, hB.2.2.2⟩
  · obtain ⟨⟨-, a⟩, ⟨z, hz, -, hz2⟩, ⟨-, b, c⟩, ⟨-, d⟩, -⟩ := hG x hx h0
    have := hP.2.1 x hx h0
    exact ⟨by omega, a, ⟨z, hz, hz2⟩, b, c, d, hO.2 x hx⟩
  · obtain ⟨⟨lp, -, -, e⟩, ⟨a, -⟩, -⟩ := hM m hm'
    exact ⟨a, by omega⟩
  · obtain ⟨-, -, -, -, a, -, lm, -, -, e⟩ := hJ p hp
    exact ⟨by omega, a⟩
