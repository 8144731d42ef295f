/-! pure rows: request, accept, take; what is asked -/
def mq_rq (ρ : Nat → Nat → Nat) (x so z a mk : Nat) : Nat → Nat → Nat := mq_inc (mq_go (mq_up (mq_up (mq_up (mq_up ρ 3 x so) 4 x (2 ^ z)) 5 x a) 7 x mk) x 1) 1
theorem mq_rq_sp {ρ : Nat → Nat → Nat} {x so z a mk : Nat} : (∀ y, mq_rq ρ x so z a mk 1 y = if y = x then 1 else ρ 1 y) ∧ (∀ y, mq_rq ρ x so z a mk 2 y = if y = x then ρ 0 1 else ρ 2 y) ∧ (∀ y, mq_rq ρ x so z a mk 3 y = if y = x then so else ρ 3 y) ∧ (∀ y, mq_rq ρ x so z a mk 4 y = if y = x then 2 ^ z else ρ 4 y) ∧ (∀ y, mq_rq ρ x so z a mk 5 y = if y = x then a else ρ 5 y) ∧ (∀ y, mq_rq ρ x so z a mk 7 y = if y = x then mk else ρ 7 y) ∧ (∀ j q, 3 ≤ j → j ≠ 3 → j ≠ 4 → j ≠ 5 → j ≠ 7 → j ≠ 16 → mq_rq ρ x so z a mk j q = ρ j q) ∧ (∀ q, mq_rq ρ x so z a mk 16 q = if q = 1 then ρ 16 1 + 1 else ρ 16 q) ∧ mq_rq ρ x so z a mk 0 1 = ρ 0 1 + 1 := by
  unfold mq_rq mq_inc mq_go mq_up
  refine ⟨fun y => by simp, fun y => by simp, fun y => by simp, fun y => by simp, fun y => by simp, fun y => by simp, fun j q h3 g3 g4 g5 g7 g16 => ?_, fun q => by simp, by simp⟩
  have h0 : j ≠ 0 := by omega
  have h1 : j ≠ 1 := by omega
  have h2 : j ≠ 2 := by omega
  simp [h0, h1, h2, g3, g4, g5, g7, g16]
def cx_rq (σ : Nat → Nat → Int32) (m x n so z a mk b q : Nat) : Nat → Nat → Int32 :=
  cx_up (cx_up (cx_app (cx_up (cx_up (cx_up (cx_up σ (43 + x) 0 (nI so)) (43 + x) 1 (nI z)) (43 + x) 2 (nI a)) (43 + x) 4 (nI mk)) (3 + 5 * m) n (nI x)) (2 + 5 * m) 2 (nI (b ||| 2 ^ q))) 69 1 (σ 69 1 + 1)
theorem cx_rq_n {σ : Nat → Nat → Int32} {m x n so z a mk b q j : Nat} (h1 : j ≠ 69) (h2 : j ≠ 2 + 5 * m) (h3 : j ≠ 3 + 5 * m) (h4 : j ≠ 4 + 5 * m) (h5 : j ≠ 43 + x) : cx_rq σ m x n so z a mk b q j = σ j := by
  unfold cx_rq
  rw [cx_up_J h1, cx_up_J h2, cx_app_n h3 (by omega), cx_up_J h5, cx_up_J h5, cx_up_J h5, cx_up_J h5]
theorem mq_or_bits {b q : Nat} (hb : b < 256) (hq : q < 8) : b ||| 2 ^ q < 256 := by
  have h1 : 2 ^ q < 2 ^ 8 := Nat.pow_lt_pow_right (by omega) hq
  exact Nat.or_lt_two_pow (n := 8) hb h1
theorem rr_O.keep2 {σ σ' : Nat → Nat → Int32} {ρ ρ' : Nat → Nat → Nat} (h : rr_O σ ρ) (hs : ∀ q, q < 4 → σ' (23 + 6 * q) = σ (23 + 6 * q)) (hh : ∀ q i y, y < 24 → (mq_hold ρ' q i y = true ↔ mq_hold ρ q i y = true)) (h8 : ∀ y, y < 24 → 2 ≤ ρ' 1 y → ρ' 1 y ≤ 4 → 2 ≤ ρ 1 y ∧ ρ 1 y ≤ 4 ∧ ρ' 8 y = ρ 8 y) : rr_O σ' ρ' := by
  obtain ⟨hO1, hO2⟩ := h
  refine ⟨fun q hq i hi => ⟨fun y hy g => ?_, fun hno => ?_⟩, fun y hy a b => ?_⟩
  · rw [hs q hq]
    exact (hO1 q hq i hi).1 y hy ((hh q i y hy).mp g)
  · rw [hs q hq]
    refine (hO1 q hq i hi).2 fun y hy => ?_
    cases hb : mq_hold ρ q i y with
    | false => rfl
    | true =>
      have := hno y hy
      rw [(hh q i y hy).mpr hb] at this
      cases this
  · obtain ⟨a', b', e⟩ := h8 y hy a b
    rw [e]
    exact hO2 y hy a' b'
theorem rr_R.rq {σ : Nat → Nat → Int32} {τ : Nat → Nat → Int64} {ρ : Nat → Nat → Nat} {μ : Nat → Int64} {lt : Int64} {pl : Nat → Nat → List Nat} (h : rr_R σ τ ρ μ lt pl) {m q so z a mk b : Nat} {d : Int64} (hm : m < 3) (hq : q < 8) (hso : so < 3) (hz : z < 4) (ha : a < 1024) (hal : a % 2 ^ z = 0) (hmk : mk < 256) (h0 : ρ 1 (8 * m + q) = 0) (hl : (pl 1 m).length < 8) (hb : b < 256) (hb1 : σ (2 + 5 * m) 2 = nI b) (hb2 : ∀ s, s < 8 → b.testBit s = decide (ρ 1 (8 * m + s) ≠ 0)) :
    rr_R (cx_rq σ m (8 * m + q) (pl 1 m).length so z a mk b q) (gx_upL τ (43 + (8 * m + q)) 0 d) (mq_rq ρ (8 * m + q) so z a mk) (mq_upL μ (8 * m + q) d) lt (mq_set pl 1 m (pl 1 m ++ [8 * m + q])) := by
  obtain ⟨hL, hP, hJ, hM, hO, hG, hB, hT⟩ := h
  generalize hx : 8 * m + q = x at h0 ⊢
  have hx24 : x < 24 := by omega
  have ok1 : mq_ok 1 m := Or.inl ⟨by simp, hm⟩
  obtain ⟨e1, e2, e3, e4, e5, e7, eo, e16, e01⟩ := mq_rq_sp (ρ := ρ) (x := x) (so := so) (z := z) (a := a) (mk := mk)
  have l1 : rr_ln 1 m = 3 + 5 * m := by simp [rr_ln]
  refine ⟨?_, ?_, ?_, ?_, ?_, ?_, ?_, ?_⟩
  · have g0 := (((hL.upF (j := 43 + x) (k := 0) (v := nI so) (rr_freeB (by omega))).upF (j := 43 + x) (k := 1) (v := nI z) (rr_freeB (by omega))).upF (j := 43 + x) (k := 2) (v := nI a) (rr_freeB (by omega))).upF (j := 43 + x) (k := 4) (v := nI mk) (rr_freeB (by omega))
    have g1 := g0.app (w := 1) (g := m) (x := x) ok1 (by omega) (by simpa [rr_room] using hl)
    rw [l1] at g1
    exact (g1.upF (rr_freeM hm)).upF (rr_freeB (by omega))
  · refine hP.join ok1 hx24 h0 (by rw [e1]; simp) (by rw [e2]; simp) (by unfold mq_in; rw [if_pos hm]; omega) (fun y hy => by rw [e1, if_neg hy]) (fun y hy => by rw [e2, if_neg hy]) (fun y hy => by rw [e5, if_neg hy]) e01
  · intro p hp
    rw [mq_set_n (by omega), cx_rq_n (by omega) (by omega) (by omega) (by omega) (by omega), eo 12 p (by omega) (by omega) (by omega) (by omega) (by omega) (by omega), eo 13 p (by omega) (by omega) (by omega) (by omega) (by omega) (by omega), eo 11 p (by omega) (by omega) (by omega) (by omega) (by omega) (by omega)]
    exact hJ p hp
  · intro i hi
    obtain ⟨ha1, ha2, bb, c1, c2, c3⟩ := hM i hi
    rw [eo 10 i (by omega) (by omega) (by omega) (by omega) (by omega) (by omega), eo 9 i (by omega) (by omega) (by omega) (by omega) (by omega) (by omega)]
    by_cases him : i = m
    · subst him
      have hs : ∀ k, k ≠ 2 → cx_rq σ i x (pl 1 i).length so z a mk b q (2 + 5 * i) k = σ (2 + 5 * i) k := fun k hk => by
        unfold cx_rq
        rw [cx_up_J (by omega), cx_up_k hk, cx_app_n (by omega) (by omega), cx_up_J (by omega), cx_up_J (by omega), cx_up_J (by omega), cx_up_J (by omega)]
      rw [hs 4 (by omega), hs 3 (by omega)]
      refine ⟨ha1, ha2, b ||| 2 ^ q, mq_or_bits hb hq, ?_, fun s hs' => ?_⟩
      · unfold cx_rq
        rw [cx_up_J (by omega), cx_up_s]
      · rw [Nat.testBit_or, hb2 s hs', Nat.testBit_two_pow, e1]
        by_cases hsq : q = s
        · subst hsq
          simp [hx]
        · have : 8 * i + s ≠ x := by omega
          simp [hsq, this]
    · rw [cx_rq_n (by omega) (by omega) (by omega) (by omega) (by omega)]
      refine ⟨ha1, ha2, bb, c1, c2, fun s hs' => ?_⟩
      rw [c3 s hs', e1, if_neg (by omega)]
  · refine hO.keep2 (fun p hp => cx_rq_n (by omega) (by omega) (by omega) (by omega) (by omega)) (fun p i y _ => ?_) (fun y _ g2 g4 => ?_)
    · rw [mq_hold_iff, mq_hold_iff, e1, e5, eo 8 y (by omega) (by omega) (by omega) (by omega) (by omega) (by omega)]
      by_cases hyx : y = x
      · subst hyx
        rw [if_pos rfl, h0]
        constructor
        · rintro ⟨g, -⟩; omega
        · rintro ⟨g, -⟩; omega
      · rw [if_neg hyx, if_neg hyx]
    · rw [e1] at g2 g4
      by_cases hyx : y = x
      · rw [if_pos hyx] at g2; omega
      · rw [if_neg hyx] at g2 g4
        exact ⟨g2, g4, eo 8 y (by omega) (by omega) (by omega) (by omega) (by omega) (by omega)⟩
  · intro y hy hy0
    by_cases hyx : y = x
    · subst hyx
      unfold rr_G1
      rw [e3, e4, e5, e7]
      simp only [if_true]
      have hs : ∀ k, cx_rq σ m y (pl 1 m).length so z a mk b q (43 + y) k = cx_up (cx_up (cx_up (cx_up σ (43 + y) 0 (nI so)) (43 + y) 1 (nI z)) (43 + y) 2 (nI a)) (43 + y) 4 (nI mk) (43 + y) k := fun k => by
        unfold cx_rq
        rw [cx_up_J (by omega), cx_up_J (by omega), cx_app_n (by omega) (by omega)]
      refine ⟨⟨?_, hso⟩, ⟨z, hz, ?_, rfl⟩, ⟨?_, ha, hal⟩, ⟨?_, hmk⟩, ?_⟩
      · rw [hs]; simp [cx_up]
      · rw [hs]; simp [cx_up]
      · rw [hs]; simp [cx_up]
      · rw [hs]; simp [cx_up]
      · rw [gx_upL_s]; simp [mq_upL]
    · rw [e1, if_neg hyx] at hy0
      have := hG y hy hy0
      unfold rr_G1 at this ⊢
      rw [cx_rq_n (by omega) (by omega) (by omega) (by omega) (by omega), e3, e4, e5, e7, if_neg hyx, if_neg hyx, if_neg hyx, if_neg hyx, gx_upL_J (by omega)]
      refine ⟨this.1, this.2.1, this.2.2.1, this.2.2.2.1, ?_⟩
      rw [this.2.2.2.2]
      simp [mq_upL, hyx]
  · obtain ⟨hB1, hB2, hB3, hB4⟩ := hB
    refine ⟨fun c hc => ?_, fun k hk => ?_, fun k hk => ?_, ?_⟩
    · rw [cx_rq_n (by omega) (by omega) (by omega) (by omega) (by omega), eo 14 c (by omega) (by omega) (by omega) (by omega) (by omega) (by omega)]
      exact hB1 c hc
    · rw [cx_rq_n (by omega) (by omega) (by omega) (by omega) (by omega), eo 15 k (by omega) (by omega) (by omega) (by omega) (by omega) (by omega)]
      exact hB2 k hk
    · rw [e16]
      unfold cx_rq
      by_cases hk1 : k = 1
      · subst hk1
        rw [cx_up_s, if_pos rfl, hB3 1 (by omega), nI_succ]
      · rw [cx_up_k hk1, if_neg hk1, cx_up_J (by omega), cx_app_n (by omega) (by omega), cx_up_J (by omega), cx_up_J (by omega), cx_up_J (by omega), cx_up_J (by omega)]
        exact hB3 k hk
    · rw [e16, e01, if_neg (by omega)]
      omega
  · rw [gx_upL_J (by omega)]
    exact hT
/-! accept -/
theorem rr_R.acc {σ : Nat → Nat → Int32} {τ : Nat → Nat → Int64} {ρ : Nat → Nat → Nat} {μ : Nat → Int64} {lt : Int64} {pl : Nat → Nat → List Nat} (h : rr_R σ τ ρ μ lt pl) {m y : Nat} (hm : m < 3) (hy : y ≤ 1) : rr_R (cx_up σ (2 + 5 * m) 3 (nI y)) τ (mq_up ρ 9 m (1 - y)) μ lt pl := by
  obtain ⟨hL, hP, hJ, hM, hO, hG, hB, hT⟩ := h
  refine ⟨hL.upF (rr_freeM hm), hP, ?_, ?_, ?_, ?_, ?_, hT⟩
  · intro p hp
    rw [cx_up_J (by omega)]
    exact hJ p hp
  · intro i hi
    obtain ⟨a1, a2, a3⟩ := hM i hi
    by_cases him : i = m
    · subst him
      rw [cx_up_k (by omega), cx_up_s, cx_up_k (by omega), mq_up_s]
      exact ⟨a1, ⟨by omega, by rw [show 1 - (1 - y) = y by omega]⟩, a3⟩
    · have e : ∀ j, mq_up ρ 9 m (1 - y) j i = ρ j i := fun j => mq_up_k him
      rw [cx_up_J (by omega), e 10, e 9]
      exact ⟨a1, a2, a3⟩
  · exact hO.keep (fun q hq => cx_up_J (by omega)) (fun _ _ => Iff.rfl) (fun _ => rfl) (fun _ => rfl)
  · exact hG.keep (fun _ _ z => z) (fun q hq => cx_up_J (by omega)) (fun _ => rfl) (fun _ => rfl) (fun _ => rfl) (fun _ => rfl) (fun _ _ => rfl) (fun _ _ => rfl)
  · exact hB.keep (cx_up_J (by omega)) (cx_up_J (by omega)) (cx_up_J (by omega)) (fun _ => rfl) (fun _ => rfl) (fun _ => rfl) (Nat.le_refl _)
/-! take -/
def mq_tk (ρ : Nat → Nat → Nat) (x : Nat) : Nat → Nat → Nat :=
  mq_up (mq_up (mq_up ρ 1 x 0) 16 5 (ρ 16 5 + 1)) 16 6 (ρ 16 6 + (if 640 ≤ ρ 5 x then 1 else 0))
def cx_tk (σ : Nat → Nat → Int32) (m n b q : Nat) (dn : Nat) : Nat → Nat → Int32 :=
  cx_up (cx_up (cx_up (cx_rem σ (5 + 5 * m) n) (2 + 5 * m) 2 (nI (b ^^^ 2 ^ q))) 69 5 (σ 69 5 + 1)) 69 6 (σ 69 6 + nI dn)
theorem cx_tk_n {σ : Nat → Nat → Int32} {m n b q dn j : Nat} (h1 : j ≠ 69) (h2 : j ≠ 2 + 5 * m) (h3 : j ≠ 5 + 5 * m) (h4 : j ≠ 6 + 5 * m) : cx_tk σ m n b q dn j = σ j := by
  unfold cx_tk
  rw [cx_up_J h1, cx_up_J h1, cx_up_J h2, cx_rem_n h3 (by omega)]
theorem mq_tk_sp {ρ : Nat → Nat → Nat} {x : Nat} : (∀ y, mq_tk ρ x 1 y = if y = x then 0 else ρ 1 y) ∧ (∀ j q, j ≠ 1 → j ≠ 16 → mq_tk ρ x j q = ρ j q) ∧ (∀ q, mq_tk ρ x 16 q = if q = 6 then ρ 16 6 + (if 640 ≤ ρ 5 x then 1 else 0) else if q = 5 then ρ 16 5 + 1 else ρ 16 q) := by
  unfold mq_tk mq_up
  refine ⟨fun y => by simp, fun j q h1 h16 => by simp [h1, h16], fun q => by simp⟩
theorem mq_xor_bits {b q : Nat} (hb : b < 256) (hq : q < 8) : b ^^^ 2 ^ q < 256 := by
  have h1 : 2 ^ q < 2 ^ 8 := Nat.pow_lt_pow_right (by omega) hq
  exact Nat.xor_lt_two_pow (n := 8) hb h1
theorem rr_R.tk {σ : Nat → Nat → Int32} {τ : Nat → Nat → Int64} {ρ : Nat → Nat → Nat} {μ : Nat → Int64} {lt : Int64} {pl : Nat → Nat → List Nat} (h : rr_R σ τ ρ μ lt pl) {m x b : Nat} {t : List Nat} (hm : m < 3) (hh : pl 5 m = x :: t) (hb : b < 256) (hb1 : σ (2 + 5 * m) 2 = nI b) (hb2 : ∀ s, s < 8 → b.testBit s = decide (ρ 1 (8 * m + s) ≠ 0)) :
    rr_R (cx_tk σ m t.length b (x % 8) (if 640 ≤ ρ 5 x then 1 else 0)) (gx_upL τ 0 0 (μ x)) (mq_tk ρ x) μ (μ x) (mq_set pl 5 m t) := by
  obtain ⟨hL, hP, hJ, hM, hO, hG, hB, hT⟩ := h
  have ok5 : mq_ok 5 m := Or.inl ⟨by simp, hm⟩
  obtain ⟨hx1, hx2, hx3⟩ := hP.mem ok5 (x := x) (by rw [hh]; simp)
  have hxm : x / 8 = m := by
    unfold mq_in at hx3
    rw [if_pos hm] at hx3
    exact hx3
  obtain ⟨e1, eo, e16⟩ := mq_tk_sp (ρ := ρ) (x := x)
  have l5 : rr_ln 5 m = 5 + 5 * m := by simp [rr_ln]
  generalize hdn : (if 640 ≤ ρ 5 x then 1 else 0 : Nat) = dn at e16 ⊢
  refine ⟨?_, ?_, ?_, ?_, ?_, ?_, ?_, ?_⟩
  · have g1 := hL.rem ok5 (by omega) hh
    rw [l5] at g1
    exact ((g1.upF (rr_freeM hm)).upF (rr_freeB (by omega))).upF (rr_freeB (by omega))
  · exact hP.leave ok5 hh (by rw [e1]; simp) (fun y hy => by rw [e1, if_neg hy]) (fun y => eo 2 y (by omega) (by omega)) (fun y _ => eo 5 y (by omega) (by omega)) (eo 0 1 (by omega) (by omega))
  · intro p hp
    rw [mq_set_n (by omega), cx_tk_n (by omega) (by omega) (by omega) (by omega), eo 12 p (by omega) (by omega), eo 13 p (by omega) (by omega), eo 11 p (by omega) (by omega)]
    exact hJ p hp
  · intro i hi
    obtain ⟨ha1, ha2, bb, c1, c2, c3⟩ := hM i hi
    rw [eo 10 i (by omega) (by omega), eo 9 i (by omega) (by omega)]
    by_cases him : i = m
    · subst him
      have hs : ∀ k, k ≠ 2 → cx_tk σ i t.length b (x % 8) dn (2 + 5 * i) k = σ (2 + 5 * i) k := fun k hk => by
        unfold cx_tk
        rw [cx_up_J (by omega), cx_up_J (by omega), cx_up_k hk, cx_rem_n (by omega) (by omega)]
      rw [hs 4 (by omega), hs 3 (by omega)]
      refine ⟨ha1, ha2, b ^^^ 2 ^ (x % 8), mq_xor_bits hb (by omega), ?_, fun s hs' => ?_⟩
      · unfold cx_tk
        rw [cx_up_J (by omega), cx_up_J (by omega), cx_up_s]
      · rw [Nat.testBit_xor, hb2 s hs', Nat.testBit_two_pow, e1]
        by_cases hsq : x % 8 = s
        · have hxe : 8 * i + s = x := by omega
          rw [hxe, hx2]
          simp [hsq]
        · have : 8 * i + s ≠ x := by omega
          simp [hsq, this]
    · rw [cx_tk_n (by omega) (by omega) (by omega) (by omega)]
      refine ⟨ha1, ha2, bb, c1, c2, fun s hs' => ?_⟩
      rw [c3 s hs', e1, if_neg (by omega)]
  · refine hO.keep2 (fun p hp => cx_tk_n (by omega) (by omega) (by omega) (by omega)) (fun p i y _ => ?_) (fun y _ g2 g4 => ?_)
    · rw [mq_hold_iff, mq_hold_iff, e1, eo 5 y (by omega) (by omega), eo 8 y (by omega) (by omega)]
      by_cases hyx : y = x
      · subst hyx
        rw [if_pos rfl, hx2]
        constructor
        · rintro ⟨g, -⟩; omega
        · rintro ⟨-, g, -⟩; omega
      · rw [if_neg hyx]
    · rw [e1] at g2 g4
      by_cases hyx : y = x
      · rw [if_pos hyx] at g2; omega
      · rw [if_neg hyx] at g2 g4
        exact ⟨g2, g4, eo 8 y (by omega) (by omega)⟩
  · refine hG.keep (fun y _ g0 => ?_) (fun y hy => cx_tk_n (by omega) (by omega) (by omega) (by omega)) (fun y => eo 3 y (by omega) (by omega)) (fun y => eo 4 y (by omega) (by omega)) (fun y => eo 5 y (by omega) (by omega)) (fun y => eo 7 y (by omega) (by omega)) (fun y _ => by rw [gx_upL_J (by omega)]) (fun _ _ => rfl)
    rw [e1] at g0
    by_cases hyx : y = x
    · rw [if_pos hyx] at g0; exact absurd rfl g0
    · rw [if_neg hyx] at g0; exact g0
  · obtain ⟨hB1, hB2, hB3, hB4⟩ := hB
    refine ⟨fun c hc => ?_, fun k hk => ?_, fun k hk => ?_, ?_⟩
    · rw [cx_tk_n (by omega) (by omega) (by omega) (by omega), eo 14 c (by omega) (by omega)]
      exact hB1 c hc
    · rw [cx_tk_n (by omega) (by omega) (by omega) (by omega), eo 15 k (by omega) (by omega)]
      exact hB2 k hk
    · rw [e16]
      unfold cx_tk
      by_cases hk6 : k = 6
      · subst hk6
        rw [cx_up_s, if_pos rfl, hB3 6 (by omega), nI_add]
      · rw [cx_up_k hk6, if_neg hk6]
        by_cases hk5 : k = 5
        · subst hk5
          rw [cx_up_s, if_pos rfl, hB3 5 (by omega), nI_succ]
        · rw [cx_up_k hk5, if_neg hk5, cx_up_J (by omega), cx_rem_n (by omega) (by omega)]
          exact hB3 k hk
    · rw [e16, eo 0 1 (by omega) (by omega), if_neg (by omega), if_neg (by omega)]
      exact hB4
  · rw [gx_upL_s]
