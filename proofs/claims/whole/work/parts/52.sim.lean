/-! one step of the class beside one of the reference: a job begins, a request is fetched, the count goes down -/
theorem rr_O.keep {σ σ' : Nat → Nat → Int32} {ρ ρ' : Nat → Nat → Nat} (h : rr_O σ ρ) (hs : ∀ q, q < 4 → σ' (23 + 6 * q) = σ (23 + 6 * q)) (h1 : ∀ y, y < 24 → ((2 ≤ ρ' 1 y ∧ ρ' 1 y ≤ 4) ↔ (2 ≤ ρ 1 y ∧ ρ 1 y ≤ 4))) (h5 : ∀ y, ρ' 5 y = ρ 5 y) (h8 : ∀ y, ρ' 8 y = ρ 8 y) : rr_O σ' ρ' := by
  obtain ⟨hO1, hO2⟩ := h
  have hh : ∀ q i y, y < 24 → (mq_hold ρ' q i y = true ↔ mq_hold ρ q i y = true) := by
    intro q i y hy
    rw [mq_hold_iff, mq_hold_iff, h5, h8]
    constructor
    · rintro ⟨a, b, c, d⟩
      obtain ⟨a', b'⟩ := (h1 y hy).mp ⟨a, b⟩
      exact ⟨a', b', c, d⟩
    · rintro ⟨a, b, c, d⟩
      obtain ⟨a', b'⟩ := (h1 y hy).mpr ⟨a, b⟩
      exact ⟨a', b', c, d⟩
  refine ⟨fun q hq i hi => ⟨fun y hy g => ?_, fun hno => ?_⟩, fun y hy a b => ?_⟩
  · rw [hs q hq]
    exact (hO1 q hq i hi).1 y hy ((hh q i y hy).mp g)
  · rw [hs q hq]
    refine (hO1 q hq i hi).2 fun y hy => ?_
    cases hb : mq_hold ρ q i y with
    | false => rfl
    | true =>
      have := hno y hy
      rw [(hh q i y hy).mpr hb] at this
      cases this
  · rw [h8]
    obtain ⟨a', b'⟩ := (h1 y hy).mp ⟨a, b⟩
    exact hO2 y hy a' b'
theorem rr_M.keep {σ σ' : Nat → Nat → Int32} {ρ ρ' : Nat → Nat → Nat} (h : rr_M σ ρ) (hs : ∀ q, q < 3 → σ' (2 + 5 * q) = σ (2 + 5 * q)) (h1 : ∀ y, (ρ' 1 y ≠ 0 ↔ ρ 1 y ≠ 0)) (h9 : ∀ y, ρ' 9 y = ρ 9 y) (h10 : ∀ y, ρ' 10 y = ρ 10 y) : rr_M σ' ρ' := by
  intro q hq
  obtain ⟨a, b, bb, c1, c2, c3⟩ := h q hq
  refine ⟨by rw [hs q hq, h10]; exact a, by rw [hs q hq, h9]; exact b, bb, c1, by rw [hs q hq]; exact c2, fun s hs' => ?_⟩
  rw [c3 s hs']
  exact decide_eq_decide.mpr (h1 _).symm
theorem rr_B.keep {σ σ' : Nat → Nat → Int32} {ρ ρ' : Nat → Nat → Nat} (h : rr_B σ ρ) (h67 : σ' 67 = σ 67) (h68 : σ' 68 = σ 68) (h69 : σ' 69 = σ 69) (h14 : ∀ y, ρ' 14 y = ρ 14 y) (h15 : ∀ y, ρ' 15 y = ρ 15 y) (h16 : ∀ y, ρ' 16 y = ρ 16 y) (h0 : ρ 0 1 ≤ ρ' 0 1) : rr_B σ' ρ' := by
  obtain ⟨a, b, c, d⟩ := h
  refine ⟨fun i hi => by rw [h67, h14]; exact a i hi, fun i hi => by rw [h68, h15]; exact b i hi, fun i hi => by rw [h69, h16]; exact c i hi, by rw [h16]; omega⟩
/-- countDown -/
theorem rr_R.cd {σ : Nat → Nat → Int32} {τ : Nat → Nat → Int64} {ρ : Nat → Nat → Nat} {μ : Nat → Int64} {lt : Int64} {pl : Nat → Nat → List Nat} (h : rr_R σ τ ρ μ lt pl) {p : Nat} (hp : p < 4) :
    rr_R (cx_up σ (18 + 6 * p) 4 (nI (ρ 12 p - 1))) τ (mq_up ρ 12 p (ρ 12 p - 1)) μ lt pl := by
  obtain ⟨hL, hP, hJ, hM, hO, hG, hB, hT⟩ := h
  have e : ∀ i q, i ≠ 12 → mq_up ρ 12 p (ρ 12 p - 1) i q = ρ i q := fun i q hi => mq_up_j hi
  refine ⟨hL.upF (rr_freeP hp), ?_, ?_, ?_, ?_, ?_, ?_, hT⟩
  · obtain ⟨a, b, c⟩ := hP
    exact ⟨a, b, c⟩
  · intro q hq
    have hq' := hJ q hq
    by_cases hqp : q = p
    · subst hqp
      obtain ⟨j1, j2, j3, j4, j5, j6, lm, j7, j8, j9⟩ := hq'
      refine ⟨j1, by rw [cx_up_k (by omega)]; exact j2, by rw [cx_up_s, mq_up_s], fun h0 => by rw [mq_up_s, j4 h0], by rw [mq_up_s]; omega, by rw [cx_up_k (by omega), e 13 q (by omega)]; exact j6, lm, j7, by rw [cx_up_k (by omega)]; exact j8, by rw [e 11 q (by omega)]; exact j9⟩
    · rw [cx_up_J (by omega), mq_up_k hqp, e 13 q (by omega), e 11 q (by omega)]
      exact hq'
  · exact hM.keep (fun q hq => cx_up_J (by omega)) (fun y => by rw [e 1 y (by omega)]) (fun y => e 9 y (by omega)) (fun y => e 10 y (by omega))
  · exact hO.keep (fun q hq => cx_up_J (by omega)) (fun y _ => by rw [e 1 y (by omega)]) (fun y => e 5 y (by omega)) (fun y => e 8 y (by omega))
  · exact hG.keep (fun y _ h0 => by rw [e 1 y (by omega)] at h0; exact h0) (fun y hy => cx_up_J (by omega)) (fun y => e 3 y (by omega)) (fun y => e 4 y (by omega)) (fun y => e 5 y (by omega)) (fun y => e 7 y (by omega)) (fun _ _ => rfl) (fun _ _ => rfl)
  · exact hB.keep (cx_up_J (by omega)) (cx_up_J (by omega)) (cx_up_J (by omega)) (fun y => e 14 y (by omega)) (fun y => e 15 y (by omega)) (fun y => e 16 y (by omega)) (Nat.le_of_eq (e 0 1 (by omega)).symm)
/-- beginJob -/
def cx_beg (σ : Nat → Nat → Int32) (p nt x v : Nat) : Nat → Nat → Int32 := cx_up (cx_up (cx_rem σ (19 + 6 * p) nt) (18 + 6 * p) 3 (nI x)) (18 + 6 * p) 4 (nI v)
theorem cx_beg_n {σ : Nat → Nat → Int32} {p nt x v j : Nat} (h1 : j ≠ 18 + 6 * p) (h2 : j ≠ 19 + 6 * p) (h3 : j ≠ 20 + 6 * p) : cx_beg σ p nt x v j = σ j := by
  unfold cx_beg
  rw [cx_up_J h1, cx_up_J h1, cx_rem_n h2 (by omega)]
theorem rr_R.beg {σ : Nat → Nat → Int32} {τ : Nat → Nat → Int64} {ρ : Nat → Nat → Nat} {μ : Nat → Int64} {lt : Int64} {pl : Nat → Nat → List Nat} (h : rr_R σ τ ρ μ lt pl) {p x v : Nat} {t : List Nat} (hp : p < 4) (hh : pl 2 (3 + p) = x :: t) (hj : pl 3 (3 + p) = []) (hv : v < 16) :
    rr_R (cx_beg σ p t.length x v) τ (mq_go (mq_up ρ 12 p v) x 3) μ lt (mq_set (mq_set pl 2 (3 + p) t) 3 (3 + p) [x]) := by
  obtain ⟨hL, hP, hJ, hM, hO, hG, hB, hT⟩ := h
  have ok2 : mq_ok 2 (3 + p) := Or.inr ⟨by simp, by omega, by omega⟩
  have ok3 : mq_ok 3 (3 + p) := Or.inr ⟨by simp, by omega, by omega⟩
  obtain ⟨hx1, hx2, hx3⟩ := hP.mem ok2 (x := x) (by rw [hh]; simp)
  have e1 : ∀ y, mq_go (mq_up ρ 12 p v) x 3 1 y = if y = x then 3 else ρ 1 y := fun y => by rw [mq_go_1, mq_up_j (by omega)]
  have e2 : ∀ y, mq_go (mq_up ρ 12 p v) x 3 2 y = if y = x then ρ 0 1 else ρ 2 y := fun y => by rw [mq_go_2, mq_up_j (by omega), mq_up_j (by omega)]
  have e01 : mq_go (mq_up ρ 12 p v) x 3 0 1 = ρ 0 1 + 1 := by rw [mq_go_01, mq_up_j (by omega)]
  have eo : ∀ i q, 3 ≤ i → i ≠ 12 → mq_go (mq_up ρ 12 p v) x 3 i q = ρ i q := fun i q h3 h12 => by rw [mq_go_n (by omega) (by omega) (by omega), mq_up_j h12]
  have e12 : ∀ q, mq_go (mq_up ρ 12 p v) x 3 12 q = if q = p then v else ρ 12 q := fun q => by
    rw [mq_go_n (by omega) (by omega) (by omega)]
    simp [mq_up]
  have hne0 : ∀ y, (mq_go (mq_up ρ 12 p v) x 3 1 y ≠ 0 ↔ ρ 1 y ≠ 0) := by
    intro y
    rw [e1]
    by_cases hy : y = x
    · subst hy; simp [hx2]
    · simp [hy]
  have l2 : rr_ln 2 (3 + p) = 19 + 6 * p := by simp [rr_ln]
  refine ⟨?_, ?_, ?_, ?_, ?_, ?_, ?_, hT⟩
  · have g1 := hL.rem ok2 (by omega) hh
    rw [l2] at g1
    exact ((g1.upF (rr_freeP hp)).upF (rr_freeP hp)).keep (fun a b _ ha => mq_set_n (by omega)) (fun _ _ _ _ => ⟨rfl, rfl⟩)
  · have := hP.move ok2 hh ok3 (by omega) hx3 e1 e2 (fun y => eo 5 y (by omega) (by omega)) e01
    rw [hj] at this
    exact this
  · intro q hq
    obtain ⟨j1, j2, j3, j4, j5, j6, lm, j7, j8, j9⟩ := hJ q hq
    by_cases hqp : q = p
    · subst hqp
      have hs : ∀ k, k ≠ 3 → k ≠ 4 → cx_beg σ q t.length x v (18 + 6 * q) k = σ (18 + 6 * q) k := fun k h3 h4 => by
        unfold cx_beg
        rw [cx_up_k h4, cx_up_k h3, cx_rem_n (by omega) (by omega)]
      rw [mq_set_s]
      refine ⟨by simp, ?_, ?_, fun z => (by cases z), ?_, ?_, lm, j7, ?_, ?_⟩
      · unfold cx_beg
        rw [cx_up_k (by omega), cx_up_s]
        rfl
      · unfold cx_beg
        rw [cx_up_s, e12, if_pos rfl]
      · rw [e12, if_pos rfl]; exact hv
      · rw [hs 5 (by omega) (by omega), eo 13 q (by omega) (by omega)]; exact j6
      · rw [hs 6 (by omega) (by omega)]; exact j8
      · rw [eo 11 q (by omega) (by omega)]; exact j9
    · rw [mq_set_n (by omega), mq_set_n (by omega), cx_beg_n (by omega) (by omega) (by omega), e12, if_neg hqp, eo 13 q (by omega) (by omega), eo 11 q (by omega) (by omega)]
      exact ⟨j1, j2, j3, j4, j5, j6, lm, j7, j8, j9⟩
  · exact hM.keep (fun q hq => cx_beg_n (by omega) (by omega) (by omega)) hne0 (fun y => eo 9 y (by omega) (by omega)) (fun y => eo 10 y (by omega) (by omega))
  · refine hO.keep (fun q hq => cx_beg_n (by omega) (by omega) (by omega)) (fun y _ => ?_) (fun y => eo 5 y (by omega) (by omega)) (fun y => eo 8 y (by omega) (by omega))
    rw [e1]
    by_cases hy : y = x
    · subst hy; simp [hx2]
    · simp [hy]
  · exact hG.keep (fun y _ h0 => (hne0 y).mp h0) (fun y hy => cx_beg_n (by omega) (by omega) (by omega)) (fun y => eo 3 y (by omega) (by omega)) (fun y => eo 4 y (by omega) (by omega)) (fun y => eo 5 y (by omega) (by omega)) (fun y => eo 7 y (by omega) (by omega)) (fun _ _ => rfl) (fun _ _ => rfl)
  · exact hB.keep (cx_beg_n (by omega) (by omega) (by omega)) (cx_beg_n (by omega) (by omega) (by omega)) (cx_beg_n (by omega) (by omega) (by omega)) (fun y => eo 14 y (by omega) (by omega)) (fun y => eo 15 y (by omega) (by omega)) (fun y => eo 16 y (by omega) (by omega)) (by omega)
/-- moveRequest -/
def cx_mvr (σ : Nat → Nat → Int32) (p m nt nq x i : Nat) : Nat → Nat → Int32 :=
  cx_up (cx_up (cx_app (cx_up (cx_rem σ (3 + 5 * m) nt) (23 + 6 * p) i (nI x)) (19 + 6 * p) nq (nI x)) (18 + 6 * p) 6 (nI m)) 69 2 (σ 69 2 + 1)
theorem cx_mvr_n {σ : Nat → Nat → Int32} {p m nt nq x i j : Nat} (h1 : j ≠ 69) (h2 : j ≠ 18 + 6 * p) (h3 : j ≠ 19 + 6 * p) (h4 : j ≠ 20 + 6 * p) (h5 : j ≠ 23 + 6 * p) (h6 : j ≠ 3 + 5 * m) (h7 : j ≠ 4 + 5 * m) : cx_mvr σ p m nt nq x i j = σ j := by
  unfold cx_mvr
  rw [cx_up_J h1, cx_up_J h2, cx_app_n h3 (by omega), cx_up_J h5, cx_rem_n h6 (by omega)]
theorem mq_reqM_sp {ρ : Nat → Nat → Nat} {p m x i : Nat} : (∀ y, mq_reqM ρ p m x i 1 y = if y = x then 2 else ρ 1 y) ∧ (∀ y, mq_reqM ρ p m x i 2 y = if y = x then ρ 0 1 else ρ 2 y) ∧ (∀ j q, 3 ≤ j → j ≠ 8 → j ≠ 11 → j ≠ 16 → mq_reqM ρ p m x i j q = ρ j q) ∧ (∀ q, mq_reqM ρ p m x i 11 q = if q = p then (m + 1) % 3 else ρ 11 q) ∧ (∀ q, mq_reqM ρ p m x i 8 q = if q = x then i else ρ 8 q) ∧ (∀ q, mq_reqM ρ p m x i 16 q = if q = 2 then ρ 16 2 + 1 else ρ 16 q) ∧ mq_reqM ρ p m x i 0 1 = ρ 0 1 + 1 ∧ mq_reqM ρ p m x i 0 2 = 1 := by
  unfold mq_reqM mq_inc mq_go mq_up
  refine ⟨fun y => by simp, fun y => by simp, fun j q h3 h8 h11 h16 => ?_, fun q => by simp, fun q => by simp, fun q => by simp, by simp, by simp⟩
  have h0 : j ≠ 0 := by omega
  have h1 : j ≠ 1 := by omega
  have h2 : j ≠ 2 := by omega
  simp [h0, h1, h2, h8, h11, h16]
theorem rr_R.req {σ : Nat → Nat → Int32} {τ : Nat → Nat → Int64} {ρ : Nat → Nat → Nat} {μ : Nat → Int64} {lt : Int64} {pl : Nat → Nat → List Nat} (h : rr_R σ τ ρ μ lt pl) {p m x i : Nat} {t : List Nat} (hp : p < 4) (hm : m < 3) (hh : pl 1 m = x :: t) (hpx : mq_port (ρ 5 x) = p) (hl2 : (pl 2 (3 + p)).length < 2) (hi : i < 4) (hfree : ∀ y, y < 24 → mq_hold ρ p i y = false) :
    rr_R (cx_mvr σ p m t.length (pl 2 (3 + p)).length x i) τ (mq_reqM ρ p m x i) μ lt (mq_set (mq_set pl 1 m t) 2 (3 + p) (pl 2 (3 + p) ++ [x])) := by
  obtain ⟨hL, hP, hJ, hM, hO, hG, hB, hT⟩ := h
  have ok1 : mq_ok 1 m := Or.inl ⟨by simp, hm⟩
  have ok2 : mq_ok 2 (3 + p) := Or.inr ⟨by simp, by omega, by omega⟩
  obtain ⟨hx1, hx2, hx3⟩ := hP.mem ok1 (x := x) (by rw [hh]; simp)
  obtain ⟨e1, e2, eo, e11, e8, e16, e01, -⟩ := mq_reqM_sp (ρ := ρ) (p := p) (m := m) (x := x) (i := i)
  have hset : mq_set pl 1 m t 2 (3 + p) = pl 2 (3 + p) := mq_set_n (by omega)
  have hne0 : ∀ y, (mq_reqM ρ p m x i 1 y ≠ 0 ↔ ρ 1 y ≠ 0) := by
    intro y
    rw [e1]
    by_cases hy : y = x
    · subst hy; simp [hx2]
    · simp [hy]
  have l1 : rr_ln 1 m = 3 + 5 * m := by simp [rr_ln]
  have l2 : rr_ln 2 (3 + p) = 19 + 6 * p := by simp [rr_ln]
  refine ⟨?_, ?_, ?_, ?_, ?_, ?_, ?_, hT⟩
  · have g1 := hL.rem ok1 (by omega) hh
    have g2 := g1.upF (j := 23 + 6 * p) (k := i) (v := nI x) (rr_freeO hp)
    have g3 := g2.app (w := 2) (g := 3 + p) (x := x) ok2 (by omega) (by rw [hset]; simpa [rr_room] using hl2)
    rw [hset, l1, l2] at g3
    exact (g3.upF (rr_freeP hp)).upF (rr_freeB (by omega))
  · exact hP.move ok1 hh ok2 (by omega) (by unfold mq_in; rw [if_neg (by omega)]; omega) e1 e2 (fun y => eo 5 y (by omega) (by omega) (by omega) (by omega)) e01
  · intro q hq
    obtain ⟨j1, j2, j3, j4, j5, j6, lm, j7, j8, j9⟩ := hJ q hq
    rw [mq_set_n (by omega), mq_set_n (by omega), eo 12 q (by omega) (by omega) (by omega) (by omega), eo 13 q (by omega) (by omega) (by omega) (by omega), e11]
    by_cases hqp : q = p
    · subst hqp
      have hs : ∀ k, k ≠ 6 → cx_mvr σ q m t.length (pl 2 (3 + q)).length x i (18 + 6 * q) k = σ (18 + 6 * q) k := fun k h6 => by
        unfold cx_mvr
        rw [cx_up_J (by omega), cx_up_k h6, cx_app_n (by omega) (by omega), cx_up_J (by omega), cx_rem_n (by omega) (by omega)]
      rw [hs 3 (by omega), hs 4 (by omega), hs 5 (by omega), if_pos rfl]
      refine ⟨j1, j2, j3, j4, j5, j6, m, hm, ?_, rfl⟩
      unfold cx_mvr
      rw [cx_up_J (by omega), cx_up_s]
    · rw [cx_mvr_n (by omega) (by omega) (by omega) (by omega) (by omega) (by omega) (by omega), if_neg hqp]
      exact ⟨j1, j2, j3, j4, j5, j6, lm, j7, j8, j9⟩
  · exact hM.keep (fun q hq => cx_mvr_n (by omega) (by omega) (by omega) (by omega) (by omega) (by omega) (by omega)) hne0 (fun y => eo 9 y (by omega) (by omega) (by omega) (by omega)) (fun y => eo 10 y (by omega) (by omega) (by omega) (by omega))
  · obtain ⟨hO1, hO2⟩ := hO
    have hhold : ∀ q k y, mq_hold (mq_reqM ρ p m x i) q k y = true ↔ (mq_hold ρ q k y = true ∨ (y = x ∧ q = p ∧ k = i)) := by
      intro q k y
      rw [mq_hold_iff, mq_hold_iff, e1, e8, eo 5 y (by omega) (by omega) (by omega) (by omega)]
      by_cases hy : y = x
      · subst hy
        simp only [if_true]
        constructor
        · rintro ⟨-, -, a, b⟩
          exact Or.inr ⟨trivial, by omega, b.symm⟩
        · rintro (⟨a, b, -, -⟩ | ⟨-, a, b⟩)
          · omega
          · exact ⟨by omega, by omega, by omega, b.symm⟩
      · simp [hy]
    have hown : ∀ q k, cx_mvr σ p m t.length (pl 2 (3 + p)).length x i (23 + 6 * q) k = if q = p ∧ k = i then nI x else σ (23 + 6 * q) k := by
      intro q k
      unfold cx_mvr
      rw [cx_up_J (by omega), cx_up_J (by omega), cx_app_n (by omega) (by omega)]
      by_cases hq : q = p
      · subst hq
        by_cases hk : k = i
        · subst hk
          rw [cx_up_s, if_pos ⟨rfl, rfl⟩]
        · rw [cx_up_k hk, cx_rem_n (by omega) (by omega), if_neg (fun z => hk z.2)]
      · rw [cx_up_J (by omega), cx_rem_n (by omega) (by omega), if_neg (fun z => hq z.1)]
    refine ⟨fun q hq k hk => ⟨fun y hy g => ?_, fun hno => ?_⟩, fun y hy a b => ?_⟩
    · rw [hown]
      rcases (hhold q k y).mp g with g2 | ⟨rfl, rfl, rfl⟩
      · rw [if_neg]
        · exact (hO1 q hq k hk).1 y hy g2
        · intro z
          rw [z.1, z.2, hfree y hy] at g2
          cases g2
      · rw [if_pos ⟨rfl, rfl⟩]
    · rw [hown, if_neg]
      · refine (hO1 q hq k hk).2 fun y hy => ?_
        cases hb : mq_hold ρ q k y with
        | false => rfl
        | true =>
          have := hno y hy
          rw [(hhold q k y).mpr (Or.inl hb)] at this
          cases this
      · rintro ⟨rfl, rfl⟩
        have := hno x hx1
        rw [(hhold q k x).mpr (Or.inr ⟨rfl, rfl, rfl⟩)] at this
        cases this
    · rw [e8]
      rw [e1] at a b
      by_cases hy' : y = x
      · rw [if_pos hy']; exact hi
      · rw [if_neg hy'] at a b ⊢
        exact hO2 y hy a b
  · exact hG.keep (fun y _ h0 => (hne0 y).mp h0) (fun y hy => cx_mvr_n (by omega) (by omega) (by omega) (by omega) (by omega) (by omega) (by omega)) (fun y => eo 3 y (by omega) (by omega) (by omega) (by omega)) (fun y => eo 4 y (by omega) (by omega) (by omega) (by omega)) (fun y => eo 5 y (by omega) (by omega) (by omega) (by omega)) (fun y => eo 7 y (by omega) (by omega) (by omega) (by omega)) (fun _ _ => rfl) (fun _ _ => rfl)
  · obtain ⟨hB1, hB2, hB3, hB4⟩ := hB
    refine ⟨fun a ha => ?_, fun k hk => ?_, fun k hk => ?_, ?_⟩
    · rw [cx_mvr_n (by omega) (by omega) (by omega) (by omega) (by omega) (by omega) (by omega), eo 14 a (by omega) (by omega) (by omega) (by omega)]
      exact hB1 a ha
    · rw [cx_mvr_n (by omega) (by omega) (by omega) (by omega) (by omega) (by omega) (by omega), eo 15 k (by omega) (by omega) (by omega) (by omega)]
      exact hB2 k hk
    · rw [e16]
      by_cases h2 : k = 2
      · subst h2
        unfold cx_mvr
        rw [cx_up_s, if_pos rfl, hB3 2 (by omega), nI_succ]
      · rw [if_neg h2]
        unfold cx_mvr
        rw [cx_up_k h2, cx_up_J (by omega), cx_app_n (by omega) (by omega), cx_up_J (by omega), cx_rem_n (by omega) (by omega)]
        exact hB3 k hk
    · rw [e16, e01, if_neg (by omega)]
      omega
