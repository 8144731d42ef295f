/-! a job is done: the class's finishJob beside the reference's -/
theorem rr_wr {σ : Nat → Nat → Int32} {ρ : Nat → Nat → Nat} {so mk a : Nat} {d : Int64} (h : ∀ b, b < 640 → ρ 14 b < 256 ∧ σ 67 b = (nI (ρ 14 b)).toInt8.toInt32) : ∀ n b, b < 640 → mq_wr ρ so mk a d n 14 b < 256 ∧ cx_wr σ so mk a d n 67 b = (nI (mq_wr ρ so mk a d n 14 b)).toInt8.toInt32 := by
  intro n
  induction n with
  | zero => exact h
  | succ n ih =>
    intro b hb
    by_cases hc : so = 1 ∨ mk / 2 ^ n % 2 = 1
    · simp only [mq_wr, cx_wr, if_pos hc]
      by_cases e : b = a + n
      · subst e
        rw [mq_up_s, cx_up_s]
        exact ⟨Nat.mod_lt _ (by omega), rfl⟩
      · rw [mq_up_k e, cx_up_k e]
        exact ih b hb
    · simp only [mq_wr, cx_wr, if_neg hc]
      exact ih b hb
def cx_car (σ : Nat → Nat → Int32) (so mk a n : Nat) (d : Int64) : Nat → Nat → Int32 := if 640 ≤ a ∨ so = 0 then σ else cx_wr σ so mk a d n
theorem cx_car_n {σ : Nat → Nat → Int32} {so mk a n j : Nat} {d : Int64} (h : j ≠ 67) : cx_car σ so mk a n d j = σ j := by
  unfold cx_car
  split
  · rfl
  · exact cx_wr_n h
theorem mq_work_n {ρ : Nat → Nat → Nat} {d : Int64} {x j q : Nat} (h : j ≠ 14) : (mq_work ρ d x).1 j q = ρ j q := by
  unfold mq_work
  split
  · rfl
  · split
    · rfl
    · exact mq_wr_n h
theorem rr_car {σ : Nat → Nat → Int32} {ρ : Nat → Nat → Nat} {d : Int64} {x : Nat} (h : ∀ b, b < 640 → ρ 14 b < 256 ∧ σ 67 b = (nI (ρ 14 b)).toInt8.toInt32) : ∀ b, b < 640 → (mq_work ρ d x).1 14 b < 256 ∧ cx_car σ (ρ 3 x) (ρ 7 x) (ρ 5 x) (ρ 4 x) d 67 b = (nI ((mq_work ρ d x).1 14 b)).toInt8.toInt32 := by
  intro b hb
  unfold mq_work cx_car
  by_cases h1 : 640 ≤ ρ 5 x
  · rw [if_pos h1, if_pos (Or.inl h1)]
    exact h b hb
  · by_cases h2 : ρ 3 x = 0
    · rw [if_neg h1, if_pos h2, if_pos (Or.inr h2)]
      exact h b hb
    · rw [if_neg h1, if_neg h2, if_neg (by omega)]
      exact rr_wr h _ b hb
def cx_fin (σ : Nat → Nat → Int32) (p na x so mk a n c3 : Nat) (d : Int64) : Nat → Nat → Int32 :=
  cx_up (cx_up (cx_car (cx_up (cx_up (cx_app σ (21 + 6 * p) na (nI x)) (18 + 6 * p) 3 (-1)) (18 + 6 * p) 5 (σ (18 + 6 * p) 5 + 1)) so mk a n d) 68 (c3 % 32) (nI (64 * p + x))) 69 3 (σ 69 3 + 1)
theorem cx_fin_n {σ : Nat → Nat → Int32} {p na x so mk a n c3 j : Nat} {d : Int64} (h1 : j ≠ 69) (h2 : j ≠ 68) (h3 : j ≠ 67) (h4 : j ≠ 18 + 6 * p) (h5 : j ≠ 21 + 6 * p) (h6 : j ≠ 22 + 6 * p) : cx_fin σ p na x so mk a n c3 d j = σ j := by
  unfold cx_fin
  rw [cx_up_J h1, cx_up_J h2, cx_car_n h3, cx_up_J h4, cx_up_J h4, cx_app_n h5 (by omega)]
theorem mq_fin_sp {ρ : Nat → Nat → Nat} {p x : Nat} : (∀ y, mq_fin ρ p x 1 y = if y = x then 4 else ρ 1 y) ∧ (∀ y, mq_fin ρ p x 2 y = if y = x then ρ 0 1 else ρ 2 y) ∧ (∀ j q, 3 ≤ j → j ≠ 13 → j ≠ 15 → j ≠ 16 → mq_fin ρ p x j q = ρ j q) ∧ (∀ q, mq_fin ρ p x 13 q = if q = p then ρ 13 p + 1 else ρ 13 q) ∧ (∀ q, mq_fin ρ p x 15 q = if q = ρ 16 3 % 32 then 64 * p + x else ρ 15 q) ∧ (∀ q, mq_fin ρ p x 16 q = if q = 3 then ρ 16 3 + 1 else ρ 16 q) ∧ mq_fin ρ p x 0 1 = ρ 0 1 + 1 ∧ mq_fin ρ p x 0 2 = 1 := by
  unfold mq_fin mq_inc mq_go mq_up
  refine ⟨fun y => by simp, fun y => by simp, fun j q h3 h13 h15 h16 => ?_, fun q => by simp, fun q => by simp, fun q => by simp, by simp, by simp⟩
  have h0 : j ≠ 0 := by omega
  have h1 : j ≠ 1 := by omega
  have h2 : j ≠ 2 := by omega
  simp [h0, h1, h2, h13, h15, h16]
theorem rr_L.car {σ : Nat → Nat → Int32} {pl : Nat → Nat → List Nat} (h : rr_L σ pl) {so mk a n : Nat} {d : Int64} : rr_L (cx_car σ so mk a n d) pl :=
  h.keep (fun _ _ _ _ => rfl) (fun a b hab ha => by
    have hj := rr_freeB (j := 67) (by omega) a b hab ha
    rw [cx_car_n (Ne.symm hj.1), cx_car_n (Ne.symm hj.2)]
    exact ⟨rfl, rfl⟩)
theorem rr_R.fin {σ : Nat → Nat → Int32} {τ : Nat → Nat → Int64} {ρ : Nat → Nat → Nat} {μ : Nat → Int64} {lt : Int64} {pl : Nat → Nat → List Nat} (h : rr_R σ τ ρ μ lt pl) {p x : Nat} (hp : p < 4) (hj : pl 3 (3 + p) = [x]) (h0 : ρ 12 p = 0) (hl : (pl 4 (3 + p)).length < 2) :
    rr_R (cx_fin σ p (pl 4 (3 + p)).length x (ρ 3 x) (ρ 7 x) (ρ 5 x) (ρ 4 x) (ρ 16 3) (μ x)) (gx_upL τ (43 + x) 0 (mq_work ρ (μ x) x).2) (mq_fin (mq_work ρ (μ x) x).1 p x) (mq_upL μ x (mq_work ρ (μ x) x).2) lt (mq_set (mq_set pl 3 (3 + p) []) 4 (3 + p) (pl 4 (3 + p) ++ [x])) := by
  obtain ⟨hL, hP, hJ, hM, hO, hG, hB, hT⟩ := h
  have ok3 : mq_ok 3 (3 + p) := Or.inr ⟨by simp, by omega, by omega⟩
  have ok4 : mq_ok 4 (3 + p) := Or.inr ⟨by simp, by omega, by omega⟩
  obtain ⟨hx1, hx2, hx3⟩ := hP.mem ok3 (x := x) (by rw [hj]; simp)
  have hw : ∀ i q, i ≠ 14 → (mq_work ρ (μ x) x).1 i q = ρ i q := fun i q hi => mq_work_n hi
  obtain ⟨e1, e2, eo, e13, e15, e16, e01, -⟩ := mq_fin_sp (ρ := (mq_work ρ (μ x) x).1) (p := p) (x := x)
  have hcar := rr_car (d := μ x) (x := x) hB.1
  generalize hρ : (mq_work ρ (μ x) x).1 = ρw at hw e1 e2 eo e13 e15 e16 e01 hcar ⊢
  generalize hvv : (mq_work ρ (μ x) x).2 = vv
  have eo' : ∀ j q, 3 ≤ j → j ≠ 13 → j ≠ 14 → j ≠ 15 → j ≠ 16 → mq_fin ρw p x j q = ρ j q := fun j q h3 h13 h14 h15 h16 => by rw [eo j q h3 h13 h15 h16, hw j q h14]
  have f1 : ∀ y, mq_fin ρw p x 1 y = if y = x then 4 else ρ 1 y := fun y => by rw [e1, hw 1 y (by omega)]
  have f2 : ∀ y, mq_fin ρw p x 2 y = if y = x then ρ 0 1 else ρ 2 y := fun y => by rw [e2, hw 2 y (by omega), hw 0 1 (by omega)]
  have f01 : mq_fin ρw p x 0 1 = ρ 0 1 + 1 := by rw [e01, hw 0 1 (by omega)]
  have hne0 : ∀ y, (mq_fin ρw p x 1 y ≠ 0 ↔ ρ 1 y ≠ 0) := by
    intro y
    rw [f1]
    by_cases hy : y = x
    · subst hy; simp [hx2]
    · simp [hy]
  have l4 : rr_ln 4 (3 + p) = 21 + 6 * p := by simp [rr_ln]
  have hset : mq_set pl 3 (3 + p) [] 4 (3 + p) = pl 4 (3 + p) := mq_set_n (by omega)
  refine ⟨?_, ?_, ?_, ?_, ?_, ?_, ?_, ?_⟩
  · have g1 := hL.app (w := 4) (g := 3 + p) (x := x) ok4 (by omega) (by simpa [rr_room] using hl)
    rw [l4] at g1
    have g2 := ((((g1.upF (j := 18 + 6 * p) (k := 3) (v := -1) (rr_freeP hp)).upF (j := 18 + 6 * p) (k := 5) (v := σ (18 + 6 * p) 5 + 1) (rr_freeP hp)).car (so := ρ 3 x) (mk := ρ 7 x) (a := ρ 5 x) (n := ρ 4 x) (d := μ x)).upF (j := 68) (k := ρ 16 3 % 32) (v := nI (64 * p + x)) (rr_freeB (by omega))).upF (j := 69) (k := 3) (v := σ 69 3 + 1) (rr_freeB (by omega))
    refine g2.keep (fun a b hab ha => ?_) (fun _ _ _ _ => ⟨rfl, rfl⟩)
    by_cases e : a = 4 ∧ b = 3 + p
    · obtain ⟨rfl, rfl⟩ := e
      rw [mq_set_s, mq_set_s]
    · rw [mq_set_n e, mq_set_n e, mq_set_n (by omega)]
  · exact hP.move ok3 hj ok4 (by omega) hx3 f1 f2 (fun y => eo' 5 y (by omega) (by omega) (by omega) (by omega) (by omega)) f01
  · intro q hq
    obtain ⟨j1, j2, j3, j4, j5, j6, lm, j7, j8, j9⟩ := hJ q hq
    rw [mq_set_n (by omega), eo' 12 q (by omega) (by omega) (by omega) (by omega) (by omega), e13, eo' 11 q (by omega) (by omega) (by omega) (by omega) (by omega), hw 13 q (by omega), hw 13 p (by omega)]
    by_cases hqp : q = p
    · subst hqp
      have hs : ∀ k, k ≠ 3 → k ≠ 5 → cx_fin σ q (pl 4 (3 + q)).length x (ρ 3 x) (ρ 7 x) (ρ 5 x) (ρ 4 x) (ρ 16 3) (μ x) (18 + 6 * q) k = σ (18 + 6 * q) k := fun k h3 h5 => by
        unfold cx_fin
        rw [cx_up_J (by omega), cx_up_J (by omega), cx_car_n (by omega), cx_up_k h5, cx_up_k h3, cx_app_n (by omega) (by omega)]
      rw [mq_set_s, if_pos rfl]
      refine ⟨by simp, ?_, ?_, fun _ => h0, j5, ?_, lm, j7, ?_, j9⟩
      · unfold cx_fin
        rw [cx_up_J (by omega), cx_up_J (by omega), cx_car_n (by omega), cx_up_k (by omega), cx_up_s]
        rfl
      · rw [hs 4 (by omega) (by omega)]; exact j3
      · unfold cx_fin
        rw [cx_up_J (by omega), cx_up_J (by omega), cx_car_n (by omega), cx_up_s, j6, nI_succ]
      · rw [hs 6 (by omega) (by omega)]; exact j8
    · rw [mq_set_n (by omega), cx_fin_n (by omega) (by omega) (by omega) (by omega) (by omega) (by omega), if_neg hqp]
      exact ⟨j1, j2, j3, j4, j5, j6, lm, j7, j8, j9⟩
  · exact hM.keep (fun q hq => cx_fin_n (by omega) (by omega) (by omega) (by omega) (by omega) (by omega)) hne0 (fun y => eo' 9 y (by omega) (by omega) (by omega) (by omega) (by omega)) (fun y => eo' 10 y (by omega) (by omega) (by omega) (by omega) (by omega))
  · refine hO.keep (fun q hq => cx_fin_n (by omega) (by omega) (by omega) (by omega) (by omega) (by omega)) (fun y _ => ?_) (fun y => eo' 5 y (by omega) (by omega) (by omega) (by omega) (by omega)) (fun y => eo' 8 y (by omega) (by omega) (by omega) (by omega) (by omega))
    rw [f1]
    by_cases hy : y = x
    · subst hy; simp [hx2]
    · simp [hy]
  · intro y hy hy0
    have hg := hG y hy ((hne0 y).mp hy0)
    obtain ⟨a, b, c, d, e⟩ := hg
    unfold rr_G1
    rw [cx_fin_n (by omega) (by omega) (by omega) (by omega) (by omega) (by omega), eo' 3 y (by omega) (by omega) (by omega) (by omega) (by omega), eo' 4 y (by omega) (by omega) (by omega) (by omega) (by omega), eo' 5 y (by omega) (by omega) (by omega) (by omega) (by omega), eo' 7 y (by omega) (by omega) (by omega) (by omega) (by omega)]
    refine ⟨a, b, c, d, ?_⟩
    by_cases hyx : y = x
    · subst hyx
      rw [gx_upL_s]
      simp [mq_upL]
    · rw [gx_upL_J (by omega), e]
      simp [mq_upL, hyx]
  · obtain ⟨hB1, hB2, hB3, hB4⟩ := hB
    refine ⟨fun b hb => ?_, fun i hi => ?_, fun i hi => ?_, ?_⟩
    · have := hcar b hb
      rw [eo 14 b (by omega) (by omega) (by omega) (by omega)]
      refine ⟨this.1, ?_⟩
      unfold cx_fin
      rw [cx_up_J (by omega), cx_up_J (by omega), ← this.2]
      unfold cx_car
      split
      · rw [cx_up_J (by omega), cx_up_J (by omega), cx_app_n (by omega) (by omega)]
      · clear this hcar
        generalize ρ 4 x = n
        induction n with
        | zero => simp only [cx_wr]; rw [cx_up_J (by omega), cx_up_J (by omega), cx_app_n (by omega) (by omega)]
        | succ n ih =>
          simp only [cx_wr]
          split
          · by_cases hbn : b = ρ 5 x + n
            · subst hbn; rw [cx_up_s, cx_up_s]
            · rw [cx_up_k hbn, cx_up_k hbn]; exact ih
          · exact ih
    · rw [e15, hw 15 i (by omega), hw 16 3 (by omega)]
      unfold cx_fin
      rw [cx_up_J (by omega)]
      by_cases hi' : i = ρ 16 3 % 32
      · subst hi'
        rw [cx_up_s, if_pos rfl]
      · rw [cx_up_k hi', if_neg hi', cx_car_n (by omega), cx_up_J (by omega), cx_up_J (by omega), cx_app_n (by omega) (by omega)]
        exact hB2 i hi
    · rw [e16, hw 16 i (by omega), hw 16 3 (by omega)]
      unfold cx_fin
      by_cases hi' : i = 3
      · subst hi'
        rw [cx_up_s, if_pos rfl, hB3 3 (by omega), nI_succ]
      · rw [cx_up_k hi', if_neg hi', cx_up_J (by omega), cx_car_n (by omega), cx_up_J (by omega), cx_up_J (by omega), cx_app_n (by omega) (by omega)]
        exact hB3 i hi
    · rw [e16, f01, if_pos rfl, hw 16 3 (by omega)]
      omega
  · rw [gx_upL_J (by omega)]
    exact hT
