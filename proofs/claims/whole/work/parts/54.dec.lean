/-! what the class decides is what the reference decides -/
theorem rr_R.own {σ : Nat → Nat → Int32} {τ : Nat → Nat → Int64} {ρ : Nat → Nat → Nat} {μ : Nat → Int64} {lt : Int64} {pl : Nat → Nat → List Nat} (h : rr_R σ τ ρ μ lt pl) {p i : Nat} (hp : p < 4) (hi : i < 4) : σ (23 + 6 * p) i = mq_oI (mq_holder ρ p i) := by
  have hO := h.2.2.2.2.1.1 p hp i hi
  obtain ⟨h1, h2⟩ := mq_fnd_sp (p := mq_hold ρ p i) 24 0
  cases hf : mq_holder ρ p i with
  | none => exact hO.2 (fun x hx => h2 hf x (by omega) (by omega))
  | some x =>
    obtain ⟨-, g2, g3, -⟩ := h1 x hf
    exact hO.1 x (by omega) g3
theorem mq_holder_lt {ρ : Nat → Nat → Nat} {p i x : Nat} (h : mq_holder ρ p i = some x) : x < 24 := by
  have := ((mq_fnd_sp (p := mq_hold ρ p i) 24 0).1 x h).2.1
  omega
theorem rr_R.freeB {σ : Nat → Nat → Int32} {τ : Nat → Nat → Int64} {ρ : Nat → Nat → Nat} {μ : Nat → Int64} {lt : Int64} {pl : Nat → Nat → List Nat} (h : rr_R σ τ ρ μ lt pl) {p i : Nat} (hp : p < 4) (hi : i < 4) : (σ (23 + 6 * p) i = -1) ↔ (mq_holder ρ p i).isNone = true := by
  rw [h.own hp hi]
  cases hf : mq_holder ρ p i with
  | none => simp [mq_oI]
  | some x =>
    have := rr_m1 (mq_holder_lt hf)
    simp [mq_oI, this]
theorem mq_first_of {ρ : Nat → Nat → Nat} {pl : Nat → Nat → List Nat} (hP : mq_Pl ρ pl) {w g x : Nat} (hk : mq_ok w g) (hf : mq_first ρ w g = some x) : ∃ t, pl w g = x :: t := by
  rw [hP.first hk] at hf
  exact List.head?_eq_some_iff.mp hf
theorem rr_ansD {ρ : Nat → Nat → Nat} {pl : Nat → Nat → List Nat} (hP : mq_Pl ρ pl) {m k : Nat} (hm : m < 3) (hd : mq_ansD ρ m = some k) : k < 4 ∧ (pl 5 m).length < 4 ∧ ∃ x t, pl 4 (3 + (ρ 10 m + k) % 4) = x :: t ∧ x / 8 = m ∧ mq_answers ρ m = mq_ansM ρ m ((ρ 10 m + k) % 4) x := by
  have ok5 : mq_ok 5 m := Or.inl ⟨by simp, hm⟩
  have hd0 := hd
  unfold mq_ansD at hd
  split at hd
  · cases hd
  · next hc =>
    rw [hP.many ok5] at hc
    obtain ⟨-, g2, g3, -⟩ := (mq_fnd_sp (p := mq_ansK ρ m) 4 0).1 k hd
    unfold mq_ansK at g3
    cases hf : mq_first ρ 4 (3 + (ρ 10 m + k) % 4) with
    | none => rw [hf] at g3; cases g3
    | some x =>
      rw [hf] at g3
      obtain ⟨t, ht⟩ := mq_first_of hP (Or.inr ⟨by simp, by omega, by omega⟩) hf
      refine ⟨by omega, by omega, x, t, ht, by simpa using g3, ?_⟩
      unfold mq_answers
      rw [hd0]
      show mq_ansM ρ m ((ρ 10 m + k) % 4) ((mq_first ρ 4 (3 + (ρ 10 m + k) % 4)).getD 0) = _
      rw [hf]
      rfl
theorem rr_ansN {ρ : Nat → Nat → Nat} {m : Nat} (hd : mq_ansD ρ m = none) : mq_answers ρ m = ρ := by
  unfold mq_answers
  rw [hd]
theorem mq_free_sp {ρ : Nat → Nat → Nat} {p i : Nat} (h : mq_free ρ p = some i) : i < 4 ∧ ∀ y, y < 24 → mq_hold ρ p i y = false := by
  obtain ⟨-, g2, g3, -⟩ := (mq_fnd_sp (p := fun i => (mq_holder ρ p i).isNone) 4 0).1 i h
  refine ⟨by omega, fun y hy => ?_⟩
  have hn : mq_holder ρ p i = none := by
    cases hf : mq_holder ρ p i with
    | none => rfl
    | some x => rw [hf] at g3; cases g3
  exact (mq_fnd_sp (p := mq_hold ρ p i) 24 0).2 hn y (by omega) (by omega)
theorem rr_reqD {ρ : Nat → Nat → Nat} {pl : Nat → Nat → List Nat} (hP : mq_Pl ρ pl) {p k : Nat} (hp : p < 4) (hd : mq_reqD ρ p = some k) : k < 3 ∧ (pl 2 (3 + p)).length < 2 ∧ ∃ i x t, mq_free ρ p = some i ∧ i < 4 ∧ (∀ y, y < 24 → mq_hold ρ p i y = false) ∧ pl 1 ((ρ 11 p + k) % 3) = x :: t ∧ mq_port (ρ 5 x) = p ∧ mq_fetch ρ p = mq_reqM ρ p ((ρ 11 p + k) % 3) x i := by
  have ok2 : mq_ok 2 (3 + p) := Or.inr ⟨by simp, by omega, by omega⟩
  have hd0 := hd
  unfold mq_reqD at hd
  split at hd
  · cases hd
  · next hc =>
    rw [hP.many ok2] at hc
    obtain ⟨-, g2, g3, -⟩ := (mq_fnd_sp (p := mq_reqK ρ p) 3 0).1 k hd
    unfold mq_reqK at g3
    cases hfr : mq_free ρ p with
    | none => exact absurd (Or.inl hfr) hc
    | some i =>
      obtain ⟨hi, hno⟩ := mq_free_sp hfr
      cases hf : mq_first ρ 1 ((ρ 11 p + k) % 3) with
      | none => rw [hf] at g3; cases g3
      | some x =>
        rw [hf] at g3
        obtain ⟨t, ht⟩ := mq_first_of hP (w := 1) (g := (ρ 11 p + k) % 3) (Or.inl ⟨by simp, by omega⟩) hf
        refine ⟨by omega, by omega, i, x, t, rfl, hi, hno, ht, by simpa using g3, ?_⟩
        unfold mq_fetch
        rw [hd0]
        show mq_reqM ρ p ((ρ 11 p + k) % 3) ((mq_first ρ 1 ((ρ 11 p + k) % 3)).getD 0) ((mq_free ρ p).getD 0) = _
        rw [hf, hfr]
        rfl
theorem rr_reqN {ρ : Nat → Nat → Nat} {p : Nat} (hd : mq_reqD ρ p = none) : mq_fetch ρ p = ρ := by
  unfold mq_fetch
  rw [hd]
