/-! the start: both sides are empty -/
theorem rr_0 : rr_R cx_s0 cx_l0 (fun _ _ => 0) (fun _ => 0) 0 (fun _ _ => []) := by
  refine ⟨?_, ?_, ?_, ?_, ?_, ?_, ?_, rfl⟩
  · intro w g hk hw
    refine ⟨⟨?_, fun i x h => by simp at h⟩, Nat.zero_le _⟩
    rcases rr_ln_in hk hw with ⟨q, hq, h | h⟩ | ⟨q, hq, h | h⟩ <;> rw [h]
    · rcases cx_3 hq with rfl | rfl | rfl <;> rfl
    · rcases cx_3 hq with rfl | rfl | rfl <;> rfl
    · rcases cx_4 hq with rfl | rfl | rfl | rfl <;> rfl
    · rcases cx_4 hq with rfl | rfl | rfl | rfl <;> rfl
  · refine ⟨fun w g hk => ⟨fun x => ⟨fun h => by simp at h, fun h => ?_⟩, List.Pairwise.nil⟩, fun x _ h => absurd rfl h, fun x _ => Nat.zero_le _⟩
    have h1 : (0 : Nat) = w := (mq_is_iff.mp h.2).1
    unfold mq_ok at hk
    omega
  · intro p hp
    refine ⟨Nat.zero_le _, ?_, ?_, fun _ => rfl, (show (0 : Nat) < 16 by decide), ?_, 2, by omega, ?_, rfl⟩ <;> rcases cx_4 hp with rfl | rfl | rfl | rfl <;> rfl
  · intro m hm
    refine ⟨⟨3, by omega, ?_, rfl⟩, ⟨Nat.zero_le _, ?_⟩, 0, by omega, ?_, fun s _ => by simp⟩ <;> rcases cx_3 hm with rfl | rfl | rfl <;> rfl
  · refine ⟨fun p hp i hi => ⟨fun x _ h => ?_, fun _ => ?_⟩, fun x _ h => absurd h (show ¬ 2 ≤ (0 : Nat) by decide)⟩
    · simp [mq_hold] at h
    · rcases cx_4 hp with rfl | rfl | rfl | rfl <;> (show (if i < 4 then (-1 : Int32) else 0) = -1; rw [if_pos hi])
  · intro x _ h
    exact absurd rfl h
  · exact ⟨fun a _ => ⟨(show (0 : Nat) < 256 by decide), rfl⟩, fun i _ => rfl, fun i _ => rfl, Nat.le_refl _⟩
/-! the code word (0, 0) is left alone -/
theorem mq_go_00 {ρ : Nat → Nat → Nat} {x w : Nat} : mq_go ρ x w 0 0 = ρ 0 0 := by
  unfold mq_go mq_up
  simp
theorem mq_rq_00 {ρ : Nat → Nat → Nat} {x so z a mk : Nat} : mq_rq ρ x so z a mk 0 0 = ρ 0 0 := by
  unfold mq_rq mq_inc
  rw [mq_up_j (by omega), mq_go_00, mq_up_j (by omega), mq_up_j (by omega), mq_up_j (by omega), mq_up_j (by omega)]
theorem mq_rq_01 {ρ : Nat → Nat → Nat} {x so z a mk : Nat} : mq_rq ρ x so z a mk 0 1 = ρ 0 1 + 1 := mq_rq_sp.2.2.2.2.2.2.2.2
theorem mq_ans_00 {ρ : Nat → Nat → Nat} {m : Nat} : mq_answers ρ m 0 0 = ρ 0 0 := by
  unfold mq_answers
  cases mq_ansD ρ m with
  | none => rfl
  | some k =>
    show mq_ansM ρ m _ _ 0 0 = _
    unfold mq_ansM mq_inc
    rw [mq_up_j (by omega), mq_go_00, mq_up_j (by omega)]
theorem mq_fetch_00 {ρ : Nat → Nat → Nat} {p : Nat} : mq_fetch ρ p 0 0 = ρ 0 0 := by
  unfold mq_fetch
  cases mq_reqD ρ p with
  | none => rfl
  | some k =>
    show mq_reqM ρ p _ _ _ 0 0 = _
    unfold mq_reqM mq_inc
    rw [mq_up_j (by omega), mq_go_00, mq_up_j (by omega), mq_up_j (by omega)]
theorem mq_begin_00 {ρ : Nat → Nat → Nat} {p : Nat} : mq_begin ρ p 0 0 = ρ 0 0 := by
  cases h : mq_first ρ 2 (3 + p) with
  | none => rw [mq_bg0 h]
  | some y => rw [mq_bg h, mq_go_00, mq_up_j (by omega)]
theorem mq_fin_00 {ρ : Nat → Nat → Nat} {p x : Nat} : mq_fin ρ p x 0 0 = ρ 0 0 := by
  unfold mq_fin mq_inc
  show mq_up _ 13 p _ 0 0 = _
  rw [mq_up_j (by omega), mq_up_j (by omega), mq_up_j (by omega), mq_go_00]
theorem mq_cd_00 {ρ : Nat → Nat → Nat} {p : Nat} : mq_cd ρ p 0 0 = ρ 0 0 := mq_up_j (by omega)
theorem mq_serve_00 {ρ : Nat → Nat → Nat} {μ : Nat → Int64} {p : Nat} : (mq_serve ρ μ p).1 0 0 = ρ 0 0 := by
  cases h : mq_first ρ 3 (3 + p) with
  | none => rw [mq_sv1 h]; exact mq_begin_00
  | some x =>
    cases hd : mq_finD (mq_cd ρ p) p with
    | none => rw [mq_sv2 h hd]; exact mq_cd_00 (ρ := ρ) (p := p)
    | some y =>
      rw [mq_sv3 h hd]
      show mq_begin _ p 0 0 = _
      rw [mq_begin_00, mq_fin_00, mq_work_n (by omega)]
      exact mq_cd_00 (ρ := ρ) (p := p)
theorem mq_ansN_00 {ρ : Nat → Nat → Nat} : ∀ n, mq_ansN ρ n 0 0 = ρ 0 0 := by
  intro n
  induction n with
  | zero => rfl
  | succ n ih => exact mq_ans_00.trans ih
theorem mq_srv_00 {ρ : Nat → Nat → Nat} {μ : Nat → Int64} : ∀ n, (mq_srv ρ μ n).1 0 0 = ρ 0 0 := by
  intro n
  induction n with
  | zero => rfl
  | succ n ih => exact mq_serve_00.trans ih
theorem mq_ftc_00 {ρ : Nat → Nat → Nat} : ∀ n, mq_ftc ρ n 0 0 = ρ 0 0 := by
  intro n
  induction n with
  | zero => rfl
  | succ n ih => exact mq_fetch_00.trans ih
theorem mq_tick1_00 {ρ : Nat → Nat → Nat} {μ : Nat → Int64} : (mq_tick1 ρ μ).1 0 0 = ρ 0 0 := by
  show mq_end (mq_mid ρ μ).1 0 0 = _
  unfold mq_end mq_inc
  rw [mq_up_j (by omega), mq_up_j (by omega)]
  show mq_ftc _ 4 0 0 = _
  rw [mq_ftc_00, mq_srv_00, mq_ansN_00, mq_up_k (by omega)]
theorem mq_tick_00 {ρ : Nat → Nat → Nat} {μ : Nat → Int64} : ∀ n, (mq_tick ρ μ n).1 0 0 = ρ 0 0 := by
  intro n
  induction n with
  | zero => rfl
  | succ n ih => exact mq_tick1_00.trans ih
theorem mq_tick_01 {ρ : Nat → Nat → Nat} {μ : Nat → Int64} : ∀ n, (mq_tick ρ μ n).1 0 1 ≤ ρ 0 1 + 16 * n := by
  intro n
  induction n with
  | zero => exact Nat.le_refl _
  | succ n ih =>
    have h := mq_tick1_01 (ρ := (mq_tick ρ μ n).1) (μ := (mq_tick ρ μ n).2)
    show (mq_tick1 _ _).1 0 1 ≤ _
    omega
theorem mq_tk_00 {ρ : Nat → Nat → Nat} {x q : Nat} : mq_tk ρ x 0 q = ρ 0 q := mq_tk_sp.2.1 0 q (by omega) (by omega)
/-! ints that are small naturals, or not -/
theorem lw_in (v : Int32) {n : Nat} (hn : n < 2 ^ 31) : (∃ k, k < n ∧ v = nI k) ∨ ¬ (0 ≤ v ∧ v < nI n) := by
  by_cases h : 0 ≤ v ∧ v < nI n
  · refine Or.inl ⟨v.toInt.toNat, ?_, ?_⟩
    · have h1 := Int32.le_iff_toInt_le.mp h.1
      have h2 := Int32.lt_iff_toInt_lt.mp h.2
      rw [nI_toInt hn] at h2
      have h3 : (0 : Int32).toInt = 0 := rfl
      omega
    · have h1 := Int32.le_iff_toInt_le.mp h.1
      have h2 := Int32.lt_iff_toInt_lt.mp h.2
      rw [nI_toInt hn] at h2
      have h3 : (0 : Int32).toInt = 0 := rfl
      apply Int32.toInt_inj.mp
      rw [nI_toInt (by omega)]
      omega
  · exact Or.inr h
theorem lw_in2 (v : Int32) : (∃ k, k ≤ 10000 ∧ v = nI k) ∨ ¬ (0 ≤ v ∧ v ≤ nI 10000) := by
  rcases lw_in v (n := 10001) (by decide) with ⟨k, hk, e⟩ | h
  · exact Or.inl ⟨k, by omega, e⟩
  · refine Or.inr fun q => h ⟨q.1, ?_⟩
    have h2 := Int32.le_iff_toInt_le.mp q.2
    apply Int32.lt_iff_toInt_lt.mpr
    rw [nI_toInt (by decide)] at h2 ⊢
    omega
theorem lw_sw (t : Int32) : t = nI 0 ∨ t = nI 1 ∨ t = nI 2 ∨ t = nI 3 ∨ t = nI 4 ∨ t = nI 5 ∨ t = nI 6 ∨ t = nI 7 ∨ t = nI 8 ∨ t = nI 9 ∨ t = nI 10 ∨ (t.toInt < 0 ∨ 10 < t.toInt) := by
  have e : ∀ k : Nat, k < 11 → t.toInt = (k : Int) → t = nI k := fun k hk h => Int32.toInt_inj.mp (by rw [h, nI_toInt (by omega)])
  have h : t.toInt = 0 ∨ t.toInt = 1 ∨ t.toInt = 2 ∨ t.toInt = 3 ∨ t.toInt = 4 ∨ t.toInt = 5 ∨ t.toInt = 6 ∨ t.toInt = 7 ∨ t.toInt = 8 ∨ t.toInt = 9 ∨ t.toInt = 10 ∨ (t.toInt < 0 ∨ 10 < t.toInt) := by omega
  rcases h with h | h | h | h | h | h | h | h | h | h | h | h
  · exact Or.inl (e 0 (by omega) h)
  · exact Or.inr (Or.inl (e 1 (by omega) h))
  · exact Or.inr (Or.inr (Or.inl (e 2 (by omega) h)))
  · exact Or.inr (Or.inr (Or.inr (Or.inl (e 3 (by omega) h))))
  · exact Or.inr (Or.inr (Or.inr (Or.inr (Or.inl (e 4 (by omega) h)))))
  · exact Or.inr (Or.inr (Or.inr (Or.inr (Or.inr (Or.inl (e 5 (by omega) h))))))
  · exact Or.inr (Or.inr (Or.inr (Or.inr (Or.inr (Or.inr (Or.inl (e 6 (by omega) h)))))))
  · exact Or.inr (Or.inr (Or.inr (Or.inr (Or.inr (Or.inr (Or.inr (Or.inl (e 7 (by omega) h))))))))
  · exact Or.inr (Or.inr (Or.inr (Or.inr (Or.inr (Or.inr (Or.inr (Or.inr (Or.inl (e 8 (by omega) h)))))))))
  · exact Or.inr (Or.inr (Or.inr (Or.inr (Or.inr (Or.inr (Or.inr (Or.inr (Or.inr (Or.inl (e 9 (by omega) h))))))))))
  · exact Or.inr (Or.inr (Or.inr (Or.inr (Or.inr (Or.inr (Or.inr (Or.inr (Or.inr (Or.inr (Or.inl (e 10 (by omega) h)))))))))))
  · exact Or.inr (Or.inr (Or.inr (Or.inr (Or.inr (Or.inr (Or.inr (Or.inr (Or.inr (Or.inr (Or.inr h))))))))))
