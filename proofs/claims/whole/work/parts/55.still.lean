/-! ticks in which nothing moves -/
def mq_sim (ρ ρ' : Nat → Nat → Nat) : Prop := ∀ i q, i ≠ 12 → i ≠ 16 → ρ' i q = ρ i q
theorem mq_sim.is {ρ ρ' : Nat → Nat → Nat} (h : mq_sim ρ ρ') : mq_is ρ' = mq_is ρ := by
  funext w g x
  unfold mq_is
  rw [h 1 x (by omega) (by omega), h 5 x (by omega) (by omega)]
theorem mq_sim.many {ρ ρ' : Nat → Nat → Nat} (h : mq_sim ρ ρ') (w g : Nat) : mq_many ρ' w g = mq_many ρ w g := by
  unfold mq_many
  rw [h.is]
theorem mq_sim.first {ρ ρ' : Nat → Nat → Nat} (h : mq_sim ρ ρ') (w g : Nat) : mq_first ρ' w g = mq_first ρ w g := by
  unfold mq_first
  rw [h.is, show ρ' 2 = ρ 2 from funext fun q => h 2 q (by omega) (by omega)]
theorem mq_sim.free {ρ ρ' : Nat → Nat → Nat} (h : mq_sim ρ ρ') (p : Nat) : mq_free ρ' p = mq_free ρ p := by
  have hh : mq_hold ρ' = mq_hold ρ := by
    funext p i x
    unfold mq_hold
    rw [h 1 x (by omega) (by omega), h 5 x (by omega) (by omega), h 8 x (by omega) (by omega)]
  unfold mq_free mq_holder
  rw [hh]
theorem mq_sim.ansD {ρ ρ' : Nat → Nat → Nat} (h : mq_sim ρ ρ') (m : Nat) : mq_ansD ρ' m = mq_ansD ρ m := by
  have hk : mq_ansK ρ' m = mq_ansK ρ m := by
    funext k
    unfold mq_ansK
    rw [h 10 m (by omega) (by omega), h.first]
  unfold mq_ansD
  rw [hk, h 9 m (by omega) (by omega), h.many]
theorem mq_sim.reqD {ρ ρ' : Nat → Nat → Nat} (h : mq_sim ρ ρ') (p : Nat) : mq_reqD ρ' p = mq_reqD ρ p := by
  have hk : mq_reqK ρ' p = mq_reqK ρ p := by
    funext k
    unfold mq_reqK
    rw [h 11 p (by omega) (by omega), h.first]
    cases mq_first ρ 1 ((ρ 11 p + k) % 3) with
    | none => rfl
    | some x =>
      show (mq_port (ρ' 5 x) == p) = (mq_port (ρ 5 x) == p)
      rw [h 5 x (by omega) (by omega)]
  unfold mq_reqD
  rw [hk, h.free, h.many]
def mq_quiet (ρ : Nat → Nat → Nat) : Prop := (∀ m, m < 3 → mq_ansD ρ m = none) ∧ (∀ p, p < 4 → ρ 12 p = 0) ∧ (∀ p, p < 4 → (mq_first ρ 3 (3 + p) = none ∧ mq_first ρ 2 (3 + p) = none) ∨ (mq_first ρ 3 (3 + p) ≠ none ∧ 1 < mq_many ρ 4 (3 + p))) ∧ ∀ p, p < 4 → mq_reqD ρ p = none
theorem mq_up_same {ρ : Nat → Nat → Nat} {j k v : Nat} (h : ρ j k = v) : mq_up ρ j k v = ρ := by
  funext i q
  unfold mq_up
  split
  · next e => rw [e.1, e.2, h]
  · rfl
theorem mq_quiet.serve {ρ : Nat → Nat → Nat} {μ : Nat → Int64} (h : mq_quiet ρ) {p : Nat} (hp : p < 4) : mq_serve ρ μ p = (ρ, μ) := by
  have h12 := h.2.1 p hp
  have hcd : mq_cd ρ p = ρ := mq_up_same (by rw [h12])
  unfold mq_serve
  rcases h.2.2.1 p hp with ⟨h1, h2⟩ | ⟨h1, h2⟩
  · rw [h1]
    show (mq_begin ρ p, μ) = _
    unfold mq_begin
    rw [h2]
  · cases hf : mq_first ρ 3 (3 + p) with
    | none => exact absurd hf h1
    | some x =>
      have hd : mq_finD (mq_cd ρ p) p = none := by
        rw [hcd]
        unfold mq_finD
        rw [if_pos (Or.inr h2)]
      show (match mq_finD (mq_cd ρ p) p with | none => (mq_cd ρ p, μ) | some _ => _) = _
      rw [hd]
      show (mq_cd ρ p, μ) = _
      rw [hcd]
theorem mq_quiet.mid {ρ : Nat → Nat → Nat} {μ : Nat → Int64} (h : mq_quiet ρ) (h0 : ρ 0 2 = 0) : mq_mid ρ μ = (ρ, μ) := by
  have e0 : mq_up ρ 0 2 0 = ρ := mq_up_same h0
  have ea : mq_ansN ρ 3 = ρ := by
    simp only [mq_ansN]
    rw [rr_ansN (h.1 0 (by omega)), rr_ansN (h.1 1 (by omega)), rr_ansN (h.1 2 (by omega))]
  have es : mq_srv ρ μ 4 = (ρ, μ) := by
    simp only [mq_srv]
    rw [h.serve (p := 0) (by omega)]
    simp only
    rw [h.serve (p := 1) (by omega)]
    simp only
    rw [h.serve (p := 2) (by omega)]
    simp only
    rw [h.serve (p := 3) (by omega)]
  have ef : mq_ftc ρ 4 = ρ := by
    simp only [mq_ftc]
    rw [rr_reqN (h.2.2.2 0 (by omega)), rr_reqN (h.2.2.2 1 (by omega)), rr_reqN (h.2.2.2 2 (by omega)), rr_reqN (h.2.2.2 3 (by omega))]
  unfold mq_mid
  rw [e0, ea, es]
  show (mq_ftc ρ 4, μ) = _
  rw [ef]
theorem mq_quiet.congr {ρ ρ' : Nat → Nat → Nat} (h : mq_quiet ρ) (hs : mq_sim ρ ρ') (h12 : ∀ p, p < 4 → ρ' 12 p = 0) : mq_quiet ρ' := by
  refine ⟨fun m hm => by rw [hs.ansD]; exact h.1 m hm, h12, fun p hp => ?_, fun p hp => by rw [hs.reqD]; exact h.2.2.2 p hp⟩
  rw [hs.first, hs.first, hs.many]
  exact h.2.2.1 p hp
theorem mq_bump_sim {ρ : Nat → Nat → Nat} {k : Nat} : mq_sim ρ (mq_bump ρ k) := fun i q _ h16 => by
  unfold mq_bump
  rw [mq_up_j h16, mq_up_j h16]
theorem mq_quiet.tick {ρ : Nat → Nat → Nat} {μ : Nat → Int64} (h : mq_quiet ρ) (h0 : ρ 0 2 = 0) : ∀ k, mq_tick ρ μ k = (mq_bump ρ k, μ) := by
  intro k
  induction k with
  | zero =>
    show (ρ, μ) = _
    unfold mq_bump
    rw [mq_up_same (v := ρ 16 0 + 0) (by omega), mq_up_same (by omega)]
  | succ k ih =>
    have hq : mq_quiet (mq_bump ρ k) := h.congr mq_bump_sim (fun p hp => by
      unfold mq_bump
      rw [mq_up_j (by omega), mq_up_j (by omega)]
      exact h.2.1 p hp)
    have hb0 : mq_bump ρ k 0 2 = 0 := by rw [mq_bump_sim 0 2 (by omega) (by omega)]; exact h0
    show mq_tick1 (mq_tick ρ μ k).1 (mq_tick ρ μ k).2 = _
    rw [ih]
    unfold mq_tick1
    rw [hq.mid hb0]
    show (mq_end (mq_bump ρ k), μ) = _
    congr 1
    unfold mq_end mq_inc
    rw [hb0]
    funext i q
    unfold mq_bump mq_up
    by_cases hi : i = 16
    · subst hi
      by_cases h7 : q = 7
      · subst h7; simp; omega
      · by_cases hq0 : q = 0
        · subst hq0; simp; omega
        · simp [h7, hq0]
    · simp [hi]
theorem mq_tick_add {ρ : Nat → Nat → Nat} {μ : Nat → Int64} (a : Nat) : ∀ b, mq_tick ρ μ (a + b) = mq_tick (mq_tick ρ μ a).1 (mq_tick ρ μ a).2 b := by
  intro b
  induction b with
  | zero => rfl
  | succ b ih =>
    show mq_tick1 (mq_tick ρ μ (a + b)).1 (mq_tick ρ μ (a + b)).2 = _
    rw [ih]
    rfl
theorem mq_begin_go {ρ : Nat → Nat → Nat} {p : Nat} : (mq_first ρ 2 (3 + p) = none ∧ mq_begin ρ p = ρ) ∨ mq_begin ρ p 0 2 = 1 := by
  unfold mq_begin
  cases mq_first ρ 2 (3 + p) with
  | none => exact Or.inl ⟨rfl, rfl⟩
  | some x => exact Or.inr mq_go_02
theorem mq_begin_1 {ρ : Nat → Nat → Nat} {p : Nat} (h : ρ 0 2 = 1) : mq_begin ρ p 0 2 = 1 := by
  rcases mq_begin_go (ρ := ρ) (p := p) with ⟨-, e⟩ | e
  · rw [e]; exact h
  · exact e
theorem mq_serve_flag {ρ : Nat → Nat → Nat} {μ : Nat → Int64} {p : Nat} : (mq_first ρ 3 (3 + p) = none ∧ mq_first ρ 2 (3 + p) = none ∧ mq_serve ρ μ p = (ρ, μ)) ∨ (mq_first ρ 3 (3 + p) ≠ none ∧ mq_finD (mq_cd ρ p) p = none ∧ mq_serve ρ μ p = (mq_cd ρ p, μ)) ∨ (mq_serve ρ μ p).1 0 2 = 1 := by
  unfold mq_serve
  cases hf : mq_first ρ 3 (3 + p) with
  | none =>
    rcases mq_begin_go (ρ := ρ) (p := p) with ⟨e1, e2⟩ | e
    · exact Or.inl ⟨rfl, e1, by show (mq_begin ρ p, μ) = _; rw [e2]⟩
    · exact Or.inr (Or.inr e)
  | some x =>
    cases hd : mq_finD (mq_cd ρ p) p with
    | none => exact Or.inr (Or.inl ⟨by simp, rfl, rfl⟩)
    | some y =>
      refine Or.inr (Or.inr ?_)
      show mq_begin (mq_fin _ p x) p 0 2 = 1
      exact mq_begin_1 (mq_fin_sp.2.2.2.2.2.2.2)
theorem mq_ans_flag {ρ : Nat → Nat → Nat} {m : Nat} : (mq_ansD ρ m = none ∧ mq_answers ρ m = ρ) ∨ mq_answers ρ m 0 2 = 1 := by
  unfold mq_answers
  cases mq_ansD ρ m with
  | none => exact Or.inl ⟨rfl, rfl⟩
  | some k => exact Or.inr mq_ansM_sp.2.2.2.2.2.2
theorem mq_ftc_flag {ρ : Nat → Nat → Nat} {p : Nat} : (mq_reqD ρ p = none ∧ mq_fetch ρ p = ρ) ∨ mq_fetch ρ p 0 2 = 1 := by
  unfold mq_fetch
  cases mq_reqD ρ p with
  | none => exact Or.inl ⟨rfl, rfl⟩
  | some k => exact Or.inr mq_reqM_sp.2.2.2.2.2.2.2
theorem mq_ans_1 {ρ : Nat → Nat → Nat} {m : Nat} (h : ρ 0 2 = 1) : mq_answers ρ m 0 2 = 1 := by
  rcases mq_ans_flag (ρ := ρ) (m := m) with ⟨-, e⟩ | e
  · rw [e]; exact h
  · exact e
theorem mq_ftc_1 {ρ : Nat → Nat → Nat} {p : Nat} (h : ρ 0 2 = 1) : mq_fetch ρ p 0 2 = 1 := by
  rcases mq_ftc_flag (ρ := ρ) (p := p) with ⟨-, e⟩ | e
  · rw [e]; exact h
  · exact e
theorem mq_serve_1 {ρ : Nat → Nat → Nat} {μ : Nat → Int64} {p : Nat} (h : ρ 0 2 = 1) : (mq_serve ρ μ p).1 0 2 = 1 := by
  rcases mq_serve_flag (ρ := ρ) (μ := μ) (p := p) with ⟨-, -, e⟩ | ⟨-, -, e⟩ | e
  · rw [e]; exact h
  · rw [e]
    show mq_cd ρ p 0 2 = 1
    unfold mq_cd
    rw [mq_up_j (by omega)]
    exact h
  · exact e
theorem mq_ansN_0 {ρ : Nat → Nat → Nat} : ∀ n, mq_ansN ρ n 0 2 ≠ 1 → mq_ansN ρ n = ρ ∧ ∀ m, m < n → mq_ansD ρ m = none := by
  intro n
  induction n with
  | zero => exact fun _ => ⟨rfl, fun m hm => by omega⟩
  | succ n ih =>
    intro h
    have h1 : mq_ansN ρ n 0 2 ≠ 1 := fun q => h (mq_ans_1 q)
    obtain ⟨e, hd⟩ := ih h1
    have h2 : mq_ansN ρ (n + 1) = mq_answers (mq_ansN ρ n) n := rfl
    rcases mq_ans_flag (ρ := mq_ansN ρ n) (m := n) with ⟨g1, g2⟩ | g
    · refine ⟨by rw [h2, g2]; exact e, fun m hm => ?_⟩
      by_cases hmn : m = n
      · subst hmn; rw [e] at g1; exact g1
      · exact hd m (by omega)
    · exact absurd g h
theorem mq_ftcN_0 {ρ : Nat → Nat → Nat} : ∀ n, mq_ftc ρ n 0 2 ≠ 1 → mq_ftc ρ n = ρ ∧ ∀ p, p < n → mq_reqD ρ p = none := by
  intro n
  induction n with
  | zero => exact fun _ => ⟨rfl, fun m hm => by omega⟩
  | succ n ih =>
    intro h
    have h1 : mq_ftc ρ n 0 2 ≠ 1 := fun q => h (mq_ftc_1 q)
    obtain ⟨e, hd⟩ := ih h1
    have h2 : mq_ftc ρ (n + 1) = mq_fetch (mq_ftc ρ n) n := rfl
    rcases mq_ftc_flag (ρ := mq_ftc ρ n) (p := n) with ⟨g1, g2⟩ | g
    · refine ⟨by rw [h2, g2]; exact e, fun m hm => ?_⟩
      by_cases hmn : m = n
      · subst hmn; rw [e] at g1; exact g1
      · exact hd m (by omega)
    · exact absurd g h
theorem mq_srvN_0 {ρ : Nat → Nat → Nat} {μ : Nat → Int64} : ∀ n, (mq_srv ρ μ n).1 0 2 ≠ 1 → mq_sim ρ (mq_srv ρ μ n).1 ∧ (∀ q, (mq_srv ρ μ n).1 16 q = ρ 16 q) ∧ (mq_srv ρ μ n).2 = μ ∧ (∀ p, n ≤ p → (mq_srv ρ μ n).1 12 p = ρ 12 p) ∧ ∀ p, p < n → (mq_first ρ 3 (3 + p) = none ∧ mq_first ρ 2 (3 + p) = none) ∨ (mq_first ρ 3 (3 + p) ≠ none ∧ (0 < (mq_srv ρ μ n).1 12 p ∨ 1 < mq_many ρ 4 (3 + p))) := by
  intro n
  induction n with
  | zero => exact fun _ => ⟨fun _ _ _ _ => rfl, fun _ => rfl, rfl, fun _ _ => rfl, fun p hp => by omega⟩
  | succ n ih =>
    intro h
    have h1 : (mq_srv ρ μ n).1 0 2 ≠ 1 := fun q => h (mq_serve_1 q)
    obtain ⟨s1, s16, s2, s3, s4⟩ := ih h1
    have h2 : mq_srv ρ μ (n + 1) = mq_serve (mq_srv ρ μ n).1 (mq_srv ρ μ n).2 n := rfl
    rcases mq_serve_flag (ρ := (mq_srv ρ μ n).1) (μ := (mq_srv ρ μ n).2) (p := n) with ⟨g1, g2, g3⟩ | ⟨g1, g2, g3⟩ | g
    · rw [h2, g3]
      refine ⟨s1, s16, s2, fun p hp => s3 p (by omega), fun p hp => ?_⟩
      by_cases e : p = n
      · subst e
        rw [s1.first] at g1 g2
        exact Or.inl ⟨g1, g2⟩
      · exact s4 p (by omega)
    · rw [h2, g3]
      have ho : ∀ i q, i ≠ 12 → mq_cd (mq_srv ρ μ n).1 n i q = (mq_srv ρ μ n).1 i q := fun i q hi => mq_up_j hi
      refine ⟨fun i q h12 h16 => (ho i q h12).trans (s1 i q h12 h16), fun q => (ho 16 q (by omega)).trans (s16 q), s2, fun p hp => ?_, fun p hp => ?_⟩
      · show mq_cd (mq_srv ρ μ n).1 n 12 p = _
        unfold mq_cd
        rw [mq_up_k (by omega)]
        exact s3 p (by omega)
      · by_cases e : p = n
        · subst e
          rw [s1.first] at g1
          refine Or.inr ⟨g1, ?_⟩
          unfold mq_finD at g2
          split at g2
          · next hc =>
            rcases hc with hc | hc
            · exact Or.inl hc
            · refine Or.inr ?_
              have hs' : mq_sim ρ (mq_cd (mq_srv ρ μ p).1 p) := fun i q h12 h16 => by rw [ho i q h12]; exact s1 i q h12 h16
              rw [hs'.many] at hc
              exact hc
          · have hs' : mq_sim ρ (mq_cd (mq_srv ρ μ p).1 p) := fun i q h12 h16 => by rw [ho i q h12]; exact s1 i q h12 h16
            rw [hs'.first] at g2
            exact absurd g2 g1
        · have : mq_cd (mq_srv ρ μ n).1 n 12 p = (mq_srv ρ μ n).1 12 p := mq_up_k e
          show _ ∨ (_ ∧ (0 < mq_cd (mq_srv ρ μ n).1 n 12 p ∨ _))
          rw [this]
          exact s4 p (by omega)
    · exact absurd g h
/-- a tick that moved nothing, with no count left: the next ones are counted, no more -/
theorem mq_still {ρ : Nat → Nat → Nat} {μ : Nat → Int64} (h : (mq_mid ρ μ).1 0 2 ≠ 1) (h12 : ∀ p, p < 4 → (mq_mid ρ μ).1 12 p = 0) : mq_quiet (mq_tick1 ρ μ).1 := by
  have h' : mq_ftc (mq_srv (mq_ansN (mq_up ρ 0 2 0) 3) μ 4).1 4 0 2 ≠ 1 := h
  obtain ⟨f1, f2⟩ := mq_ftcN_0 4 h'
  rw [f1] at h'
  obtain ⟨s1, s16, s2, s3, s4⟩ := mq_srvN_0 4 h'
  have ha : mq_ansN (mq_up ρ 0 2 0) 3 0 2 ≠ 1 := by
    rw [← s1 0 2 (by omega) (by omega)]
    exact h'
  obtain ⟨a1, a2⟩ := mq_ansN_0 3 ha
  have hmid : (mq_mid ρ μ).1 = (mq_srv (mq_ansN (mq_up ρ 0 2 0) 3) μ 4).1 := f1
  rw [a1] at hmid s1 s4 f2
  have hsim : mq_sim (mq_up ρ 0 2 0) (mq_tick1 ρ μ).1 := by
    intro i q hi12 hi16
    show mq_end (mq_mid ρ μ).1 i q = _
    unfold mq_end mq_inc
    rw [mq_up_j hi16, mq_up_j hi16, hmid]
    exact s1 i q hi12 hi16
  have h12' : ∀ p, p < 4 → (mq_tick1 ρ μ).1 12 p = 0 := by
    intro p hp
    show mq_end (mq_mid ρ μ).1 12 p = 0
    unfold mq_end mq_inc
    rw [mq_up_j (by omega), mq_up_j (by omega)]
    exact h12 p hp
  refine ⟨fun m hm => by rw [hsim.ansD]; exact a2 m hm, h12', fun p hp => ?_, fun p hp => ?_⟩
  · rw [hsim.first, hsim.first, hsim.many]
    rcases s4 p hp with g | ⟨g1, g2⟩
    · exact Or.inl g
    · refine Or.inr ⟨g1, ?_⟩
      rcases g2 with g2 | g2
      · rw [← hmid, h12 p hp] at g2
        omega
      · exact g2
  · rw [hsim.reqD, ← s1.reqD]
    exact f2 p hp
