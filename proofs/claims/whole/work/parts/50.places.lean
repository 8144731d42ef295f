/-! pure rows: counting, the first by its time, places -/
theorem mq_cnt_len {p : Nat → Bool} : ∀ (n : Nat) (xs : List Nat), xs.Nodup → (∀ x, x ∈ xs ↔ x < n ∧ p x = true) → mq_cnt p n = xs.length := by
  intro n
  induction n with
  | zero =>
    intro xs _ h
    cases xs with
    | nil => rfl
    | cons a t =>
      have h1 := (h a).mp (by simp)
      omega
  | succ n ih =>
    intro xs nd h
    by_cases hp : p n = true
    · have hm : n ∈ xs := (h n).mpr ⟨by omega, hp⟩
      have h2 := ih (xs.erase n) (nd.erase n) (fun x => by
        rw [nd.mem_erase_iff, h x]
        constructor
        · rintro ⟨a, b, c⟩
          exact ⟨by omega, c⟩
        · rintro ⟨a, b⟩
          exact ⟨by omega, by omega, b⟩)
      have hl := List.length_erase_of_mem hm
      have hpos : 0 < xs.length := List.length_pos_of_mem hm
      simp only [mq_cnt, hp, if_true]
      omega
    · have h2 := ih xs nd (fun x => by
        rw [h x]
        constructor
        · rintro ⟨a, b⟩
          refine ⟨?_, b⟩
          by_cases hx : x = n
          · subst hx
            exact absurd b hp
          · omega
        · rintro ⟨a, b⟩
          exact ⟨by omega, b⟩)
      simp only [mq_cnt, hp, if_false]
      simpa using h2
theorem mq_fst_sp {p : Nat → Bool} {s : Nat → Nat} : ∀ n : Nat, (∀ y, mq_fst p s n = some y → y < n ∧ p y = true ∧ ∀ x, x < n → p x = true → s y ≤ s x) ∧ (mq_fst p s n = none → ∀ x, x < n → p x = false) := by
  intro n
  induction n with
  | zero => exact ⟨fun y h => by simp [mq_fst] at h, fun _ x hx => by omega⟩
  | succ n ih =>
    obtain ⟨ih1, ih2⟩ := ih
    have hc : ∀ x, x < n + 1 → x < n ∨ x = n := fun x h => by omega
    cases hf : mq_fst p s n with
    | none =>
      have h0 := ih2 hf
      by_cases hp : p n = true
      · have hr : mq_fst p s (n + 1) = some n := by simp [mq_fst, hf, hp]
        rw [hr]
        refine ⟨fun y hy => ?_, fun h => by cases h⟩
        cases hy
        refine ⟨by omega, hp, fun x hx hpx => ?_⟩
        rcases hc x hx with h | h
        · rw [h0 x h] at hpx
          cases hpx
        · rw [h]
          exact Nat.le_refl _
      · have hr : mq_fst p s (n + 1) = none := by simp [mq_fst, hf, hp]
        rw [hr]
        refine ⟨fun y hy => (by cases hy), fun _ x hx => ?_⟩
        rcases hc x hx with h | h
        · exact h0 x h
        · rw [h]
          simpa using hp
    | some z =>
      obtain ⟨g1, g2, g3⟩ := ih1 z hf
      by_cases hp : p n = true ∧ s n < s z
      · have hr : mq_fst p s (n + 1) = some n := by simp [mq_fst, hf, hp.1, hp.2]
        rw [hr]
        refine ⟨fun y hy => ?_, fun h => by cases h⟩
        cases hy
        refine ⟨by omega, hp.1, fun x hx hpx => ?_⟩
        rcases hc x hx with h | h
        · have := g3 x h hpx
          omega
        · rw [h]
          exact Nat.le_refl _
      · have hr : mq_fst p s (n + 1) = some z := by
          simp only [mq_fst, hf]
          rw [if_neg]
          simpa using hp
        rw [hr]
        refine ⟨fun y hy => ?_, fun h => by cases h⟩
        cases hy
        refine ⟨by omega, g2, fun x hx hpx => ?_⟩
        rcases hc x hx with h | h
        · exact g3 x h hpx
        · subst h
          by_cases hq : s x < s z
          · exact absurd ⟨hpx, hq⟩ hp
          · omega
theorem mq_fst_head {p : Nat → Bool} {s : Nat → Nat} {n : Nat} {xs : List Nat} (hs : xs.Pairwise (fun x y => s x < s y)) (h : ∀ x, x ∈ xs ↔ x < n ∧ p x = true) : mq_fst p s n = xs.head? := by
  obtain ⟨h1, h2⟩ := mq_fst_sp (p := p) (s := s) n
  cases hf : mq_fst p s n with
  | none =>
    cases xs with
    | nil => rfl
    | cons a t =>
      have ha := (h a).mp (by simp)
      have := h2 hf a ha.1
      rw [ha.2] at this
      cases this
  | some y =>
    obtain ⟨g1, g2, g3⟩ := h1 y hf
    have hy := (h y).mpr ⟨g1, g2⟩
    cases xs with
    | nil => simp at hy
    | cons a t =>
      have ha := (h a).mp (by simp)
      have hle := g3 a ha.1 ha.2
      rcases List.mem_cons.mp hy with e | e
      · rw [e]; rfl
      · have := (List.pairwise_cons.mp hs).1 y e
        omega
theorem mq_fnd_sp {p : Nat → Bool} : ∀ (n i : Nat), (∀ k, mq_fnd p i n = some k → i ≤ k ∧ k < i + n ∧ p k = true ∧ ∀ j, i ≤ j → j < k → p j = false) ∧ (mq_fnd p i n = none → ∀ j, i ≤ j → j < i + n → p j = false) := by
  intro n
  induction n with
  | zero => intro i; exact ⟨fun k h => by simp [mq_fnd] at h, fun _ j h1 h2 => by omega⟩
  | succ n ih =>
    intro i
    obtain ⟨ih1, ih2⟩ := ih (i + 1)
    by_cases hp : p i = true
    · have hr : mq_fnd p i (n + 1) = some i := by simp [mq_fnd, hp]
      rw [hr]
      refine ⟨fun k hk => ?_, fun h => by cases h⟩
      cases hk
      exact ⟨Nat.le_refl _, by omega, hp, fun j h1 h2 => by omega⟩
    · have hr : mq_fnd p i (n + 1) = mq_fnd p (i + 1) n := by simp [mq_fnd, hp]
      have hpf : p i = false := by simpa using hp
      rw [hr]
      refine ⟨fun k hk => ?_, fun h j h1 h2 => ?_⟩
      · obtain ⟨a, b, c, d⟩ := ih1 k hk
        refine ⟨by omega, by omega, c, fun j h1 h2 => ?_⟩
        by_cases hj : j = i
        · rw [hj]; exact hpf
        · exact d j (by omega) h2
      · by_cases hj : j = i
        · rw [hj]; exact hpf
        · exact ih2 h j (by omega) (by omega)
theorem mq_fnd_congr {p q : Nat → Bool} : ∀ (n i : Nat), (∀ j, i ≤ j → j < i + n → p j = q j) → mq_fnd p i n = mq_fnd q i n := by
  intro n
  induction n with
  | zero => intro i _; rfl
  | succ n ih =>
    intro i h
    have h0 := h i (Nat.le_refl _) (by omega)
    have h1 := ih (i + 1) (fun j a b => h j (by omega) (by omega))
    simp only [mq_fnd, h0, h1]
/-- where a message stands by its place: master or port -/
def mq_in (ρ : Nat → Nat → Nat) (g x : Nat) : Prop := if g < 3 then x / 8 = g else mq_port (ρ 5 x) + 3 = g
theorem mq_is_iff {ρ : Nat → Nat → Nat} {w g x : Nat} : mq_is ρ w g x = true ↔ ρ 1 x = w ∧ mq_in ρ g x := by
  unfold mq_is mq_in
  by_cases h : g < 3
  · simp [h]
  · simp [h]
def mq_ok (w g : Nat) : Prop := ((w = 1 ∨ w = 5) ∧ g < 3) ∨ ((w = 2 ∨ w = 3 ∨ w = 4) ∧ 3 ≤ g ∧ g < 7)
theorem mq_in_eq {ρ : Nat → Nat → Nat} {w g b x : Nat} (h1 : mq_ok w g) (h2 : mq_ok w b) (hg : mq_in ρ g x) (hb : mq_in ρ b x) : g = b := by
  unfold mq_in at hg hb
  unfold mq_ok at h1 h2
  by_cases a : g < 3
  · have c : b < 3 := by omega
    rw [if_pos a] at hg
    rw [if_pos c] at hb
    omega
  · have c : ¬ b < 3 := by omega
    rw [if_neg a] at hg
    rw [if_neg c] at hb
    omega
def mq_Pl (ρ : Nat → Nat → Nat) (pl : Nat → Nat → List Nat) : Prop :=
  (∀ w g, mq_ok w g → (∀ x, x ∈ pl w g ↔ x < 24 ∧ mq_is ρ w g x = true) ∧ (pl w g).Pairwise (fun x y => ρ 2 x < ρ 2 y)) ∧ (∀ x, x < 24 → ρ 1 x ≠ 0 → ρ 2 x < ρ 0 1) ∧ ∀ x, x < 24 → ρ 1 x ≤ 5
def mq_set (pl : Nat → Nat → List Nat) (w g : Nat) (xs : List Nat) : Nat → Nat → List Nat := fun a b => if a = w ∧ b = g then xs else pl a b
theorem mq_set_s {pl : Nat → Nat → List Nat} {w g : Nat} {xs : List Nat} : mq_set pl w g xs w g = xs := by simp [mq_set]
theorem mq_set_n {pl : Nat → Nat → List Nat} {w g a b : Nat} {xs : List Nat} (h : ¬ (a = w ∧ b = g)) : mq_set pl w g xs a b = pl a b := by simp only [mq_set]; rw [if_neg h]
theorem mq_Pl.nodup {ρ : Nat → Nat → Nat} {pl : Nat → Nat → List Nat} (h : mq_Pl ρ pl) {w g : Nat} (hk : mq_ok w g) : (pl w g).Nodup := by
  refine List.Pairwise.imp ?_ (h.1 w g hk).2
  intro a b hlt heq
  subst heq
  exact Nat.lt_irrefl _ hlt
theorem mq_Pl.many {ρ : Nat → Nat → Nat} {pl : Nat → Nat → List Nat} (h : mq_Pl ρ pl) {w g : Nat} (hk : mq_ok w g) : mq_many ρ w g = (pl w g).length :=
  mq_cnt_len 24 _ (h.nodup hk) (h.1 w g hk).1
theorem mq_Pl.first {ρ : Nat → Nat → Nat} {pl : Nat → Nat → List Nat} (h : mq_Pl ρ pl) {w g : Nat} (hk : mq_ok w g) : mq_first ρ w g = (pl w g).head? :=
  mq_fst_head (h.1 w g hk).2 (h.1 w g hk).1
theorem mq_Pl.mem {ρ : Nat → Nat → Nat} {pl : Nat → Nat → List Nat} (h : mq_Pl ρ pl) {w g x : Nat} (hk : mq_ok w g) (hx : x ∈ pl w g) : x < 24 ∧ ρ 1 x = w ∧ mq_in ρ g x := by
  have h1 := ((h.1 w g hk).1 x).mp hx
  exact ⟨h1.1, mq_is_iff.mp h1.2⟩
/-- a message leaves its place: it was the first there -/
theorem mq_Pl.leave {ρ ρ' : Nat → Nat → Nat} {pl : Nat → Nat → List Nat} (h : mq_Pl ρ pl) {w g x : Nat} {t : List Nat} (hk : mq_ok w g) (hh : pl w g = x :: t)
    (h0 : ρ' 1 x = 0) (h1 : ∀ y, y ≠ x → ρ' 1 y = ρ 1 y) (h2 : ∀ y, ρ' 2 y = ρ 2 y) (h5 : ∀ y, y ≠ x → ρ' 5 y = ρ 5 y) (hm : ρ' 0 1 = ρ 0 1) : mq_Pl ρ' (mq_set pl w g t) := by
  have hx := h.mem hk (x := x) (by rw [hh]; simp)
  have hw : w ≠ 0 := by unfold mq_ok at hk; omega
  have hnd : x ∉ t := by
    have := h.nodup hk
    rw [hh] at this
    exact (List.nodup_cons.mp this).1
  have his : ∀ a b y, y ≠ x → (mq_is ρ' a b y = true ↔ mq_is ρ a b y = true) := by
    intro a b y hy
    rw [mq_is_iff, mq_is_iff, h1 y hy]
    unfold mq_in
    rw [h5 y hy]
  have hno : ∀ a b, mq_ok a b → ¬ mq_is ρ' a b x = true := by
    intro a b hab q
    have := (mq_is_iff.mp q).1
    rw [h0] at this
    unfold mq_ok at hab
    omega
  refine ⟨fun a b hab => ?_, fun y hy hy0 => ?_, fun y hy => ?_⟩
  · have hsame := h.1 a b hab
    by_cases e : a = w ∧ b = g
    · obtain ⟨rfl, rfl⟩ := e
      rw [mq_set_s]
      rw [hh] at hsame
      refine ⟨fun y => ?_, ?_⟩
      · by_cases hy : y = x
        · subst hy
          constructor
          · intro q; exact absurd q hnd
          · intro q; exact absurd q.2 (hno _ _ hab)
        · rw [his _ _ y hy, ← hsame.1 y, List.mem_cons]
          constructor
          · intro q; exact Or.inr q
          · intro q
            rcases q with q | q
            · exact absurd q hy
            · exact q
      · refine List.Pairwise.imp ?_ (List.pairwise_cons.mp hsame.2).2
        intro u v huv
        rw [h2 u, h2 v]
        exact huv
    · rw [mq_set_n e]
      refine ⟨fun y => ?_, ?_⟩
      · by_cases hy : y = x
        · subst hy
          constructor
          · intro q
            obtain ⟨-, q2, q3⟩ := h.mem hab q
            have ew : w = a := hx.2.1.symm.trans q2
            subst ew
            exact absurd ⟨rfl, (mq_in_eq hab hk q3 hx.2.2)⟩ e
          · intro q; exact absurd q.2 (hno _ _ hab)
        · rw [his _ _ y hy]
          exact hsame.1 y
      · refine List.Pairwise.imp ?_ hsame.2
        intro u v huv
        rw [h2 u, h2 v]
        exact huv
  · by_cases e : y = x
    · subst e; exact absurd h0 hy0
    · rw [h2, hm]
      exact h.2.1 y hy (by rw [← h1 y e]; exact hy0)
  · by_cases e : y = x
    · subst e; omega
    · rw [h1 y e]; exact h.2.2 y hy
/-- a message that stands nowhere comes to a place, behind all others -/
theorem mq_Pl.join {ρ ρ' : Nat → Nat → Nat} {pl : Nat → Nat → List Nat} (h : mq_Pl ρ pl) {w g x : Nat} (hk : mq_ok w g) (hx : x < 24) (h0 : ρ 1 x = 0) (hw : ρ' 1 x = w) (hs : ρ' 2 x = ρ 0 1) (hin : mq_in ρ' g x)
    (h1 : ∀ y, y ≠ x → ρ' 1 y = ρ 1 y) (h2 : ∀ y, y ≠ x → ρ' 2 y = ρ 2 y) (h5 : ∀ y, y ≠ x → ρ' 5 y = ρ 5 y) (hm : ρ' 0 1 = ρ 0 1 + 1) : mq_Pl ρ' (mq_set pl w g (pl w g ++ [x])) := by
  have his : ∀ a b y, y ≠ x → (mq_is ρ' a b y = true ↔ mq_is ρ a b y = true) := by
    intro a b y hy
    rw [mq_is_iff, mq_is_iff, h1 y hy]
    unfold mq_in
    rw [h5 y hy]
  have hnin : ∀ a b, mq_ok a b → x ∉ pl a b := by
    intro a b hab q
    have := (h.mem hab q).2.1
    rw [h0] at this
    unfold mq_ok at hab
    omega
  have hpw : ∀ a b, mq_ok a b → (pl a b).Pairwise (fun u v => ρ' 2 u < ρ' 2 v) := by
    intro a b hab
    refine List.Pairwise.imp_of_mem ?_ (h.1 a b hab).2
    intro u v hu hv huv
    rw [h2 u (fun q => hnin a b hab (q ▸ hu)), h2 v (fun q => hnin a b hab (q ▸ hv))]
    exact huv
  refine ⟨fun a b hab => ?_, fun y hy hy0 => ?_, fun y hy => ?_⟩
  · by_cases e : a = w ∧ b = g
    · obtain ⟨rfl, rfl⟩ := e
      rw [mq_set_s]
      refine ⟨fun y => ?_, ?_⟩
      · rw [List.mem_append, List.mem_singleton]
        by_cases hy : y = x
        · subst hy
          constructor
          · intro _; exact ⟨hx, mq_is_iff.mpr ⟨hw, hin⟩⟩
          · intro _; exact Or.inr rfl
        · rw [his _ _ y hy, ← (h.1 a b hab).1 y]
          constructor
          · intro q
            rcases q with q | q
            · exact q
            · exact absurd q hy
          · intro q; exact Or.inl q
      · rw [List.pairwise_append]
        refine ⟨hpw a b hab, by simp, fun u hu v hv => ?_⟩
        rw [List.mem_singleton.mp hv, hs]
        have hm := h.mem hab hu
        rw [h2 u (fun q => hnin a b hab (q ▸ hu))]
        refine h.2.1 u hm.1 ?_
        rw [hm.2.1]
        unfold mq_ok at hab
        omega
    · rw [mq_set_n e]
      refine ⟨fun y => ?_, hpw a b hab⟩
      by_cases hy : y = x
      · subst hy
        constructor
        · intro q; exact absurd q (hnin a b hab)
        · intro q
          obtain ⟨q1, q2⟩ := mq_is_iff.mp q.2
          have ew : w = a := hw.symm.trans q1
          subst ew
          exact absurd ⟨rfl, mq_in_eq hab hk q2 hin⟩ e
      · rw [his _ _ y hy]
        exact (h.1 a b hab).1 y
  · by_cases e : y = x
    · subst e; rw [hs, hm]; omega
    · rw [h2 y e, hm]
      have := h.2.1 y hy (by rw [← h1 y e]; exact hy0)
      omega
  · by_cases e : y = x
    · subst e; rw [hw]; unfold mq_ok at hk; omega
    · rw [h1 y e]; exact h.2.2 y hy
