/-! the relation between the class's state (σ, τ) and the reference's (ρ, μ, lt), by the lists pl of what stands where -/
def rr_ln (w g : Nat) : Nat := if w = 1 then 3 + 5 * g else if w = 5 then 5 + 5 * g else if w = 2 then 19 + 6 * (g - 3) else 21 + 6 * (g - 3)
def rr_room (w : Nat) : Nat := if w = 1 then 8 else if w = 5 then 4 else 2
def rr_L (σ : Nat → Nat → Int32) (pl : Nat → Nat → List Nat) : Prop := ∀ w g, mq_ok w g → w ≠ 3 → cx_ln σ (rr_ln w g) (pl w g) ∧ (pl w g).length ≤ rr_room w
def rr_J (σ : Nat → Nat → Int32) (ρ : Nat → Nat → Nat) (pl : Nat → Nat → List Nat) : Prop := ∀ p, p < 4 → (pl 3 (3 + p)).length ≤ 1 ∧ σ (18 + 6 * p) 3 = mq_oI (pl 3 (3 + p)).head? ∧ σ (18 + 6 * p) 4 = nI (ρ 12 p) ∧ (pl 3 (3 + p) = [] → ρ 12 p = 0) ∧ ρ 12 p < 16 ∧ σ (18 + 6 * p) 5 = nI (ρ 13 p) ∧ ∃ lm, lm < 3 ∧ σ (18 + 6 * p) 6 = nI lm ∧ ρ 11 p = (lm + 1) % 3
def rr_M (σ : Nat → Nat → Int32) (ρ : Nat → Nat → Nat) : Prop := ∀ m, m < 3 → (∃ lp, lp < 4 ∧ σ (2 + 5 * m) 4 = nI lp ∧ ρ 10 m = (lp + 1) % 4) ∧ (ρ 9 m ≤ 1 ∧ σ (2 + 5 * m) 3 = nI (1 - ρ 9 m)) ∧ ∃ b, b < 256 ∧ σ (2 + 5 * m) 2 = nI b ∧ ∀ s, s < 8 → b.testBit s = decide (ρ 1 (8 * m + s) ≠ 0)
def rr_O (σ : Nat → Nat → Int32) (ρ : Nat → Nat → Nat) : Prop := (∀ p, p < 4 → ∀ i, i < 4 → (∀ x, x < 24 → mq_hold ρ p i x = true → σ (23 + 6 * p) i = nI x) ∧ ((∀ x, x < 24 → mq_hold ρ p i x = false) → σ (23 + 6 * p) i = -1)) ∧ ∀ x, x < 24 → 2 ≤ ρ 1 x → ρ 1 x ≤ 4 → ρ 8 x < 4
def rr_G1 (σ : Nat → Nat → Int32) (τ : Nat → Nat → Int64) (ρ : Nat → Nat → Nat) (μ : Nat → Int64) (x : Nat) : Prop := (σ (43 + x) 0 = nI (ρ 3 x) ∧ ρ 3 x < 3) ∧ (∃ z, z < 4 ∧ σ (43 + x) 1 = nI z ∧ ρ 4 x = 2 ^ z) ∧ (σ (43 + x) 2 = nI (ρ 5 x) ∧ ρ 5 x < 1024 ∧ ρ 5 x % ρ 4 x = 0) ∧ (σ (43 + x) 4 = nI (ρ 7 x) ∧ ρ 7 x < 256) ∧ τ (43 + x) 0 = μ x
def rr_G (σ : Nat → Nat → Int32) (τ : Nat → Nat → Int64) (ρ : Nat → Nat → Nat) (μ : Nat → Int64) : Prop := ∀ x, x < 24 → ρ 1 x ≠ 0 → rr_G1 σ τ ρ μ x
def rr_B (σ : Nat → Nat → Int32) (ρ : Nat → Nat → Nat) : Prop := (∀ a, a < 640 → ρ 14 a < 256 ∧ σ 67 a = (nI (ρ 14 a)).toInt8.toInt32) ∧ (∀ i, i < 32 → σ 68 i = nI (ρ 15 i)) ∧ (∀ i, i < 8 → σ 69 i = nI (ρ 16 i)) ∧ ρ 16 3 ≤ ρ 0 1
def rr_R (σ : Nat → Nat → Int32) (τ : Nat → Nat → Int64) (ρ : Nat → Nat → Nat) (μ : Nat → Int64) (lt : Int64) (pl : Nat → Nat → List Nat) : Prop := rr_L σ pl ∧ mq_Pl ρ pl ∧ rr_J σ ρ pl ∧ rr_M σ ρ ∧ rr_O σ ρ ∧ rr_G σ τ ρ μ ∧ rr_B σ ρ ∧ τ 0 0 = lt
theorem rr_ln_ne {w g a b : Nat} (h1 : mq_ok w g) (h2 : w ≠ 3) (h3 : mq_ok a b) (h4 : a ≠ 3) (h : ¬ (a = w ∧ b = g)) : rr_ln a b ≠ rr_ln w g ∧ rr_ln a b ≠ rr_ln w g + 1 ∧ rr_ln a b + 1 ≠ rr_ln w g := by
  unfold mq_ok at h1 h3
  have hw : w = 1 ∨ w = 5 ∨ w = 2 ∨ w = 4 := by omega
  have ha : a = 1 ∨ a = 5 ∨ a = 2 ∨ a = 4 := by omega
  rcases hw with rfl | rfl | rfl | rfl <;> rcases ha with rfl | rfl | rfl | rfl <;> simp [rr_ln] <;> omega
/-- no line lies at these cells -/
theorem rr_ln_in {a b : Nat} (h3 : mq_ok a b) (h4 : a ≠ 3) : (∃ q, q < 3 ∧ (rr_ln a b = 3 + 5 * q ∨ rr_ln a b = 5 + 5 * q)) ∨ ∃ q, q < 4 ∧ (rr_ln a b = 19 + 6 * q ∨ rr_ln a b = 21 + 6 * q) := by
  unfold mq_ok at h3
  have ha : a = 1 ∨ a = 5 ∨ a = 2 ∨ a = 4 := by omega
  rcases ha with rfl | rfl | rfl | rfl
  · exact Or.inl ⟨b, by omega, Or.inl (by simp [rr_ln])⟩
  · exact Or.inl ⟨b, by omega, Or.inr (by simp [rr_ln])⟩
  · exact Or.inr ⟨b - 3, by omega, Or.inl (by simp [rr_ln])⟩
  · exact Or.inr ⟨b - 3, by omega, Or.inr (by simp [rr_ln])⟩
theorem rr_L.step {σ σ' : Nat → Nat → Int32} {pl : Nat → Nat → List Nat} (h : rr_L σ pl) {w g : Nat} {xs : List Nat} (hk : mq_ok w g) (hw : w ≠ 3) (hoth : ∀ a b, mq_ok a b → a ≠ 3 → ¬ (a = w ∧ b = g) → σ' (rr_ln a b) 1 = σ (rr_ln a b) 1 ∧ σ' (rr_ln a b + 1) = σ (rr_ln a b + 1)) (hn : cx_ln σ' (rr_ln w g) xs) (hl : xs.length ≤ rr_room w) : rr_L σ' (mq_set pl w g xs) := by
  intro a b hab ha
  by_cases e : a = w ∧ b = g
  · obtain ⟨rfl, rfl⟩ := e
    rw [mq_set_s]
    exact ⟨hn, hl⟩
  · rw [mq_set_n e]
    obtain ⟨h1, h2⟩ := hoth a b hab ha e
    exact ⟨(h a b hab ha).1.keep h1 h2, (h a b hab ha).2⟩
theorem rr_L.keep {σ σ' : Nat → Nat → Int32} {pl pl' : Nat → Nat → List Nat} (h : rr_L σ pl) (hp : ∀ a b, mq_ok a b → a ≠ 3 → pl' a b = pl a b) (hoth : ∀ a b, mq_ok a b → a ≠ 3 → σ' (rr_ln a b) 1 = σ (rr_ln a b) 1 ∧ σ' (rr_ln a b + 1) = σ (rr_ln a b + 1)) : rr_L σ' pl' := by
  intro a b hab ha
  rw [hp a b hab ha]
  obtain ⟨h1, h2⟩ := hoth a b hab ha
  exact ⟨(h a b hab ha).1.keep h1 h2, (h a b hab ha).2⟩
/-- what the class's moveAnswer makes of its state -/
def cx_rel (σ : Nat → Nat → Int32) (p : Nat) (key : Int32) : Nat → Nat → Int32 := fun j k => if j = 23 + 6 * p ∧ k < 4 ∧ σ (23 + 6 * p) k = key then -1 else σ j k
theorem cx_rel_n {σ : Nat → Nat → Int32} {p j : Nat} {key : Int32} (h : j ≠ 23 + 6 * p) : cx_rel σ p key j = σ j := by
  funext k
  unfold cx_rel
  rw [if_neg (fun q => h q.1)]
def cx_mva (σ : Nat → Nat → Int32) (p m nt nb x : Nat) : Nat → Nat → Int32 :=
  cx_up (cx_up (cx_app (cx_rel (cx_rem σ (21 + 6 * p) nt) p (nI x)) (5 + 5 * m) nb (nI x)) (2 + 5 * m) 4 (nI p)) 69 4 (σ 69 4 + 1)
theorem cx_mva_n {σ : Nat → Nat → Int32} {p m nt nb x j : Nat} (h1 : j ≠ 69) (h2 : j ≠ 2 + 5 * m) (h3 : j ≠ 5 + 5 * m) (h4 : j ≠ 6 + 5 * m) (h5 : j ≠ 23 + 6 * p) (h6 : j ≠ 21 + 6 * p) (h7 : j ≠ 22 + 6 * p) : cx_mva σ p m nt nb x j = σ j := by
  unfold cx_mva
  rw [cx_up_J h1, cx_up_J h2, cx_app_n h3 (by omega), cx_rel_n h5, cx_rem_n h6 (by omega)]
theorem mq_go_n {ρ : Nat → Nat → Nat} {x w i q : Nat} (h0 : i ≠ 0) (h1 : i ≠ 1) (h2 : i ≠ 2) : mq_go ρ x w i q = ρ i q := by
  unfold mq_go
  rw [mq_up_j h0, mq_up_j h0, mq_up_j h2, mq_up_j h1]
theorem mq_go_1 {ρ : Nat → Nat → Nat} {x w q : Nat} : mq_go ρ x w 1 q = if q = x then w else ρ 1 q := by
  unfold mq_go mq_up
  simp
theorem mq_go_2 {ρ : Nat → Nat → Nat} {x w q : Nat} : mq_go ρ x w 2 q = if q = x then ρ 0 1 else ρ 2 q := by
  unfold mq_go mq_up
  simp
theorem mq_go_01 {ρ : Nat → Nat → Nat} {x w : Nat} : mq_go ρ x w 0 1 = ρ 0 1 + 1 := by
  unfold mq_go mq_up
  simp
theorem mq_go_02 {ρ : Nat → Nat → Nat} {x w : Nat} : mq_go ρ x w 0 2 = 1 := by
  unfold mq_go mq_up
  simp
/-- from one place to another: leave, then join -/
theorem mq_Pl.move {ρ ρ' : Nat → Nat → Nat} {pl : Nat → Nat → List Nat} (h : mq_Pl ρ pl) {w g x a b : Nat} {t : List Nat} (hk : mq_ok w g) (hh : pl w g = x :: t) (hab : mq_ok a b) (hne : ¬ (a = w ∧ b = g)) (hin : mq_in ρ b x)
    (h1 : ∀ y, ρ' 1 y = if y = x then a else ρ 1 y) (h2 : ∀ y, ρ' 2 y = if y = x then ρ 0 1 else ρ 2 y) (h5 : ∀ y, ρ' 5 y = ρ 5 y) (hm : ρ' 0 1 = ρ 0 1 + 1) : mq_Pl ρ' (mq_set (mq_set pl w g t) a b (pl a b ++ [x])) := by
  have hx := h.mem hk (x := x) (by rw [hh]; simp)
  have hl := h.leave (ρ' := mq_up ρ 1 x 0) hk hh mq_up_s (fun y hy => mq_up_k hy) (fun y => mq_up_j (by omega)) (fun y _ => mq_up_j (by omega)) (mq_up_j (by omega))
  have hj := hl.join (ρ' := ρ') hab hx.1 mq_up_s (by rw [h1]; simp) (by rw [h2]; simp [mq_up]) (by
    unfold mq_in at hin ⊢
    rw [h5]
    exact hin) (fun y hy => by rw [h1, if_neg hy, mq_up_k hy]) (fun y hy => by rw [h2, if_neg hy, mq_up_j (by omega)]) (fun y _ => by rw [h5, mq_up_j (by omega)]) (by rw [hm, mq_up_j (by omega)])
  rw [mq_set_n hne] at hj
  exact hj
def rr_free (j : Nat) : Prop := ∀ a b, mq_ok a b → a ≠ 3 → j ≠ rr_ln a b ∧ j ≠ rr_ln a b + 1
theorem rr_free_M {m : Nat} : rr_free (2 + 5 * m) ∨ 3 ≤ m := by
  by_cases hm : m < 3
  · refine Or.inl fun a b hab ha => ?_
    rcases rr_ln_in hab ha with ⟨q, hq, h | h⟩ | ⟨q, hq, h | h⟩ <;> rw [h] <;> omega
  · exact Or.inr (by omega)
theorem rr_freeM {m : Nat} (hm : m < 3) : rr_free (2 + 5 * m) := by
  intro a b hab ha
  rcases rr_ln_in hab ha with ⟨q, hq, h | h⟩ | ⟨q, hq, h | h⟩ <;> rw [h] <;> omega
theorem rr_freeP {p : Nat} (hp : p < 4) : rr_free (18 + 6 * p) := by
  intro a b hab ha
  rcases rr_ln_in hab ha with ⟨q, hq, h | h⟩ | ⟨q, hq, h | h⟩ <;> rw [h] <;> omega
theorem rr_freeO {p : Nat} (hp : p < 4) : rr_free (23 + 6 * p) := by
  intro a b hab ha
  rcases rr_ln_in hab ha with ⟨q, hq, h | h⟩ | ⟨q, hq, h | h⟩ <;> rw [h] <;> omega
theorem rr_freeB {j : Nat} (hj : 43 ≤ j) : rr_free j := by
  intro a b hab ha
  rcases rr_ln_in hab ha with ⟨q, hq, h | h⟩ | ⟨q, hq, h | h⟩ <;> rw [h] <;> omega
theorem rr_L.upF {σ : Nat → Nat → Int32} {pl : Nat → Nat → List Nat} (h : rr_L σ pl) {j k : Nat} {v : Int32} (hj : rr_free j) : rr_L (cx_up σ j k v) pl :=
  h.keep (fun _ _ _ _ => rfl) (fun a b hab ha => ⟨cx_up_j (Ne.symm (hj a b hab ha).1), cx_up_J (Ne.symm (hj a b hab ha).2)⟩)
theorem rr_L.rel {σ : Nat → Nat → Int32} {pl : Nat → Nat → List Nat} (h : rr_L σ pl) {p : Nat} {key : Int32} (hp : p < 4) : rr_L (cx_rel σ p key) pl :=
  h.keep (fun _ _ _ _ => rfl) (fun a b hab ha => by
    have hj := rr_freeO hp a b hab ha
    rw [cx_rel_n (Ne.symm hj.1), cx_rel_n (Ne.symm hj.2)]
    exact ⟨rfl, rfl⟩)
theorem rr_L.app {σ : Nat → Nat → Int32} {pl : Nat → Nat → List Nat} (h : rr_L σ pl) {w g x : Nat} (hk : mq_ok w g) (hw : w ≠ 3) (hl : (pl w g).length < rr_room w) : rr_L (cx_app σ (rr_ln w g) (pl w g).length (nI x)) (mq_set pl w g (pl w g ++ [x])) := by
  refine h.step hk hw (fun a b hab ha e => ?_) ((h w g hk hw).1.app x) (by rw [List.length_append]; show (pl w g).length + 1 ≤ _; omega)
  obtain ⟨e1, e2, e3⟩ := rr_ln_ne hk hw hab ha e
  rw [cx_app_n e1 e2, cx_app_n e3 (by omega)]
  exact ⟨rfl, rfl⟩
theorem rr_L.rem {σ : Nat → Nat → Int32} {pl : Nat → Nat → List Nat} (h : rr_L σ pl) {w g x : Nat} {t : List Nat} (hk : mq_ok w g) (hw : w ≠ 3) (hh : pl w g = x :: t) : rr_L (cx_rem σ (rr_ln w g) t.length) (mq_set pl w g t) := by
  have h0 := h w g hk hw
  rw [hh] at h0
  refine h.step hk hw (fun a b hab ha e => ?_) h0.1.rem (by have := h0.2; simp at this; omega)
  obtain ⟨e1, e2, e3⟩ := rr_ln_ne hk hw hab ha e
  rw [cx_rem_n e1 e2, cx_rem_n e3 (by omega)]
  exact ⟨rfl, rfl⟩
theorem rr_inj {x y : Nat} (hx : x < 24) (hy : y < 24) (h : nI x = nI y) : x = y := (nI_eq (by omega) (by omega)).mp h
theorem rr_m1 {x : Nat} (hx : x < 24) : nI x ≠ -1 := by
  intro h
  have h1 := nI_toInt (n := x) (by omega)
  rw [h] at h1
  have : ((-1 : Int32)).toInt = -1 := by decide
  omega
theorem rr_G.keep {σ σ' : Nat → Nat → Int32} {τ τ' : Nat → Nat → Int64} {ρ ρ' : Nat → Nat → Nat} {μ μ' : Nat → Int64} (h : rr_G σ τ ρ μ) (h1 : ∀ x, x < 24 → ρ' 1 x ≠ 0 → ρ 1 x ≠ 0) (hs : ∀ x, x < 24 → σ' (43 + x) = σ (43 + x)) (h3 : ∀ x, ρ' 3 x = ρ 3 x) (h4 : ∀ x, ρ' 4 x = ρ 4 x) (h5 : ∀ x, ρ' 5 x = ρ 5 x) (h7 : ∀ x, ρ' 7 x = ρ 7 x) (ht : ∀ x, x < 24 → τ' (43 + x) 0 = τ (43 + x) 0) (hm : ∀ x, x < 24 → μ' x = μ x) : rr_G σ' τ' ρ' μ' := by
  intro x hx h0
  have := h x hx (h1 x hx h0)
  unfold rr_G1 at this ⊢
  rw [hs x hx, h3, h4, h5, h7, ht x hx, hm x hx]
  exact this
theorem mq_hold_iff {ρ : Nat → Nat → Nat} {p i x : Nat} : mq_hold ρ p i x = true ↔ 2 ≤ ρ 1 x ∧ ρ 1 x ≤ 4 ∧ mq_port (ρ 5 x) = p ∧ ρ 8 x = i := by
  simp [mq_hold]
theorem mq_hold_f {ρ : Nat → Nat → Nat} {p i x : Nat} : mq_hold ρ p i x = false ↔ ¬ (2 ≤ ρ 1 x ∧ ρ 1 x ≤ 4 ∧ mq_port (ρ 5 x) = p ∧ ρ 8 x = i) := by
  rw [← mq_hold_iff]
  simp
theorem mq_ansM_sp {ρ : Nat → Nat → Nat} {m p x : Nat} : (∀ y, mq_ansM ρ m p x 1 y = if y = x then 5 else ρ 1 y) ∧ (∀ y, mq_ansM ρ m p x 2 y = if y = x then ρ 0 1 else ρ 2 y) ∧ (∀ i q, i ≠ 0 → i ≠ 1 → i ≠ 2 → i ≠ 10 → i ≠ 16 → mq_ansM ρ m p x i q = ρ i q) ∧ (∀ q, mq_ansM ρ m p x 10 q = if q = m then (p + 1) % 4 else ρ 10 q) ∧ (∀ q, mq_ansM ρ m p x 16 q = if q = 4 then ρ 16 4 + 1 else ρ 16 q) ∧ mq_ansM ρ m p x 0 1 = ρ 0 1 + 1 ∧ mq_ansM ρ m p x 0 2 = 1 := by
  unfold mq_ansM mq_inc mq_go mq_up
  refine ⟨fun y => by simp, fun y => by simp, fun i q h0 h1 h2 h10 h16 => by simp [h0, h1, h2, h10, h16], fun q => by simp, fun q => by simp, by simp, by simp⟩
theorem rr_R.ans {σ : Nat → Nat → Int32} {τ : Nat → Nat → Int64} {ρ : Nat → Nat → Nat} {μ : Nat → Int64} {lt : Int64} {pl : Nat → Nat → List Nat} (h : rr_R σ τ ρ μ lt pl) {m p x : Nat} {t : List Nat} (hm : m < 3) (hp : p < 4) (hh : pl 4 (3 + p) = x :: t) (hxm : x / 8 = m) (hb : (pl 5 m).length < 4) :
    rr_R (cx_mva σ p m t.length (pl 5 m).length x) τ (mq_ansM ρ m p x) μ lt (mq_set (mq_set pl 4 (3 + p) t) 5 m (pl 5 m ++ [x])) := by
  obtain ⟨hL, hP, hJ, hM, hO, hG, hB, hT⟩ := h
  have ok4 : mq_ok 4 (3 + p) := Or.inr ⟨by simp, by omega, by omega⟩
  have ok5 : mq_ok 5 m := Or.inl ⟨by simp, hm⟩
  obtain ⟨hx1, hx2, hx3⟩ := hP.mem ok4 (x := x) (by rw [hh]; simp)
  have hport : mq_port (ρ 5 x) = p := by
    unfold mq_in at hx3
    rw [if_neg (by omega)] at hx3
    omega
  obtain ⟨e1, e2, eo, e10, e16, e01, -⟩ := mq_ansM_sp (ρ := ρ) (m := m) (p := p) (x := x)
  have hset : mq_set pl 4 (3 + p) t 5 m = pl 5 m := mq_set_n (by omega)
  have hne0 : ∀ y, (mq_ansM ρ m p x 1 y ≠ 0 ↔ ρ 1 y ≠ 0) := by
    intro y
    rw [e1]
    by_cases hy : y = x
    · subst hy; simp [hx2]
    · simp [hy]
  refine ⟨?_, ?_, ?_, ?_, ?_, ?_, ?_, hT⟩
  · have g1 := hL.rem ok4 (by omega) hh
    have g2 := g1.rel (p := p) (key := nI x) hp
    have g3 := g2.app (w := 5) (g := m) (x := x) ok5 (by omega) (by rw [hset]; simpa [rr_room] using hb)
    rw [hset] at g3
    have l4 : rr_ln 4 (3 + p) = 21 + 6 * p := by simp [rr_ln]
    have l5 : rr_ln 5 m = 5 + 5 * m := by simp [rr_ln]
    rw [l4, l5] at g3
    exact (g3.upF (rr_freeM hm)).upF (rr_freeB (by omega))
  · exact hP.move ok4 hh ok5 (by omega) (by unfold mq_in; rw [if_pos hm]; exact hxm) e1 e2 (fun y => eo 5 y (by omega) (by omega) (by omega) (by omega) (by omega)) e01
  · intro q hq
    have := hJ q hq
    rw [mq_set_n (by omega), mq_set_n (by omega), cx_mva_n (by omega) (by omega) (by omega) (by omega) (by omega) (by omega) (by omega), eo 12 q (by omega) (by omega) (by omega) (by omega) (by omega), eo 13 q (by omega) (by omega) (by omega) (by omega) (by omega), eo 11 q (by omega) (by omega) (by omega) (by omega) (by omega)]
    exact this
  · intro q hq
    obtain ⟨⟨lp, a1, a2, a3⟩, ⟨b1, b2⟩, bb, c1, c2, c3⟩ := hM q hq
    have hs : ∀ k, cx_mva σ p m t.length (pl 5 m).length x (2 + 5 * q) k = if q = m ∧ k = 4 then nI p else σ (2 + 5 * q) k := by
      intro k
      unfold cx_mva
      rw [cx_up_J (by omega)]
      by_cases hqm : q = m
      · subst hqm
        by_cases hk : k = 4
        · subst hk; simp [cx_up_s]
        · rw [cx_up_k hk, cx_app_n (by omega) (by omega), cx_rel_n (by omega), cx_rem_n (by omega) (by omega), if_neg (fun z => hk z.2)]
      · rw [cx_up_J (by omega), cx_app_n (by omega) (by omega), cx_rel_n (by omega), cx_rem_n (by omega) (by omega), if_neg (fun z => hqm z.1)]
    refine ⟨?_, ⟨?_, ?_⟩, bb, c1, ?_, fun s hs' => ?_⟩
    · by_cases hqm : q = m
      · exact ⟨p, hp, by rw [hs, if_pos ⟨hqm, rfl⟩], by rw [e10, if_pos hqm]⟩
      · exact ⟨lp, a1, by rw [hs, if_neg (fun z => hqm z.1)]; exact a2, by rw [e10, if_neg hqm]; exact a3⟩
    · rw [eo 9 q (by omega) (by omega) (by omega) (by omega) (by omega)]; exact b1
    · rw [hs, if_neg (by omega), eo 9 q (by omega) (by omega) (by omega) (by omega) (by omega)]; exact b2
    · rw [hs, if_neg (by omega)]; exact c2
    · rw [c3 s hs']
      exact decide_eq_decide.mpr (hne0 _).symm
  · obtain ⟨hO1, hO2⟩ := hO
    have hhold : ∀ q i y, mq_hold (mq_ansM ρ m p x) q i y = true ↔ mq_hold ρ q i y = true ∧ y ≠ x := by
      intro q i y
      rw [mq_hold_iff, mq_hold_iff, e1, eo 5 y (by omega) (by omega) (by omega) (by omega) (by omega), eo 8 y (by omega) (by omega) (by omega) (by omega) (by omega)]
      by_cases hy : y = x
      · simp [hy]
      · simp [hy]
    have hown : ∀ q i, cx_mva σ p m t.length (pl 5 m).length x (23 + 6 * q) i = if q = p ∧ i < 4 ∧ σ (23 + 6 * p) i = nI x then -1 else σ (23 + 6 * q) i := by
      intro q i
      unfold cx_mva
      rw [cx_up_J (by omega), cx_up_J (by omega), cx_app_n (by omega) (by omega)]
      by_cases hq : q = p
      · subst hq
        unfold cx_rel
        rw [cx_rem_n (by omega) (by omega)]
        simp
      · rw [cx_rel_n (by omega), cx_rem_n (by omega) (by omega), if_neg (fun z => hq z.1)]
    refine ⟨fun q hq i hi => ⟨fun y hy hh' => ?_, fun hno => ?_⟩, fun y hy h2 h4 => ?_⟩
    · obtain ⟨k1, k2⟩ := (hhold q i y).mp hh'
      have hs := (hO1 q hq i hi).1 y hy k1
      rw [hown, if_neg]
      · exact hs
      · rintro ⟨rfl, -, z⟩
        rw [hs] at z
        exact k2 (rr_inj hy hx1 z)
    · rw [hown]
      by_cases hc : q = p ∧ i < 4 ∧ σ (23 + 6 * p) i = nI x
      · rw [if_pos hc]
      · rw [if_neg hc]
        refine (hO1 q hq i hi).2 fun y hy => ?_
        by_cases hyx : y = x
        · subst hyx
          cases hhy : mq_hold ρ q i y with
          | false => rfl
          | true =>
            exfalso
            have hs := (hO1 q hq i hi).1 y hy hhy
            have hqp : q = p := by
              have := (mq_hold_iff.mp hhy).2.2.1
              omega
            subst hqp
            exact hc ⟨rfl, hi, hs⟩
        · have := hno y hy
          cases hhy : mq_hold ρ q i y with
          | false => rfl
          | true =>
            rw [(hhold q i y).mpr ⟨hhy, hyx⟩] at this
            cases this
    · rw [e1] at h2 h4
      rw [eo 8 y (by omega) (by omega) (by omega) (by omega) (by omega)]
      by_cases hyx : y = x
      · rw [if_pos hyx] at h4; omega
      · rw [if_neg hyx] at h2 h4
        exact hO2 y hy h2 h4
  · exact hG.keep (fun y _ h0 => (hne0 y).mp h0) (fun y hy => cx_mva_n (by omega) (by omega) (by omega) (by omega) (by omega) (by omega) (by omega)) (fun y => eo 3 y (by omega) (by omega) (by omega) (by omega) (by omega)) (fun y => eo 4 y (by omega) (by omega) (by omega) (by omega) (by omega)) (fun y => eo 5 y (by omega) (by omega) (by omega) (by omega) (by omega)) (fun y => eo 7 y (by omega) (by omega) (by omega) (by omega) (by omega)) (fun _ _ => rfl) (fun _ _ => rfl)
  · obtain ⟨hB1, hB2, hB3, hB4⟩ := hB
    refine ⟨fun a ha => ?_, fun i hi => ?_, fun i hi => ?_, ?_⟩
    · rw [cx_mva_n (by omega) (by omega) (by omega) (by omega) (by omega) (by omega) (by omega), eo 14 a (by omega) (by omega) (by omega) (by omega) (by omega)]
      exact hB1 a ha
    · rw [cx_mva_n (by omega) (by omega) (by omega) (by omega) (by omega) (by omega) (by omega), eo 15 i (by omega) (by omega) (by omega) (by omega) (by omega)]
      exact hB2 i hi
    · rw [e16]
      unfold cx_mva
      by_cases h4 : i = 4
      · subst h4
        rw [cx_up_s, if_pos rfl, hB3 4 (by omega), nI_succ]
      · rw [cx_up_k h4, if_neg h4, cx_up_J (by omega), cx_app_n (by omega) (by omega), cx_rel_n (by omega), cx_rem_n (by omega) (by omega)]
        exact hB3 i hi
    · rw [e16, e01, if_neg (by omega)]
      omega
