/-! what a state IS: the reference's numbers (cell, place), the class's ints (cell, place) and longs -/
def mq_up (ρ : Nat → Nat → Nat) (j k v : Nat) : Nat → Nat → Nat := fun i q => if i = j ∧ q = k then v else ρ i q
theorem mq_up_s {ρ : Nat → Nat → Nat} {j k v : Nat} : mq_up ρ j k v j k = v := by simp [mq_up]
theorem mq_up_j {ρ : Nat → Nat → Nat} {j k v i q : Nat} (h : i ≠ j) : mq_up ρ j k v i q = ρ i q := by simp [mq_up, h]
theorem mq_up_k {ρ : Nat → Nat → Nat} {j k v i q : Nat} (h : q ≠ k) : mq_up ρ j k v i q = ρ i q := by simp [mq_up, h]
/-- an int that may be none -/
def mq_oI (o : Option Nat) : Int32 := match o with
  | none => -1
  | some x => nI x
def mq_port (a : Nat) : Nat := if a < 256 then 0 else if a < 512 then 1 else if a < 640 then 2 else 3
def mq_width (p : Nat) : Nat := if p = 0 then 4 else if p = 1 then 1 else 8
def mq_delay (p : Nat) : Nat := if p = 0 then 2 else if p = 2 then 3 else 1
/-- message x stands at w with g: a master below 3, else port g - 3. Cells of the reference: 0 itself (places 0 code, 1 moves, 2 moved), 1 stands, 2 since, 3 sort, 4 size, 5 address, 7 mask, 8 id, 9 refuses, 10 portInTurn, 11 masterInTurn, 12 left, 13 jobs, 14 memory, 15 log, 16 counts -/
def mq_is (ρ : Nat → Nat → Nat) (w g x : Nat) : Bool := (ρ 1 x == w) && (if g < 3 then x / 8 == g else mq_port (ρ 5 x) + 3 == g)
def mq_cnt (p : Nat → Bool) : Nat → Nat
  | 0 => 0
  | n + 1 => mq_cnt p n + (if p n = true then 1 else 0)
def mq_fst (p : Nat → Bool) (s : Nat → Nat) : Nat → Option Nat
  | 0 => none
  | n + 1 => if (p n && (match mq_fst p s n with | none => true | some y => decide (s n < s y))) = true then some n else mq_fst p s n
def mq_fnd (p : Nat → Bool) : Nat → Nat → Option Nat
  | _, 0 => none
  | i, n + 1 => if p i = true then some i else mq_fnd p (i + 1) n
def mq_many (ρ : Nat → Nat → Nat) (w g : Nat) : Nat := mq_cnt (mq_is ρ w g) 24
def mq_first (ρ : Nat → Nat → Nat) (w g : Nat) : Option Nat := mq_fst (mq_is ρ w g) (ρ 2) 24
def mq_go (ρ : Nat → Nat → Nat) (x w : Nat) : Nat → Nat → Nat := mq_up (mq_up (mq_up (mq_up ρ 1 x w) 2 x (ρ 0 1)) 0 1 (ρ 0 1 + 1)) 0 2 1
def mq_hold (ρ : Nat → Nat → Nat) (p i x : Nat) : Bool := decide (2 ≤ ρ 1 x) && (decide (ρ 1 x ≤ 4) && ((mq_port (ρ 5 x) == p) && (ρ 8 x == i)))
def mq_holder (ρ : Nat → Nat → Nat) (p i : Nat) : Option Nat := mq_fnd (mq_hold ρ p i) 0 24
def mq_free (ρ : Nat → Nat → Nat) (p : Nat) : Option Nat := mq_fnd (fun i => (mq_holder ρ p i).isNone) 0 4
def mq_inc (ρ : Nat → Nat → Nat) (k : Nat) : Nat → Nat → Nat := mq_up ρ 16 k (ρ 16 k + 1)
def mq_ansK (ρ : Nat → Nat → Nat) (m k : Nat) : Bool := match mq_first ρ 4 (3 + (ρ 10 m + k) % 4) with
  | none => false
  | some x => x / 8 == m
def mq_ansM (ρ : Nat → Nat → Nat) (m p x : Nat) : Nat → Nat → Nat := mq_inc (mq_go (mq_up ρ 10 m ((p + 1) % 4)) x 5) 4
def mq_ansD (ρ : Nat → Nat → Nat) (m : Nat) : Option Nat := if ρ 9 m ≠ 0 ∨ 3 < mq_many ρ 5 m then none else mq_fnd (mq_ansK ρ m) 0 4
def mq_answers (ρ : Nat → Nat → Nat) (m : Nat) : Nat → Nat → Nat := match mq_ansD ρ m with
  | none => ρ
  | some k => mq_ansM ρ m ((ρ 10 m + k) % 4) ((mq_first ρ 4 (3 + (ρ 10 m + k) % 4)).getD 0)
def mq_reqK (ρ : Nat → Nat → Nat) (p k : Nat) : Bool := match mq_first ρ 1 ((ρ 11 p + k) % 3) with
  | none => false
  | some x => mq_port (ρ 5 x) == p
def mq_reqM (ρ : Nat → Nat → Nat) (p m x i : Nat) : Nat → Nat → Nat := mq_inc (mq_go (mq_up (mq_up ρ 11 p ((m + 1) % 3)) 8 x i) x 2) 2
def mq_reqD (ρ : Nat → Nat → Nat) (p : Nat) : Option Nat := if mq_free ρ p = none ∨ 1 < mq_many ρ 2 (3 + p) then none else mq_fnd (mq_reqK ρ p) 0 3
def mq_fetch (ρ : Nat → Nat → Nat) (p : Nat) : Nat → Nat → Nat := match mq_reqD ρ p with
  | none => ρ
  | some k => mq_reqM ρ p ((ρ 11 p + k) % 3) ((mq_first ρ 1 ((ρ 11 p + k) % 3)).getD 0) ((mq_free ρ p).getD 0)
/-- the bytes of a memory from a, n of them, as one number -/
def mq_got (bt : Nat → Nat) (a : Nat) : Nat → Nat
  | 0 => 0
  | n + 1 => mq_got bt a n + bt (a + n) * 256 ^ n
/-- byte k of a long -/
def mq_byte (d : Int64) (k : Nat) : Nat := d.toBitVec.toNat / 256 ^ k % 256
/-- n bytes of d come to the memory at a: all of them (sort 1), or those of the mask -/
def mq_wr (ρ : Nat → Nat → Nat) (so mk a : Nat) (d : Int64) : Nat → Nat → Nat → Nat
  | 0 => ρ
  | n + 1 => if so = 1 ∨ mk / 2 ^ n % 2 = 1 then mq_up (mq_wr ρ so mk a d n) 14 (a + n) (mq_byte d n) else mq_wr ρ so mk a d n
def mq_work (ρ : Nat → Nat → Nat) (d : Int64) (x : Nat) : (Nat → Nat → Nat) × Int64 :=
  if 640 ≤ ρ 5 x then (ρ, 0) else if ρ 3 x = 0 then (ρ, lN (mq_got (ρ 14) (ρ 5 x) (ρ 4 x))) else (mq_wr ρ (ρ 3 x) (ρ 7 x) (ρ 5 x) d (ρ 4 x), 0)
def mq_upL (μ : Nat → Int64) (x : Nat) (d : Int64) : Nat → Int64 := fun y => if y = x then d else μ y
def mq_begin (ρ : Nat → Nat → Nat) (p : Nat) : Nat → Nat → Nat := match mq_first ρ 2 (3 + p) with
  | none => ρ
  | some x => mq_go (mq_up ρ 12 p (mq_delay p + max 1 (ρ 4 x / mq_width p))) x 3
def mq_fin (ρ : Nat → Nat → Nat) (p x : Nat) : Nat → Nat → Nat :=
  let a := mq_go ρ x 4
  let b := mq_inc (mq_up a 15 (a 16 3 % 32) (64 * p + x)) 3
  mq_up b 13 p (b 13 p + 1)
/-- does port p finish its job, when its count stands as in ρ? -/
def mq_finD (ρ : Nat → Nat → Nat) (p : Nat) : Option Nat := if 0 < ρ 12 p ∨ 1 < mq_many ρ 4 (3 + p) then none else mq_first ρ 3 (3 + p)
def mq_cd (ρ : Nat → Nat → Nat) (p : Nat) : Nat → Nat → Nat := mq_up ρ 12 p (ρ 12 p - 1)
def mq_serve (ρ : Nat → Nat → Nat) (μ : Nat → Int64) (p : Nat) : (Nat → Nat → Nat) × (Nat → Int64) := match mq_first ρ 3 (3 + p) with
  | none => (mq_begin ρ p, μ)
  | some x => match mq_finD (mq_cd ρ p) p with
    | none => (mq_cd ρ p, μ)
    | some _ => (mq_begin (mq_fin (mq_work (mq_cd ρ p) (μ x) x).1 p x) p, mq_upL μ x (mq_work (mq_cd ρ p) (μ x) x).2)
def mq_ansN (ρ : Nat → Nat → Nat) : Nat → Nat → Nat → Nat
  | 0 => ρ
  | n + 1 => mq_answers (mq_ansN ρ n) n
def mq_srv (ρ : Nat → Nat → Nat) (μ : Nat → Int64) : Nat → (Nat → Nat → Nat) × (Nat → Int64)
  | 0 => (ρ, μ)
  | n + 1 => mq_serve (mq_srv ρ μ n).1 (mq_srv ρ μ n).2 n
def mq_ftc (ρ : Nat → Nat → Nat) : Nat → Nat → Nat → Nat
  | 0 => ρ
  | n + 1 => mq_fetch (mq_ftc ρ n) n
def mq_mid (ρ : Nat → Nat → Nat) (μ : Nat → Int64) : (Nat → Nat → Nat) × (Nat → Int64) := (mq_ftc (mq_srv (mq_ansN (mq_up ρ 0 2 0) 3) μ 4).1 4, (mq_srv (mq_ansN (mq_up ρ 0 2 0) 3) μ 4).2)
def mq_end (ρ : Nat → Nat → Nat) : Nat → Nat → Nat := mq_up (mq_inc ρ 0) 16 7 (ρ 16 7 + (if ρ 0 2 = 0 then 1 else 0))
def mq_tick1 (ρ : Nat → Nat → Nat) (μ : Nat → Int64) : (Nat → Nat → Nat) × (Nat → Int64) := (mq_end (mq_mid ρ μ).1, (mq_mid ρ μ).2)
def mq_tick (ρ : Nat → Nat → Nat) (μ : Nat → Int64) : Nat → (Nat → Nat → Nat) × (Nat → Int64)
  | 0 => (ρ, μ)
  | n + 1 => mq_tick1 (mq_tick ρ μ n).1 (mq_tick ρ μ n).2
/-- k ticks in which nothing moved are counted -/
def mq_bump (ρ : Nat → Nat → Nat) (k : Nat) : Nat → Nat → Nat := mq_up (mq_up ρ 16 0 (ρ 16 0 + k)) 16 7 (ρ 16 7 + k)
/-! the class: cells 0 itself, 1 masters, 2+5m master m, 3+5m waiting, 4+5m its keys, 5+5m box, 6+5m its keys, 17 ports, 18+6p port p, 19+6p requests, 20+6p keys, 21+6p answers, 22+6p keys, 23+6p owners, 42 messages, 43+x message x, 67 bytes, 68 log, 69 counts -/
def cx_up (σ : Nat → Nat → Int32) (j k : Nat) (v : Int32) : Nat → Nat → Int32 := fun i q => if i = j ∧ q = k then v else σ i q
theorem cx_up_s {σ : Nat → Nat → Int32} {j k : Nat} {v : Int32} : cx_up σ j k v j k = v := by simp [cx_up]
theorem cx_up_j {σ : Nat → Nat → Int32} {j k i q : Nat} {v : Int32} (h : i ≠ j) : cx_up σ j k v i q = σ i q := by simp [cx_up, h]
theorem cx_up_k {σ : Nat → Nat → Int32} {j k i q : Nat} {v : Int32} (h : q ≠ k) : cx_up σ j k v i q = σ i q := by simp [cx_up, h]
theorem cx_up_J {σ : Nat → Nat → Int32} {j k i : Nat} {v : Int32} (h : i ≠ j) : cx_up σ j k v i = σ i := by funext q; exact cx_up_j h
/-- lines: a line at cell l holds its size at place 1, its keys in cell l + 1 -/
def cx_app (σ : Nat → Nat → Int32) (l n : Nat) (key : Int32) : Nat → Nat → Int32 := cx_up (cx_up σ (l + 1) n key) l 1 (nI (n + 1))
/-- the first i keys moved one place down -/
def cx_sh (σ : Nat → Nat → Int32) (l i : Nat) : Nat → Nat → Int32 := fun j k => if j = l + 1 ∧ k < i then σ (l + 1) (k + 1) else σ j k
def cx_rem (σ : Nat → Nat → Int32) (l n : Nat) : Nat → Nat → Int32 := cx_sh (cx_up σ l 1 (nI n)) l n
def cx_ln (σ : Nat → Nat → Int32) (l : Nat) (xs : List Nat) : Prop := σ l 1 = nI xs.length ∧ ∀ (i x : Nat), xs[i]? = some x → σ (l + 1) i = nI x
theorem cx_ln.first {σ : Nat → Nat → Int32} {l x : Nat} {t : List Nat} (h : cx_ln σ l (x :: t)) : σ (l + 1) 0 = nI x := h.2 0 x rfl
theorem cx_ln.app {σ : Nat → Nat → Int32} {l : Nat} {xs : List Nat} (h : cx_ln σ l xs) (x : Nat) : cx_ln (cx_app σ l xs.length (nI x)) l (xs ++ [x]) := by
  refine ⟨?_, fun i y hy => ?_⟩
  · rw [List.length_append]
    exact cx_up_s
  · unfold cx_app
    rw [cx_up_j (by omega)]
    by_cases hi : i < xs.length
    · rw [List.getElem?_append_left hi] at hy
      rw [cx_up_k (by omega)]
      exact h.2 i y hy
    · rw [List.getElem?_append_right (by omega)] at hy
      have h1 : i - xs.length < 1 := by
        have := (List.getElem?_eq_some_iff.mp hy).1
        simpa using this
      have h2 : i = xs.length := by omega
      subst h2
      rw [Nat.sub_self] at hy
      cases hy
      exact cx_up_s
theorem cx_ln.rem {σ : Nat → Nat → Int32} {l x : Nat} {t : List Nat} (h : cx_ln σ l (x :: t)) : cx_ln (cx_rem σ l t.length) l t := by
  refine ⟨?_, fun i y hy => ?_⟩
  · unfold cx_rem cx_sh
    rw [if_neg (by omega)]
    exact cx_up_s
  · have hi := (List.getElem?_eq_some_iff.mp hy).1
    unfold cx_rem cx_sh
    rw [if_pos ⟨rfl, hi⟩, cx_up_j (by omega)]
    exact h.2 (i + 1) y (by simpa using hy)
theorem cx_app_n {σ : Nat → Nat → Int32} {l n j : Nat} {key : Int32} (h1 : j ≠ l) (h2 : j ≠ l + 1) : cx_app σ l n key j = σ j := by
  unfold cx_app
  rw [cx_up_J h1, cx_up_J h2]
theorem cx_rem_n {σ : Nat → Nat → Int32} {l n j : Nat} (h1 : j ≠ l) (h2 : j ≠ l + 1) : cx_rem σ l n j = σ j := by
  funext q
  unfold cx_rem cx_sh
  rw [if_neg (by omega), cx_up_J h1]
theorem cx_ln.keep {σ σ' : Nat → Nat → Int32} {l : Nat} {xs : List Nat} (h : cx_ln σ l xs) (h1 : σ' l 1 = σ l 1) (h2 : σ' (l + 1) = σ (l + 1)) : cx_ln σ' l xs := ⟨h1.trans h.1, fun i x hx => by rw [h2]; exact h.2 i x hx⟩
def cx_wr (σ : Nat → Nat → Int32) (so mk a : Nat) (d : Int64) : Nat → Nat → Nat → Int32
  | 0 => σ
  | n + 1 => if so = 1 ∨ mk / 2 ^ n % 2 = 1 then cx_up (cx_wr σ so mk a d n) 67 (a + n) (nI (mq_byte d n)).toInt8.toInt32 else cx_wr σ so mk a d n
theorem cx_wr_n {σ : Nat → Nat → Int32} {so mk a n j : Nat} {d : Int64} (h : j ≠ 67) : cx_wr σ so mk a d n j = σ j := by
  induction n with
  | zero => rfl
  | succ n ih =>
    unfold cx_wr
    split
    · rw [cx_up_J h, ih]
    · exact ih
theorem mq_wr_n {ρ : Nat → Nat → Nat} {so mk a n j q : Nat} {d : Int64} (h : j ≠ 14) : mq_wr ρ so mk a d n j q = ρ j q := by
  induction n with
  | zero => rfl
  | succ n ih =>
    unfold mq_wr
    split
    · rw [mq_up_j h, ih]
    · exact ih
theorem cx_up_same {σ : Nat → Nat → Int32} {j k : Nat} {v : Int32} (h : σ j k = v) : cx_up σ j k v = σ := by
  funext i q
  unfold cx_up
  split
  · next e => rw [e.1, e.2, h]
  · rfl
theorem cx_up_upd {σ : Nat → Nat → Int32} {j k : Nat} {v : Int32} : cx_up σ j k v j = upd (σ j) k v := by
  funext q
  simp [cx_up, upd]
