/-! the crossbar's constructor -/
def cx_s0 : Nat → Nat → Int32 := fun j k =>
  if j < 17 then (if 2 ≤ j ∧ (j - 2) % 5 = 0 then (if k = 3 then 1 else if k = 4 then 3 else 0) else 0)
  else if 18 ≤ j ∧ j < 42 then (if (j - 18) % 6 = 0 then (if k = 3 then -1 else if k = 6 then 2 else 0) else if (j - 18) % 6 = 5 then (if k < 4 then -1 else 0) else 0)
  else 0
def cx_l0 : Nat → Nat → Int64 := fun _ _ => 0
def nx_ws (a N : Nat) (e : Nat → va_E) : va_W := (List.range N).map fun j => (a + j, e j)
section NXW
variable {a N n q0 : Nat} {e e' : Nat → va_E} {ws1 : va_W} {v : va_E} {D : va_G} {cl : List vw_C} {H : Heap}
theorem nx_wat {j : Nat} (hj : j < N) : (nx_ws a N e)[j]? = some (a + j, e j) := by
  unfold nx_ws
  rw [List.getElem?_map, List.getElem?_range hj]
  rfl
theorem nx_wof {k : Nat} {q : Nat × va_E} (h : (nx_ws a N e)[k]? = some q) : k < N ∧ q = (a + k, e k) := by
  unfold nx_ws at h
  have hk : k < N := by
    have := (List.getElem?_eq_some_iff.mp h).1
    simpa using this
  rw [List.getElem?_map, List.getElem?_range hk] at h
  exact ⟨hk, (Option.some.inj h).symm⟩
theorem nx_wlen : (nx_ws a N e).length = N := by simp [nx_ws]
theorem nx_wok : nx_ok a (nx_ws a N e) := fun k q h => by
  obtain ⟨_, rfl⟩ := nx_wof h
  rfl
theorem nx_step (hP : va_P D cl ((nx_ws a N e ++ ws1).set q0 (a + q0, v)) H) (hl : ws1.length = n) (hq : q0 < N) (h0 : e' q0 = v) (h1 : ∀ k, k < N → k ≠ q0 → e' k = e k) (h2 : ∀ i, i < n → ws1[i]? = some (a + (N + i), e' (N + i))) : va_P D cl (nx_ws a (N + n) e') H := by
  intro k q hk
  obtain ⟨hk1, rfl⟩ := nx_wof hk
  refine hP k _ ?_
  by_cases hkq : k = q0
  · subst hkq
    rw [List.getElem?_set_self (by rw [List.length_append, nx_wlen]; omega), h0]
  · rw [List.getElem?_set_ne (Ne.symm hkq)]
    by_cases hkN : k < N
    · rw [List.getElem?_append_left (by rw [nx_wlen]; exact hkN), nx_wat hkN, h1 k hkN hkq]
    · rw [List.getElem?_append_right (by rw [nx_wlen]; omega), nx_wlen]
      have := h2 (k - N) (by omega)
      rw [show N + (k - N) = k by omega] at this
      exact this
theorem nx_put1 (hP : va_P D cl ((nx_ws a N e).set q0 (a + q0, v)) H) (hq : q0 < N) (h0 : e' q0 = v) (h1 : ∀ k, k < N → k ≠ q0 → e' k = e k) : va_P D cl (nx_ws a N e') H :=
  nx_step (ws1 := []) (n := 0) (by rw [List.append_nil]; exact hP) rfl hq h0 h1 (fun i hi => absurd hi (by omega))
theorem nx_psh (hP : va_P D cl (nx_ws a N e ++ [(a + N, v)]) H) (h0 : e' N = v) (h1 : ∀ k, k < N → e' k = e k) : va_P D cl (nx_ws a (N + 1) e') H := by
  intro k q hk
  obtain ⟨hk1, rfl⟩ := nx_wof hk
  refine hP k _ ?_
  by_cases hkN : k < N
  · rw [List.getElem?_append_left (by rw [nx_wlen]; exact hkN), nx_wat hkN, h1 k hkN]
  · have : k = N := by omega
    subst this
    rw [List.getElem?_append_right (by rw [nx_wlen]; omega), nx_wlen, Nat.sub_self, h0]
    rfl
theorem nx_wch {M : Nat} (hP : va_P D cl (nx_ws a N e) H) (h : N = M) : va_P D cl (nx_ws a M e) H := by rw [← h]; exact hP
end NXW
def cs_f (a n0 st m : Nat) : Nat → Option Nat := fun i => if i < m then some (a + (n0 + st * i)) else none
theorem cs_f0 {a n0 st : Nat} : cs_f a n0 st 0 = fun _ => none := by
  funext i
  unfold cs_f
  rw [if_neg (by omega)]
theorem cs_up {a n0 st m : Nat} : va_up (cs_f a n0 st m) m (some (a + (n0 + st * m))) = cs_f a n0 st (m + 1) := by
  funext i
  unfold va_up cs_f
  by_cases h : i = m
  · subst h
    rw [if_pos rfl, if_pos (by omega)]
  · rw [if_neg h]
    by_cases h2 : i < m
    · rw [if_pos h2, if_pos (by omega)]
    · rw [if_neg h2, if_neg (by omega)]
def cs_E (a : Nat) (K : Nat → ClassId) (fl : List Value) (fm fp fg : Nat → Option Nat) (j : Nat) : va_E :=
  if j = 0 then .inr (4, fl) else if j = 1 then .inl (K 4, 3, .inr (.inr (.inr (.inr fm)))) else if j = 17 then .inl (K 5, 4, .inr (.inr (.inr (.inr fp)))) else if j = 42 then .inl (K 6, 24, .inr (.inr (.inr (.inr fg)))) else cx_E (fun j => a + j) K cx_s0 cx_l0 j
section CSE
variable {a : Nat} {K : Nat → ClassId} {fl fl' : List Value} {fm fp fg f' : Nat → Option Nat}
theorem cs_k0 {N : Nat} : ∀ k, k < N → k ≠ 0 → cs_E a K fl' fm fp fg k = cs_E a K fl fm fp fg k := fun k _ h => by unfold cs_E; rw [if_neg h, if_neg h]
theorem cs_k1 {N : Nat} : ∀ k, k < N → k ≠ 1 → cs_E a K fl f' fp fg k = cs_E a K fl fm fp fg k := fun k _ h => by unfold cs_E; rw [if_neg h, if_neg h]
theorem cs_k17 {N : Nat} : ∀ k, k < N → k ≠ 17 → cs_E a K fl fm f' fg k = cs_E a K fl fm fp fg k := fun k _ h => by unfold cs_E; rw [if_neg h, if_neg h]
theorem cs_k42 {N : Nat} : ∀ k, k < N → k ≠ 42 → cs_E a K fl fm fp f' k = cs_E a K fl fm fp fg k := fun k _ h => by unfold cs_E; rw [if_neg h, if_neg h]

theorem cs_M {m : Nat} (hm : m < 3) : ∀ i, i < 5 → ([((a + (2 + 5 * m)), .inr (1, [.ref ((a + (2 + 5 * m)) + 1), .ref ((a + (2 + 5 * m)) + 3), .int (nI 0), .int (nI 1), .int (nI 3)])), (((a + (2 + 5 * m)) + 1), .inr (0, [.ref ((a + (2 + 5 * m)) + 2), .int (nI 0)])), (((a + (2 + 5 * m)) + 2), .inl (K 0, 8, .inl (fun _ => 0))), (((a + (2 + 5 * m)) + 3), .inr (0, [.ref ((a + (2 + 5 * m)) + 4), .int (nI 0)])), (((a + (2 + 5 * m)) + 4), .inl (K 0, 4, .inl (fun _ => 0)))] : va_W)[i]? = some (a + (2 + 5 * m + i), cs_E a K fl fm fp fg (2 + 5 * m + i)) := by
  intro i hi
  rcases cx_3 hm with rfl | rfl | rfl <;> rcases (show i = 0 ∨ i = 1 ∨ i = 2 ∨ i = 3 ∨ i = 4 by omega) with rfl | rfl | rfl | rfl | rfl <;> rfl
theorem cs_P {p : Nat} (hp : p < 4) : ∀ i, i < 6 → ([((a + (18 + 6 * p)), .inr (3, [.ref ((a + (18 + 6 * p)) + 1), .ref ((a + (18 + 6 * p)) + 3), .ref ((a + (18 + 6 * p)) + 5), .int (-1), .int (nI 0), .int (nI 0), .int (nI 2)])), (((a + (18 + 6 * p)) + 1), .inr (0, [.ref ((a + (18 + 6 * p)) + 2), .int (nI 0)])), (((a + (18 + 6 * p)) + 2), .inl (K 0, 2, .inl (fun _ => 0))), (((a + (18 + 6 * p)) + 3), .inr (0, [.ref ((a + (18 + 6 * p)) + 4), .int (nI 0)])), (((a + (18 + 6 * p)) + 4), .inl (K 0, 2, .inl (fun _ => 0))), (((a + (18 + 6 * p)) + 5), .inl (K 0, 4, .inl (fun i => if i < 4 then -1 else 0)))] : va_W)[i]? = some (a + (18 + 6 * p + i), cs_E a K fl fm fp fg (18 + 6 * p + i)) := by
  intro i hi
  rcases cx_4 hp with rfl | rfl | rfl | rfl <;> rcases (show i = 0 ∨ i = 1 ∨ i = 2 ∨ i = 3 ∨ i = 4 ∨ i = 5 by omega) with rfl | rfl | rfl | rfl | rfl | rfl <;> rfl
theorem cs_sG {x : Nat} (h : x < 24) (k : Nat) : cx_s0 (43 + x) k = 0 := by
  unfold cx_s0
  rw [if_neg (by omega), if_neg (by omega)]
theorem cs_G {x : Nat} (hx : x < 24) : ∀ i, i < 1 → ([(a + (43 + 1 * x), .inr (2, [.int 0, .int 0, .int 0, .long 0, .int 0]))] : va_W)[i]? = some (a + (43 + 1 * x + i), cs_E a K fl fm fp fg (43 + 1 * x + i)) := by
  intro i hi
  have h0 : i = 0 := by omega
  subst h0
  have e : cs_E a K fl fm fp fg (43 + 1 * x + 0) = .inr (2, [.int 0, .int 0, .int 0, .long 0, .int 0]) := by
    unfold cs_E
    rw [if_neg (by omega), if_neg (by omega), if_neg (by omega), if_neg (by omega), show 43 + 1 * x + 0 = 43 + x by omega, cx_E_G hx, cs_sG hx, cs_sG hx, cs_sG hx, cs_sG hx]
    rfl
  rw [e]
  rfl
end CSE
theorem nx_cell {cA : ClassId} {n : Nat} {f g : Nat → Option Nat} (h : ∀ j, j < n → f j = g j) : vp_cell cA (n, .inr (.inr (.inr (.inr f)))) = vp_cell cA (n, .inr (.inr (.inr (.inr g)))) := by
  rw [vp_cell_q, vp_cell_q]
  unfold arrV
  congr 2
  funext j
  show va_rf (f j.val) = va_rf (g j.val)
  rw [h j.val j.isLt]
theorem cs_end {a : Nat} {K : Nat → ClassId} {D : va_G} {H : Heap} (hP : va_P D mx_cl (nx_ws a 70 (cs_E a K [.ref (a + 1), .ref (a + 17), .ref (a + 42), .ref (a + 67), .ref (a + 68), .ref (a + 69), .long 0] (cs_f a 2 5 3) (cs_f a 18 6 4) (cs_f a 43 1 24))) H) : va_P D mx_cl (nx_ws a 70 (cx_E (fun j => a + j) K cx_s0 cx_l0)) H := by
  intro k q hk
  obtain ⟨hk1, rfl⟩ := nx_wof hk
  have h := hP k _ (nx_wat hk1)
  by_cases k1 : k = 1
  · subst k1
    show H[a + 1]? = some (vp_cell (K 4) (3, .inr (.inr (.inr (.inr (fun m => some (a + (2 + 5 * m))))))))
    rw [← nx_cell (f := cs_f a 2 5 3) (fun j hj => if_pos hj)]
    exact h
  · by_cases k2 : k = 17
    · subst k2
      show H[a + 17]? = some (vp_cell (K 5) (4, .inr (.inr (.inr (.inr (fun m => some (a + (18 + 6 * m))))))))
      rw [← nx_cell (f := cs_f a 18 6 4) (fun j hj => if_pos hj)]
      exact h
    · by_cases k3 : k = 42
      · subst k3
        show H[a + 42]? = some (vp_cell (K 6) (24, .inr (.inr (.inr (.inr (fun m => some (a + (43 + m))))))))
        rw [← nx_cell (f := cs_f a 43 1 24) (fun j hj => by show (if j < 24 then _ else _) = _; rw [if_pos hj, Nat.one_mul])]
        exact h
      · by_cases k0 : k = 0
        · subst k0
          exact h
        · unfold cs_E at h
          rw [if_neg k0, if_neg k1, if_neg k2, if_neg k3] at h
          exact h
def nx_ZX (U : State) : Prop := va_AO "MessageCrossbar$Master" U ∧ va_AO "MessageCrossbar$Port" U ∧ va_AO "MessageCrossbar$Message" U ∧ va_Nw (.methodLinkNest "MessageCrossbar" 29 yG_init "MessageCrossbar") U
theorem nx_wX : nx_warm nx_ZX := fun _ _ hW h => ⟨va_AO.moved hW.alike h.1, va_AO.moved hW.alike h.2.1, va_AO.moved hW.alike h.2.2.1, va_Nw.warmM hW h.2.2.2⟩
