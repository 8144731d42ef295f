theorem lw_tab {args : Array Value} {s : State} {A : Nat → Prop} {n : String} {f : Nat → Nat} (hA : ∀ a : Nat, a < s.heap.size → ¬ A a) (hl : (Cond.laysStatic "MessageCrossbar" n "[I").before args s = true) (hini : (Cond.initialized "MessageCrossbar").before args s = true) (harr : (Cond.arrayOf (.static "MessageCrossbar" n "[I") .int).before args s = true) (hlen : (Cond.eq (.length (.static "MessageCrossbar" n "[I")) (.int 4)).before args s = true) (h0 : (Cond.eq (.elem (.static "MessageCrossbar" n "[I") (.int 0)) (.int (nI (f 0)))).before args s = true) (h1 : (Cond.eq (.elem (.static "MessageCrossbar" n "[I") (.int 1)) (.int (nI (f 1)))).before args s = true) (h2 : (Cond.eq (.elem (.static "MessageCrossbar" n "[I") (.int 2)) (.int (nI (f 2)))).before args s = true) (h3 : (Cond.eq (.elem (.static "MessageCrossbar" n "[I") (.int 3)) (.int (nI (f 3)))).before args s = true) : cx_Zt A n f s s.heap := by
  obtain ⟨t, ht, hT⟩ := va_Tof (N := 4) (f := fun j => .int (nI (f j))) (by decide) harr (va_eqt hlen) (fun j hj => by
    rcases (show j = 0 ∨ j = 1 ∨ j = 2 ∨ j = 3 by omega) with rfl | rfl | rfl | rfl
    · exact va_eqt h0
    · exact va_eqt h1
    · exact va_eqt h2
    · exact va_eqt h3) hA
  exact ⟨t, va_Zof hl hini ht hA, hT⟩
theorem lw_arr {args : Array Value} {s : State} {ty : FieldType} (h : (Cond.arrayClass ty).before args s = true) (hty : ∀ C, ty ≠ .object C) : ∃ cA : ClassId, ArrOfT s cA ty ∧ va_RA s cA ty := by
  obtain ⟨cA, k, comp, h1, h2, h3⟩ := Cond.arrayClass_spec h
  refine ⟨cA, fun n z => ⟨fun k h => (by cases h), k, h2, comp, h3⟩, ?_⟩
  cases ty with
  | object C => exact absurd rfl (hty C)
  | _ => exact h1
theorem lw_arrq {args : Array Value} {s : State} {C : String} (h : (Cond.arrayOver (.object C)).before args s = true) : ∃ cA : ClassId, ArrOfT s cA (.object C) ∧ va_RA s cA (.object C) := by
  obtain ⟨comp, cA, k, h1, -, h2, h3, h4⟩ := Cond.arrayOver_spec h
  exact ⟨cA, fun n z => ⟨fun k h => (by cases h), k, h2, comp, h3⟩, k, comp, h2, h3, h1, h4⟩
def lw_D (c0 c1 c2 c3 c4 c5 : ClassId) (i0 i1 i2 i3 i4 i5 : Nat → Nat) : va_G := (fun c => match c with | 0 => c0 | 1 => c1 | 2 => c2 | 3 => c3 | 4 => c4 | _ => c5, fun c => match c with | 0 => i0 | 1 => i1 | 2 => i2 | 3 => i3 | 4 => i4 | _ => i5)
def lw_Ks (k0 k1 k2 k3 k4 k5 k6 : ClassId) : Nat → ClassId := fun c => match c with | 0 => k0 | 1 => k1 | 2 => k2 | 3 => k3 | 4 => k4 | 5 => k5 | _ => k6
theorem lw_kn {s : State} {args : Array Value} (hts : ∀ w ∈ lw_tbl, w.before args s = true) (ht : ∀ w ∈ mx_T, w.before args s = true) : ∃ (D : va_G) (K : Nat → ClassId), va_K D mx_cl (mx_tys K) s := by
  obtain ⟨c0, i0, u0⟩ := u_known ht mh_L (ht _ mw_29)
  obtain ⟨c1, i1, u1⟩ := u_known ht mh_M (ht _ mw_23)
  obtain ⟨c2, i2, u2⟩ := u_known ht mh_G (ht _ mw_105)
  obtain ⟨c3, i3, u3⟩ := u_known ht mh_P (ht _ mw_67)
  obtain ⟨c4, i4, u4⟩ := u_known ht mh_X (ht _ mw_14)
  obtain ⟨c5, i5, u5⟩ := u_known ht mh_R (ht _ mw_467)
  obtain ⟨k0, a0⟩ := lw_arr (ty := .int) (ht _ mw_43) (fun _ h => by cases h)
  obtain ⟨k1, a1⟩ := lw_arr (ty := .byte) (ht _ mw_151) (fun _ h => by cases h)
  obtain ⟨k2, a2⟩ := lw_arr (ty := .boolean) (ht _ mw_534) (fun _ h => by cases h)
  obtain ⟨k3, a3⟩ := lw_arr (ty := .long) (ht _ mw_533) (fun _ h => by cases h)
  obtain ⟨k4, a4⟩ := lw_arrq (C := "MessageCrossbar$Master") (hts _ (by decide +kernel))
  obtain ⟨k5, a5⟩ := lw_arrq (C := "MessageCrossbar$Port") (hts _ (by decide +kernel))
  obtain ⟨k6, a6⟩ := lw_arrq (C := "MessageCrossbar$Message") (hts _ (by decide +kernel))
  refine ⟨lw_D c0 c1 c2 c3 c4 c5 i0 i1 i2 i3 i4 i5, lw_Ks k0 k1 k2 k3 k4 k5 k6, fun c q hq => ?_, fun k q hk => ?_⟩
  · have hc : c < 6 := (List.getElem?_eq_some_iff.mp hq).1
    rcases (show c = 0 ∨ c = 1 ∨ c = 2 ∨ c = 3 ∨ c = 4 ∨ c = 5 by omega) with rfl | rfl | rfl | rfl | rfl | rfl
    · cases hq; exact u0
    · cases hq; exact u1
    · cases hq; exact u2
    · cases hq; exact u3
    · cases hq; exact u4
    · cases hq; exact u5
  · have hc : k < 7 := (List.getElem?_eq_some_iff.mp hk).1
    rcases (show k = 0 ∨ k = 1 ∨ k = 2 ∨ k = 3 ∨ k = 4 ∨ k = 5 ∨ k = 6 by omega) with rfl | rfl | rfl | rfl | rfl | rfl | rfl
    · cases hk; exact a0
    · cases hk; exact a1
    · cases hk; exact a2
    · cases hk; exact a3
    · cases hk; exact a4
    · cases hk; exact a5
    · cases hk; exact a6
set_option maxHeartbeats 4000000 in
set_option maxRecDepth 100000 in
theorem lw_Z0 {s : State} {args : Array Value} {A : Nat → Prop} (hA : ∀ a : Nat, a < s.heap.size → ¬ A a) (hts : ∀ w ∈ lw_tbl, w.before args s = true) (hgv : (Jvm.Cond.and given_1 narrow_1).before args s = true) : lz_Z A s s.heap := by
  have hs := flat_of_before _ hgv
  have hini := hts (Cond.initialized "MessageCrossbar") (by decide +kernel)
  refine ⟨⟨?_, ?_, ?_, ?_⟩, ⟨?_, ?_⟩, ⟨?_, ?_, ?_⟩, ?_, ?_, ?_⟩
  · exact lw_tab hA (hts _ (by decide +kernel)) hini (hs _ (by decide +kernel)) (hs _ (by decide +kernel)) (hs _ (by decide +kernel)) (hs _ (by decide +kernel)) (hs _ (by decide +kernel)) (hs _ (by decide +kernel))
  · exact lw_tab hA (hts _ (by decide +kernel)) hini (hs _ (by decide +kernel)) (hs _ (by decide +kernel)) (hs _ (by decide +kernel)) (hs _ (by decide +kernel)) (hs _ (by decide +kernel)) (hs _ (by decide +kernel))
  · exact lw_tab hA (hts _ (by decide +kernel)) hini (hs _ (by decide +kernel)) (hs _ (by decide +kernel)) (hs _ (by decide +kernel)) (hs _ (by decide +kernel)) (hs _ (by decide +kernel)) (hs _ (by decide +kernel))
  · exact va_Nw.of rfl (hts _ (by decide +kernel))
  · exact vx_Zqof (hts _ (by decide +kernel)) (hts _ (by decide +kernel)) (hs _ (by decide +kernel)) hA
  · exact vx_Zqof (hts _ (by decide +kernel)) (hts _ (by decide +kernel)) (hs _ (by decide +kernel)) hA
  · exact va_Nw.of rfl (hts _ (by decide +kernel))
  · exact va_Nw.of rfl (hts _ (by decide +kernel))
  · exact va_Nw.of rfl (hts _ (by decide +kernel))
  · exact va_Nw.of rfl (hts _ (by decide +kernel))
  · exact va_Nw.of rfl (hts _ (by decide +kernel))
  · exact va_Nc.of (hs _ (by decide +kernel))
theorem lw_w0 {a : Nat} {D : va_G} {K : Nat → ClassId} {s : State} {H : Heap} (hK : va_K D mx_cl (mx_tys K) s) (hP : va_P D mx_cl ((nx_ws a 70 (cx_E (fun j => a + j) K cx_s0 cx_l0) ++ [((a + 70), .inr (5, [.int 0, .ref ((a + 70) + 1), .ref ((a + 70) + 2), .ref ((a + 70) + 3), .ref ((a + 70) + 4), .ref ((a + 70) + 5), .ref ((a + 70) + 6), .ref ((a + 70) + 7), .ref ((a + 70) + 8), .int 0, .ref ((a + 70) + 9), .ref ((a + 70) + 10), .ref ((a + 70) + 11), .ref ((a + 70) + 12), .ref ((a + 70) + 13), .ref ((a + 70) + 14), .ref ((a + 70) + 15), .ref ((a + 70) + 16), .long 0, .int 0])), (((a + 70) + 1), .inl (K 0, 24, .inl (fun _ => 0))), (((a + 70) + 2), .inl (K 0, 24, .inl (fun _ => 0))), (((a + 70) + 3), .inl (K 0, 24, .inl (fun _ => 0))), (((a + 70) + 4), .inl (K 0, 24, .inl (fun _ => 0))), (((a + 70) + 5), .inl (K 0, 24, .inl (fun _ => 0))), (((a + 70) + 6), .inl (K 3, 24, .inr (.inl (fun _ => 0)))), (((a + 70) + 7), .inl (K 0, 24, .inl (fun _ => 0))), (((a + 70) + 8), .inl (K 0, 24, .inl (fun _ => 0))), (((a + 70) + 9), .inl (K 2, 3, .inl (fun _ => 0))), (((a + 70) + 10), .inl (K 0, 3, .inl (fun _ => 0))), (((a + 70) + 11), .inl (K 0, 4, .inl (fun _ => 0))), (((a + 70) + 12), .inl (K 0, 4, .inl (fun _ => 0))), (((a + 70) + 13), .inl (K 0, 4, .inl (fun _ => 0))), (((a + 70) + 14), .inl (K 0, 640, .inl (fun _ => 0))), (((a + 70) + 15), .inl (K 0, 32, .inl (fun _ => 0))), (((a + 70) + 16), .inl (K 0, 8, .inl (fun _ => 0)))]) ++ [(a + 87, .inl (K 3, 1, .inr (.inl (fun _ => 0))))]) H) : lz_V D K (fun j => a + j) cx_s0 cx_l0 (fun _ _ => 0) (fun _ => 0) 0 (fun _ => 0) s H := by
  refine ⟨fun k q hk => ?_, hK, fun i j _ _ e => by have e1 : a + i = a + j := e; omega⟩
  obtain ⟨hk1, rfl⟩ := gx_of hk
  by_cases h7 : k < 70
  · rw [lz_eC h7]
    exact hP k _ (by rw [List.getElem?_append_left (by rw [List.length_append, nx_wlen]; show k < 70 + 17; omega), List.getElem?_append_left (by rw [nx_wlen]; exact h7)]; exact nx_wat h7)
  · by_cases h8 : k < 87
    · obtain ⟨j, rfl⟩ : ∃ j, k = j + 70 := ⟨k - 70, by omega⟩
      rw [lz_eR (by omega)]
      refine hP (j + 70) _ ?_
      rw [List.getElem?_append_left (by rw [List.length_append, nx_wlen]; show j + 70 < 70 + 17; omega), List.getElem?_append_right (by rw [nx_wlen]; omega), nx_wlen, Nat.add_sub_cancel]
      rcases (show j = 0 ∨ j = 1 ∨ j = 2 ∨ j = 3 ∨ j = 4 ∨ j = 5 ∨ j = 6 ∨ j = 7 ∨ j = 8 ∨ j = 9 ∨ j = 10 ∨ j = 11 ∨ j = 12 ∨ j = 13 ∨ j = 14 ∨ j = 15 ∨ j = 16 by omega) with rfl | rfl | rfl | rfl | rfl | rfl | rfl | rfl | rfl | rfl | rfl | rfl | rfl | rfl | rfl | rfl | rfl <;> rfl
    · have h9 : k = 87 := by omega
      subst h9
      refine hP 87 _ ?_
      rw [List.getElem?_append_right (by rw [List.length_append, nx_wlen]; exact Nat.le_refl 87), List.length_append, nx_wlen]
      rfl
