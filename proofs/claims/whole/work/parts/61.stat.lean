/-! statics that only count -/

set_option maxHeartbeats 4000000 in
set_option maxRecDepth 100000 in
theorem k_X_isBelow (l : Launch) {a b : Int32} : Met l yX_isBelow (Cond.code yX_isBelow prog_1_method_28_code 2 (some .boolean) :: mx_T) { frames := 0, cells := 0, slots := 0, locals := 0 } (va_Pc [.int a, .int b] (fun _ => True)) (va_Qi (fun rr (_ : Unit) => rr = (if 0 ≤ a ∧ a < b then nI 1 else nI 0)) (fun _ _ => True) (fun _ => False)) 0 0 (fun _ => False) := by
  refine gx_met (by decide) rfl (Nat.le_of_ble_eq_true rfl) ?_
  intro pg ev s mid as below mth c ls hx hb hr hml ht hown hlk hnm hargs hB hl
  have hS : va_S (fun _ => False) s.heap s.heap [] := va_S.rf
  have hl : lv_has ls 2 [(0, .int a), (1, .int b)] := hl
  refine lv_iload_n hx hb dX_isBelow_0 rfl (lv_at hl 0 rfl) ?_
  refine lv_if_lt (tgt := 13) hx hb dX_isBelow_1 (by decide) (fun h1 => ?_) (fun h1 => ?_)
  · refine lv_iconst (v := nI 0) hx hb dX_isBelow_13 (by decide) ?_
    exact gx_pzret hx hb hr rfl hS (if_neg (fun q => Int32.not_le.mpr h1 q.1)).symm dX_isBelow_14 hlk
  · refine lv_iload_n hx hb dX_isBelow_4 rfl (lv_at hl 0 rfl) ?_
    refine lv_iload_n hx hb dX_isBelow_5 rfl (lv_at hl 1 rfl) ?_
    refine lv_icmp_ge (tgt := 13) hx hb dX_isBelow_6 (by decide) (fun h6 => ?_) (fun h6 => ?_)
    · refine lv_iconst (v := nI 0) hx hb dX_isBelow_13 (by decide) ?_
      exact gx_pzret hx hb hr rfl hS (if_neg (fun q => Int32.not_le.mpr q.2 h6)).symm dX_isBelow_14 hlk
    · refine lv_iconst (v := nI 1) hx hb dX_isBelow_9 (by decide) ?_
      refine lv_goto (tgt := 14) hx hb dX_isBelow_10 (by decide) ?_
      exact gx_pzret hx hb hr rfl hS (if_pos ⟨Int32.not_lt.mp h1, Int32.not_le.mp h6⟩).symm dX_isBelow_14 hlk

set_option maxHeartbeats 4000000 in
set_option maxRecDepth 100000 in
theorem k_X_masterOf (l : Launch) {a : Int32} : Met l yX_masterOf (Cond.code yX_masterOf prog_1_method_30_code 1 (some .int) :: mx_T) { frames := 0, cells := 0, slots := 0, locals := 0 } (va_Pc [.int a] (fun _ => True)) (va_Qi (fun rr (_ : Unit) => rr = a >>> (nI 3 &&& 31)) (fun _ _ => True) (fun _ => False)) 0 0 (fun _ => False) := by
  refine gx_met (by decide) rfl (Nat.le_of_ble_eq_true rfl) ?_
  intro pg ev s mid as below mth c ls hx hb hr hml ht hown hlk hnm hargs hB hl
  have hS : va_S (fun _ => False) s.heap s.heap [] := va_S.rf
  have hl : lv_has ls 1 [(0, .int a)] := hl
  refine lv_iload_n hx hb dX_masterOf_0 rfl (lv_at hl 0 rfl) ?_
  refine lv_iconst (v := nI 3) hx hb dX_masterOf_1 (by decide) ?_
  refine lv_ishr hx hb dX_masterOf_2 ?_
  exact gx_pret hx hb hr hS rfl dX_masterOf_3 hlk

set_option maxHeartbeats 4000000 in
set_option maxRecDepth 100000 in
theorem k_X_sourceOf (l : Launch) {a : Int32} : Met l yX_sourceOf (Cond.code yX_sourceOf prog_1_method_31_code 1 (some .int) :: mx_T) { frames := 0, cells := 0, slots := 0, locals := 0 } (va_Pc [.int a] (fun _ => True)) (va_Qi (fun rr (_ : Unit) => rr = a &&& nI 7) (fun _ _ => True) (fun _ => False)) 0 0 (fun _ => False) := by
  refine gx_met (by decide) rfl (Nat.le_of_ble_eq_true rfl) ?_
  intro pg ev s mid as below mth c ls hx hb hr hml ht hown hlk hnm hargs hB hl
  have hS : va_S (fun _ => False) s.heap s.heap [] := va_S.rf
  have hl : lv_has ls 1 [(0, .int a)] := hl
  refine lv_iload_n hx hb dX_sourceOf_0 rfl (lv_at hl 0 rfl) ?_
  refine lv_bipush (v := nI 7) hx hb dX_sourceOf_1 (by decide) ?_
  refine lv_iand hx hb dX_sourceOf_3 ?_
  exact gx_pret hx hb hr hS rfl dX_sourceOf_4 hlk

set_option maxHeartbeats 4000000 in
set_option maxRecDepth 100000 in
theorem k_X_logPlace (l : Launch) {a : Int32} : Met l yX_logPlace (Cond.code yX_logPlace prog_1_method_32_code 1 (some .int) :: mx_T) { frames := 0, cells := 0, slots := 0, locals := 0 } (va_Pc [.int a] (fun _ => True)) (va_Qi (fun rr (_ : Unit) => rr = a &&& nI 31) (fun _ _ => True) (fun _ => False)) 0 0 (fun _ => False) := by
  refine gx_met (by decide) rfl (Nat.le_of_ble_eq_true rfl) ?_
  intro pg ev s mid as below mth c ls hx hb hr hml ht hown hlk hnm hargs hB hl
  have hS : va_S (fun _ => False) s.heap s.heap [] := va_S.rf
  have hl : lv_has ls 1 [(0, .int a)] := hl
  refine lv_iload_n hx hb dX_logPlace_0 rfl (lv_at hl 0 rfl) ?_
  refine lv_bipush (v := nI 31) hx hb dX_logPlace_1 (by decide) ?_
  refine lv_iand hx hb dX_logPlace_3 ?_
  exact gx_pret hx hb hr hS rfl dX_logPlace_4 hlk

set_option maxHeartbeats 4000000 in
set_option maxRecDepth 100000 in
theorem k_X_stepBehind (l : Launch) {a b n : Nat} (ha : a < 2 ^ 20) (hb2 : b < 2 ^ 20) (hn : n < 2 ^ 20) : Met l yX_stepBehind (Cond.code yX_stepBehind prog_1_method_33_code 4 (some .int) :: mx_T) { frames := 0, cells := 0, slots := 0, locals := 0 } (va_Pc [.int (nI a), .int (nI b), .int (nI n)] (fun _ => True)) (va_Qi (fun rr (_ : Unit) => rr = nI (if n ≤ a + b then a + b - n else a + b)) (fun _ _ => True) (fun _ => False)) 0 0 (fun _ => False) := by
  refine gx_met (by decide) rfl (Nat.le_of_ble_eq_true rfl) ?_
  intro pg ev s mid as below mth c ls hx hb hr hml ht hown hlk hnm hargs hB hl
  have hS : va_S (fun _ => False) s.heap s.heap [] := va_S.rf
  have hl : lv_has ls 4 [(0, .int (nI a)), (1, .int (nI b)), (2, .int (nI n))] := hl
  refine lv_iload_n hx hb dX_stepBehind_0 rfl (lv_at hl 0 rfl) ?_
  refine lv_iload_n hx hb dX_stepBehind_1 rfl (lv_at hl 1 rfl) ?_
  refine gx_iadd (a := a) (b := b) hx hb dX_stepBehind_2 ?_
  refine lv_istore_n (lv' := [(3, .int (nI (a + b))), (0, .int (nI a)), (1, .int (nI b)), (2, .int (nI n))]) hx hb dX_stepBehind_3 rfl hl (by decide) rfl (fun ls hl => ?_)
  refine lv_iload_n hx hb dX_stepBehind_4 rfl (lv_at hl 0 rfl) ?_
  refine lv_iload_n hx hb dX_stepBehind_5 rfl (lv_at hl 3 rfl) ?_
  refine gx_icmp_lt (a := (a + b)) (b := n) (tgt := 15) hx hb dX_stepBehind_6 (by decide) (by omega) (by omega) (fun h6 => ?_) (fun h6 => ?_)
  · refine lv_iload_n hx hb dX_stepBehind_15 rfl (lv_at hl 0 rfl) ?_
    exact gx_pret hx hb hr hS (by rw [if_neg (by omega)]) dX_stepBehind_16 hlk
  · refine lv_iload_n hx hb dX_stepBehind_9 rfl (lv_at hl 0 rfl) ?_
    refine lv_iload_n hx hb dX_stepBehind_10 rfl (lv_at hl 3 rfl) ?_
    refine gx_isub (a := (a + b)) (b := n) hx hb dX_stepBehind_11 (by omega) ?_
    refine lv_goto (tgt := 16) hx hb dX_stepBehind_12 (by decide) ?_
    exact gx_pret hx hb hr hS (by rw [if_pos (by omega)]) dX_stepBehind_16 hlk

set_option maxHeartbeats 4000000 in
set_option maxRecDepth 100000 in
theorem k_X_isAligned (l : Launch) {a z : Int32} : Met l yX_isAligned (Cond.code yX_isAligned prog_1_method_29_code 2 (some .boolean) :: mx_T) { frames := 1, cells := 0, slots := 0, locals := 21 } (va_Pc [.int a, .int z] (fun _ => True)) (va_Qi (fun rr (_ : Unit) => rr = (if (0 ≤ z ∧ z < nI 4) ∧ (0 ≤ a ∧ a < nI 1024) ∧ a &&& ((nI 1 <<< (z &&& 31)) - nI 1) = 0 then nI 1 else nI 0)) (fun _ _ => True) (fun _ => False)) 0 0 (fun _ => False) := by
  refine gx_met (by decide) rfl (Nat.le_of_ble_eq_true rfl) ?_
  intro pg ev s mid as below mth c ls hx hb hr hml ht hown hlk hnm hargs hB hl
  have hS : va_S (fun _ => False) s.heap s.heap [] := va_S.rf
  have hl : lv_has ls 2 [(0, .int a), (1, .int z)] := hl
  refine lv_iload_n hx hb dX_isAligned_0 rfl (lv_at hl 1 rfl) ?_
  refine lv_iconst (v := nI 4) hx hb dX_isAligned_1 (by decide) ?_
  refine va_calli (va_runS (As := [.int z, .int (nI 4)]) (rest := []) ⟨hx, hb, hml, hown, ht⟩ (k_X_isBelow l) (cwS 2 ht (mx_gS mw_160 mw_161 mw_1 mw_162) rfl rfl rfl (by decide +kernel) ⟨Nat.le_of_ble_eq_true rfl, Nat.le_of_ble_eq_true rfl⟩) (gx_preP [.int z, .int (nI 4)]) rfl rfl hl.1 rfl (lv_room (Nat.le_of_ble_eq_true rfl)) dX_isAligned_2 ⟨Nat.le_of_ble_eq_true rfl, Nat.le_of_ble_eq_true rfl⟩) hS (fun _ _ h => h) (fun _ h => h) (fun r1 _ _ H locs _ _ hp _ _ _ hS => ?_)
  subst hp
  refine gx_ifb_eq (q := 0 ≤ z ∧ z < nI 4) (tgt := 32) hx hb dX_isAligned_5 (by decide) (fun h5 => ?_) (fun h5 => ?_)
  · refine lv_iconst (v := nI 0) hx hb dX_isAligned_32 (by decide) ?_
    exact gx_pzret hx hb hr rfl hS (if_neg (fun q => h5 q.1)).symm dX_isAligned_33 hlk
  · refine lv_iload_n hx hb dX_isAligned_8 rfl (lv_at hl 0 rfl) ?_
    refine lv_sipush (v := nI 1024) hx hb dX_isAligned_9 (by decide) ?_
    refine va_calli (va_runS (As := [.int a, .int (nI 1024)]) (rest := []) ⟨hx, hb, hml, hown, ht⟩ (k_X_isBelow l) (cwS 2 ht (mx_gS mw_160 mw_161 mw_1 mw_162) rfl rfl rfl (by decide +kernel) ⟨Nat.le_of_ble_eq_true rfl, Nat.le_of_ble_eq_true rfl⟩) (gx_preP [.int a, .int (nI 1024)]) rfl rfl hl.1 rfl (lv_room (Nat.le_of_ble_eq_true rfl)) dX_isAligned_12 ⟨Nat.le_of_ble_eq_true rfl, Nat.le_of_ble_eq_true rfl⟩) hS (fun _ _ h => h) (fun _ h => h) (fun r2 _ _ H locs _ _ hp _ _ _ hS => ?_)
    subst hp
    refine gx_ifb_eq (q := 0 ≤ a ∧ a < nI 1024) (tgt := 32) hx hb dX_isAligned_15 (by decide) (fun h15 => ?_) (fun h15 => ?_)
    · refine lv_iconst (v := nI 0) hx hb dX_isAligned_32 (by decide) ?_
      exact gx_pzret hx hb hr rfl hS (if_neg (fun q => h15 q.2.1)).symm dX_isAligned_33 hlk
    · refine lv_iload_n hx hb dX_isAligned_18 rfl (lv_at hl 0 rfl) ?_
      refine lv_iconst (v := nI 1) hx hb dX_isAligned_19 (by decide) ?_
      refine lv_iload_n hx hb dX_isAligned_20 rfl (lv_at hl 1 rfl) ?_
      refine lv_ishl hx hb dX_isAligned_21 ?_
      refine lv_iconst (v := nI 1) hx hb dX_isAligned_22 (by decide) ?_
      refine lv_isub hx hb dX_isAligned_23 ?_
      refine lv_iand hx hb dX_isAligned_24 ?_
      refine lv_if_ne (tgt := 32) hx hb dX_isAligned_25 (by decide) (fun h25 => ?_) (fun h25 => ?_)
      · refine lv_iconst (v := nI 0) hx hb dX_isAligned_32 (by decide) ?_
        exact gx_pzret hx hb hr rfl hS (if_neg (fun q => h25 q.2.2)).symm dX_isAligned_33 hlk
      · refine lv_iconst (v := nI 1) hx hb dX_isAligned_28 (by decide) ?_
        refine lv_goto (tgt := 33) hx hb dX_isAligned_29 (by decide) ?_
        exact gx_pzret hx hb hr rfl hS (if_pos ⟨h5, h15, h25⟩).symm dX_isAligned_33 hlk
