/-! the reference: small ones, isAt, many, first, go, holder, freeId -/

set_option maxHeartbeats 4000000 in
set_option maxRecDepth 100000 in
theorem k_R_in (l : Launch) {a b : Int32} : Met l yR_in (Cond.code yR_in prog_7_method_3_code 2 (some .boolean) :: mx_T) { frames := 0, cells := 0, slots := 0, locals := 0 } (va_Pc [.int a, .int b] (fun _ => True)) (va_Qi (fun rr (_ : Unit) => rr = (if 0 ≤ a ∧ a < b then nI 1 else nI 0)) (fun _ _ => True) (fun _ => False)) 0 0 (fun _ => False) := by
  refine gx_met (by decide) rfl (Nat.le_of_ble_eq_true rfl) ?_
  intro pg ev s mid as below mth c ls hx hb hr hml ht hown hlk hnm hargs hB hl
  have hS : va_S (fun _ => False) s.heap s.heap [] := va_S.rf
  have hl : lv_has ls 2 [(0, .int a), (1, .int b)] := hl
  refine lv_iload_n hx hb dR_in_0 rfl (lv_at hl 0 rfl) ?_
  refine lv_if_lt (tgt := 13) hx hb dR_in_1 (by decide) (fun h1 => ?_) (fun h1 => ?_)
  · refine lv_iconst (v := nI 0) hx hb dR_in_13 (by decide) ?_
    exact gx_pzret hx hb hr rfl hS (if_neg (fun q => Int32.not_le.mpr h1 q.1)).symm dR_in_14 hlk
  · refine lv_iload_n hx hb dR_in_4 rfl (lv_at hl 0 rfl) ?_
    refine lv_iload_n hx hb dR_in_5 rfl (lv_at hl 1 rfl) ?_
    refine lv_icmp_ge (tgt := 13) hx hb dR_in_6 (by decide) (fun h6 => ?_) (fun h6 => ?_)
    · refine lv_iconst (v := nI 0) hx hb dR_in_13 (by decide) ?_
      exact gx_pzret hx hb hr rfl hS (if_neg (fun q => Int32.not_le.mpr q.2 h6)).symm dR_in_14 hlk
    · refine lv_iconst (v := nI 1) hx hb dR_in_9 (by decide) ?_
      refine lv_goto (tgt := 14) hx hb dR_in_10 (by decide) ?_
      exact gx_pzret hx hb hr rfl hS (if_pos ⟨Int32.not_lt.mp h1, Int32.not_le.mp h6⟩).symm dR_in_14 hlk

set_option maxHeartbeats 4000000 in
set_option maxRecDepth 100000 in
theorem k_R_portOf (l : Launch) {a : Nat} (ha : a < 1024) : Met l yR_portOf (Cond.code yR_portOf prog_7_method_4_code 1 (some .int) :: mx_T) { frames := 0, cells := 0, slots := 0, locals := 0 } (va_Pc [.int (nI a)] (fun _ => True)) (va_Qi (fun rr (_ : Unit) => rr = nI (mq_port a)) (fun _ _ => True) (fun _ => False)) 0 0 (fun _ => False) := by
  refine gx_met (by decide) rfl (Nat.le_of_ble_eq_true rfl) ?_
  intro pg ev s mid as below mth c ls hx hb hr hml ht hown hlk hnm hargs hB hl
  have hS : va_S (fun _ => False) s.heap s.heap [] := va_S.rf
  have hl : lv_has ls 1 [(0, .int (nI a))] := hl
  refine lv_iload_n hx hb dR_portOf_0 rfl (lv_at hl 0 rfl) ?_
  refine lv_sipush (v := nI 256) hx hb dR_portOf_1 (by decide) ?_
  refine gx_icmp_ge (a := a) (b := 256) (tgt := 11) hx hb dR_portOf_4 (by decide) (by omega) (by omega) (fun h4 => ?_) (fun h4 => ?_)
  · refine lv_iload_n hx hb dR_portOf_11 rfl (lv_at hl 0 rfl) ?_
    refine lv_sipush (v := nI 512) hx hb dR_portOf_12 (by decide) ?_
    refine gx_icmp_ge (a := a) (b := 512) (tgt := 22) hx hb dR_portOf_15 (by decide) (by omega) (by omega) (fun h15 => ?_) (fun h15 => ?_)
    · refine lv_iload_n hx hb dR_portOf_22 rfl (lv_at hl 0 rfl) ?_
      refine lv_sipush (v := nI 640) hx hb dR_portOf_23 (by decide) ?_
      refine gx_icmp_ge (a := a) (b := 640) (tgt := 33) hx hb dR_portOf_26 (by decide) (by omega) (by omega) (fun h26 => ?_) (fun h26 => ?_)
      · refine lv_iconst (v := nI 3) hx hb dR_portOf_33 (by decide) ?_
        exact gx_pret hx hb hr hS (by unfold mq_port; rw [if_neg (by omega), if_neg (by omega), if_neg (by omega)]) dR_portOf_34 hlk
      · refine lv_iconst (v := nI 2) hx hb dR_portOf_29 (by decide) ?_
        refine lv_goto (tgt := 34) hx hb dR_portOf_30 (by decide) ?_
        exact gx_pret hx hb hr hS (by unfold mq_port; rw [if_neg (by omega), if_neg (by omega), if_pos (by omega)]) dR_portOf_34 hlk
    · refine lv_iconst (v := nI 1) hx hb dR_portOf_18 (by decide) ?_
      refine lv_goto (tgt := 34) hx hb dR_portOf_19 (by decide) ?_
      exact gx_pret hx hb hr hS (by unfold mq_port; rw [if_neg (by omega), if_pos (by omega)]) dR_portOf_34 hlk
  · refine lv_iconst (v := nI 0) hx hb dR_portOf_7 (by decide) ?_
    refine lv_goto (tgt := 34) hx hb dR_portOf_8 (by decide) ?_
    exact gx_pret hx hb hr hS (by unfold mq_port; rw [if_pos (by omega)]) dR_portOf_34 hlk

set_option maxHeartbeats 4000000 in
set_option maxRecDepth 100000 in
theorem k_R_widthOf (l : Launch) {p : Nat} (hp0 : p < 4) : Met l yR_widthOf (Cond.code yR_widthOf prog_7_method_5_code 1 (some .int) :: mx_T) { frames := 0, cells := 0, slots := 0, locals := 0 } (va_Pc [.int (nI p)] (fun _ => True)) (va_Qi (fun rr (_ : Unit) => rr = nI (mq_width p)) (fun _ _ => True) (fun _ => False)) 0 0 (fun _ => False) := by
  refine gx_met (by decide) rfl (Nat.le_of_ble_eq_true rfl) ?_
  intro pg ev s mid as below mth c ls hx hb hr hml ht hown hlk hnm hargs hB hl
  have hS : va_S (fun _ => False) s.heap s.heap [] := va_S.rf
  have hl : lv_has ls 1 [(0, .int (nI p))] := hl
  refine lv_iload_n hx hb dR_widthOf_0 rfl (lv_at hl 0 rfl) ?_
  refine gx_if_ne (a := p) (tgt := 8) hx hb dR_widthOf_1 (by decide) (by omega) (fun h1 => ?_) (fun h1 => ?_)
  · refine lv_iload_n hx hb dR_widthOf_8 rfl (lv_at hl 0 rfl) ?_
    refine lv_iconst (v := nI 1) hx hb dR_widthOf_9 (by decide) ?_
    refine gx_icmp_ne (a := p) (b := 1) (tgt := 17) hx hb dR_widthOf_10 (by decide) (by omega) (by omega) (fun h10 => ?_) (fun h10 => ?_)
    · refine lv_bipush (v := nI 8) hx hb dR_widthOf_17 (by decide) ?_
      exact gx_pret hx hb hr hS (by unfold mq_width; rw [if_neg (by omega), if_neg (by omega)]) dR_widthOf_19 hlk
    · refine lv_iconst (v := nI 1) hx hb dR_widthOf_13 (by decide) ?_
      refine lv_goto (tgt := 19) hx hb dR_widthOf_14 (by decide) ?_
      exact gx_pret hx hb hr hS (by unfold mq_width; rw [if_neg (by omega), if_pos (by omega)]) dR_widthOf_19 hlk
  · refine lv_iconst (v := nI 4) hx hb dR_widthOf_4 (by decide) ?_
    refine lv_goto (tgt := 19) hx hb dR_widthOf_5 (by decide) ?_
    exact gx_pret hx hb hr hS (by unfold mq_width; rw [if_pos (by omega)]) dR_widthOf_19 hlk

set_option maxHeartbeats 4000000 in
set_option maxRecDepth 100000 in
theorem k_R_delayOf (l : Launch) {p : Nat} (hp0 : p < 4) : Met l yR_delayOf (Cond.code yR_delayOf prog_7_method_6_code 1 (some .int) :: mx_T) { frames := 0, cells := 0, slots := 0, locals := 0 } (va_Pc [.int (nI p)] (fun _ => True)) (va_Qi (fun rr (_ : Unit) => rr = nI (mq_delay p)) (fun _ _ => True) (fun _ => False)) 0 0 (fun _ => False) := by
  refine gx_met (by decide) rfl (Nat.le_of_ble_eq_true rfl) ?_
  intro pg ev s mid as below mth c ls hx hb hr hml ht hown hlk hnm hargs hB hl
  have hS : va_S (fun _ => False) s.heap s.heap [] := va_S.rf
  have hl : lv_has ls 1 [(0, .int (nI p))] := hl
  refine lv_iload_n hx hb dR_delayOf_0 rfl (lv_at hl 0 rfl) ?_
  refine gx_if_ne (a := p) (tgt := 8) hx hb dR_delayOf_1 (by decide) (by omega) (fun h1 => ?_) (fun h1 => ?_)
  · refine lv_iload_n hx hb dR_delayOf_8 rfl (lv_at hl 0 rfl) ?_
    refine lv_iconst (v := nI 2) hx hb dR_delayOf_9 (by decide) ?_
    refine gx_icmp_ne (a := p) (b := 2) (tgt := 17) hx hb dR_delayOf_10 (by decide) (by omega) (by omega) (fun h10 => ?_) (fun h10 => ?_)
    · refine lv_iconst (v := nI 1) hx hb dR_delayOf_17 (by decide) ?_
      exact gx_pret hx hb hr hS (by unfold mq_delay; rw [if_neg (by omega), if_neg (by omega)]) dR_delayOf_18 hlk
    · refine lv_iconst (v := nI 3) hx hb dR_delayOf_13 (by decide) ?_
      refine lv_goto (tgt := 18) hx hb dR_delayOf_14 (by decide) ?_
      exact gx_pret hx hb hr hS (by unfold mq_delay; rw [if_neg (by omega), if_pos (by omega)]) dR_delayOf_18 hlk
  · refine lv_iconst (v := nI 2) hx hb dR_delayOf_4 (by decide) ?_
    refine lv_goto (tgt := 18) hx hb dR_delayOf_5 (by decide) ?_
    exact gx_pret hx hb hr hS (by unfold mq_delay; rw [if_pos (by omega)]) dR_delayOf_18 hlk

set_option maxHeartbeats 4000000 in
set_option maxRecDepth 100000 in
theorem k_R_thrown (l : Launch) {D : va_G} {K : Nat → ClassId} {ad : Nat → Nat} {ρ : Nat → Nat → Nat} {μ : Nat → Int64} {lt : Int64}  : Met l yR_thrown (Cond.code yR_thrown prog_7_method_2_code 1 (some .int) :: mx_T) { frames := 0, cells := 0, slots := 0, locals := 0 } (va_Pc [.ref (ad 0)] (rx_P D K ad (mq_n ρ) (rx_t μ lt))) (rx_Qi D K ad (fun rr u => rr = nI (ρ 0 0) ∧ u = (mq_n ρ, rx_t μ lt))) 0 0 (gx_A ad 17) := by
  refine gx_met (by decide) rfl (Nat.le_of_ble_eq_true rfl) ?_
  intro pg ev s mid as below mth c ls hx hb hr hml ht hown hlk hnm hargs hB hl
  obtain ⟨hV, hZ⟩ := hB
  have hS : va_S (gx_A ad 17) s.heap s.heap [] := va_S.rf
  have hl : lv_has ls 1 [(0, .ref (ad 0))] := hl
  refine lv_aload_n hx hb dR_thrown_0 rfl (lv_at hl 0 rfl) ?_
  refine gx_get (C := mR_R) (T := mT_R) (N' := 20) (v := .int (nI (ρ 0 0))) hx hb ht mh_R hown hV (by decide) rx_E_0 rfl 0 (by decide) (ht _ mw_472) (fun _ h => h) rfl dR_thrown_1 ?_
  exact gx_iret hx hb hr hV hS ⟨rfl, rfl⟩ dR_thrown_4 hlk

theorem mq_port_lt (a : Nat) : mq_port a < 4 := by
  unfold mq_port
  split <;> (try split) <;> (try split) <;> omega

set_option maxHeartbeats 4000000 in
set_option maxRecDepth 100000 in
theorem k_R_isAtL (l : Launch) {D : va_G} {K : Nat → ClassId} {ad : Nat → Nat} {ρ : Nat → Nat → Nat} {μ : Nat → Int64} {lt : Int64} {x w g : Nat} (hx2 : x < 24) (hw : 1 ≤ w ∧ w ≤ 5) (hg : g < 3) (hV0 : ρ 1 x ≤ 5 ∧ (ρ 1 x ≠ 0 → ρ 2 x < 2 ^ 31 ∧ ρ 3 x < 3 ∧ (∃ z, z < 4 ∧ ρ 4 x = 2 ^ z) ∧ ρ 5 x < 1024 ∧ ρ 5 x % ρ 4 x = 0 ∧ ρ 7 x < 256 ∧ (2 ≤ ρ 1 x → ρ 1 x ≤ 4 → ρ 8 x < 4))) : Met l yR_isAt (Cond.code yR_isAt prog_7_method_7_code 4 (some .boolean) :: mx_T) { frames := 1, cells := 0, slots := 0, locals := 20 } (va_Pc [.ref (ad 0), .int (nI x), .int (nI w), .int (nI g)] (rx_P D K ad (mq_n ρ) (rx_t μ lt))) (rx_Qi D K ad (fun rr u => rr = (if mq_is ρ w g x = true then nI 1 else nI 0) ∧ u = (mq_n ρ, rx_t μ lt))) 0 0 (gx_A ad 17) := by
  refine gx_met (by decide) rfl (Nat.le_of_ble_eq_true rfl) ?_
  intro pg ev s mid as below mth c ls hx hb hr hml ht hown hlk hnm hargs hB hl
  obtain ⟨hV, hZ⟩ := hB
  have hS : va_S (gx_A ad 17) s.heap s.heap [] := va_S.rf
  have hl : lv_has ls 4 [(0, .ref (ad 0)), (1, .int (nI x)), (2, .int (nI w)), (3, .int (nI g))] := hl
  refine lv_aload_n hx hb dR_isAt_0 rfl (lv_at hl 0 rfl) ?_
  refine gx_get (C := mR_R) (T := mT_R) (N' := 20) hx hb ht mh_R hown hV (by decide) rx_E_0 rfl 1 (by decide) (ht _ mw_473) (fun _ h => h) rfl dR_isAt_1 ?_
  refine lv_iload_n hx hb dR_isAt_4 rfl (lv_at hl 1 rfl) ?_
  refine gx_ialdv (v := nI (ρ 1 x)) hx hb hV (by decide) 0 rx_E_1 rfl x hx2 (by decide) rfl rfl dR_isAt_5 ?_
  refine lv_iload_n hx hb dR_isAt_6 rfl (lv_at hl 2 rfl) ?_
  refine gx_icmp_eq (a := (ρ 1 x)) (b := w) (tgt := 12) hx hb dR_isAt_7 (by decide) (by omega) (by omega) (fun h7 => ?_) (fun h7 => ?_)
  · refine lv_iload_n hx hb dR_isAt_12 rfl (lv_at hl 3 rfl) ?_
    refine lv_if_lt (tgt := 32) hx hb dR_isAt_13 (by decide) (fun h13 => ?_) (fun h13 => ?_)
    · exact absurd h13 (nI_pos (by omega))
    · refine lv_iload_n hx hb dR_isAt_16 rfl (lv_at hl 1 rfl) ?_
      refine lv_bipush (v := nI 8) hx hb dR_isAt_17 (by decide) ?_
      refine gx_idiv (a := x) (b := 8) hx hb dR_isAt_19 (by omega) (by omega) (by omega) ?_
      refine lv_iload_n hx hb dR_isAt_20 rfl (lv_at hl 3 rfl) ?_
      refine gx_icmp_ne (a := (x / 8)) (b := g) (tgt := 28) hx hb dR_isAt_21 (by decide) (by omega) (by omega) (fun h21 => ?_) (fun h21 => ?_)
      · refine lv_iconst (v := nI 0) hx hb dR_isAt_28 (by decide) ?_
        refine lv_goto (tgt := 52) hx hb dR_isAt_29 (by decide) ?_
        exact gx_zret hx hb hr rfl hV hS ⟨(if_neg (fun q => h21 (by have := (mq_is_iff.mp q).2; unfold mq_in at this; rw [if_pos hg] at this; exact this))).symm, rfl⟩ dR_isAt_52 hlk
      · refine lv_iconst (v := nI 1) hx hb dR_isAt_24 (by decide) ?_
        refine lv_goto (tgt := 52) hx hb dR_isAt_25 (by decide) ?_
        exact gx_zret hx hb hr rfl hV hS ⟨(if_pos (mq_is_iff.mpr ⟨h7, by unfold mq_in; rw [if_pos hg]; exact h21⟩)).symm, rfl⟩ dR_isAt_52 hlk
  · refine lv_iconst (v := nI 0) hx hb dR_isAt_10 (by decide) ?_
    exact gx_zret hx hb hr rfl hV hS ⟨(if_neg (fun q => h7 (mq_is_iff.mp q).1)).symm, rfl⟩ dR_isAt_11 hlk

set_option maxHeartbeats 4000000 in
set_option maxRecDepth 100000 in
theorem k_R_isAtH (l : Launch) {D : va_G} {K : Nat → ClassId} {ad : Nat → Nat} {ρ : Nat → Nat → Nat} {μ : Nat → Int64} {lt : Int64} {x w p : Nat} (hx2 : x < 24) (hw : 1 ≤ w ∧ w ≤ 5) (hp0 : p < 4) (hV0 : ρ 1 x ≤ 5 ∧ (ρ 1 x ≠ 0 → ρ 2 x < 2 ^ 31 ∧ ρ 3 x < 3 ∧ (∃ z, z < 4 ∧ ρ 4 x = 2 ^ z) ∧ ρ 5 x < 1024 ∧ ρ 5 x % ρ 4 x = 0 ∧ ρ 7 x < 256 ∧ (2 ≤ ρ 1 x → ρ 1 x ≤ 4 → ρ 8 x < 4))) : Met l yR_isAt (Cond.code yR_isAt prog_7_method_7_code 4 (some .boolean) :: mx_T) { frames := 1, cells := 0, slots := 0, locals := 20 } (va_Pc [.ref (ad 0), .int (nI x), .int (nI w), .int (-1 - nI p)] (rx_P D K ad (mq_n ρ) (rx_t μ lt))) (rx_Qi D K ad (fun rr u => rr = (if mq_is ρ w (3 + p) x = true then nI 1 else nI 0) ∧ u = (mq_n ρ, rx_t μ lt))) 0 0 (gx_A ad 17) := by
  refine gx_met (by decide) rfl (Nat.le_of_ble_eq_true rfl) ?_
  intro pg ev s mid as below mth c ls hx hb hr hml ht hown hlk hnm hargs hB hl
  obtain ⟨hV, hZ⟩ := hB
  have hS : va_S (gx_A ad 17) s.heap s.heap [] := va_S.rf
  have hl : lv_has ls 4 [(0, .ref (ad 0)), (1, .int (nI x)), (2, .int (nI w)), (3, .int (-1 - nI p))] := hl
  refine lv_aload_n hx hb dR_isAt_0 rfl (lv_at hl 0 rfl) ?_
  refine gx_get (C := mR_R) (T := mT_R) (N' := 20) hx hb ht mh_R hown hV (by decide) rx_E_0 rfl 1 (by decide) (ht _ mw_473) (fun _ h => h) rfl dR_isAt_1 ?_
  refine lv_iload_n hx hb dR_isAt_4 rfl (lv_at hl 1 rfl) ?_
  refine gx_ialdv (v := nI (ρ 1 x)) hx hb hV (by decide) 0 rx_E_1 rfl x hx2 (by decide) rfl rfl dR_isAt_5 ?_
  refine lv_iload_n hx hb dR_isAt_6 rfl (lv_at hl 2 rfl) ?_
  refine gx_icmp_eq (a := (ρ 1 x)) (b := w) (tgt := 12) hx hb dR_isAt_7 (by decide) (by omega) (by omega) (fun h7 => ?_) (fun h7 => ?_)
  · refine lv_iload_n hx hb dR_isAt_12 rfl (lv_at hl 3 rfl) ?_
    refine lv_if_lt (tgt := 32) hx hb dR_isAt_13 (by decide) (fun h13 => ?_) (fun h13 => ?_)
    · refine lv_aload_n hx hb dR_isAt_32 rfl (lv_at hl 0 rfl) ?_
      refine gx_get (C := mR_R) (T := mT_R) (N' := 20) hx hb ht mh_R hown hV (by decide) rx_E_0 rfl 5 (by decide) (ht _ mw_477) (fun _ h => h) rfl dR_isAt_33 ?_
      refine lv_iload_n hx hb dR_isAt_36 rfl (lv_at hl 1 rfl) ?_
      refine gx_ialdv (v := nI (ρ 5 x)) hx hb hV (by decide) 0 rx_E_5 rfl x hx2 (by decide) rfl rfl dR_isAt_37 ?_
      refine gx_callp (va_runS (As := [.int (nI (ρ 5 x))]) (rest := []) ⟨hx, hb, hml, hown, ht⟩ (k_R_portOf l (hV0.2 (by omega)).2.2.2.1) (cwS 1 ht (mx_gS mw_554 mw_555 mw_6 mw_556) rfl rfl rfl (by decide +kernel) ⟨Nat.le_of_ble_eq_true rfl, Nat.le_of_ble_eq_true rfl⟩) (gx_preP [.int (nI (ρ 5 x))]) rfl rfl hl.1 rfl (lv_room (Nat.le_of_ble_eq_true rfl)) dR_isAt_38 ⟨Nat.le_of_ble_eq_true rfl, Nat.le_of_ble_eq_true rfl⟩) hV hS (fun r1 H locs hp hV hS => ?_)
      subst hp
      refine lv_iconst (v := -1) hx hb dR_isAt_41 (by decide) ?_
      refine lv_iload_n hx hb dR_isAt_42 rfl (lv_at hl 3 rfl) ?_
      refine lv_isub hx hb dR_isAt_43 ?_
      refine gx_top (y := nI p) (mq_nn p hp0) ?_
      refine gx_icmp_ne (a := (mq_port (ρ 5 x))) (b := p) (tgt := 51) hx hb dR_isAt_44 (by decide) (by have := mq_port_lt (ρ 5 x); omega) (by omega) (fun h44 => ?_) (fun h44 => ?_)
      · refine lv_iconst (v := nI 0) hx hb dR_isAt_51 (by decide) ?_
        exact gx_zret hx hb hr rfl hV hS ⟨(if_neg (fun q => h44 (by have := (mq_is_iff.mp q).2; unfold mq_in at this; rw [if_neg (by omega)] at this; omega))).symm, rfl⟩ dR_isAt_52 hlk
      · refine lv_iconst (v := nI 1) hx hb dR_isAt_47 (by decide) ?_
        refine lv_goto (tgt := 52) hx hb dR_isAt_48 (by decide) ?_
        exact gx_zret hx hb hr rfl hV hS ⟨(if_pos (mq_is_iff.mpr ⟨h7, by unfold mq_in; rw [if_neg (by omega)]; omega⟩)).symm, rfl⟩ dR_isAt_52 hlk
    · exact absurd (mq_neg p hp0) h13
  · refine lv_iconst (v := nI 0) hx hb dR_isAt_10 (by decide) ?_
    exact gx_zret hx hb hr rfl hV hS ⟨(if_neg (fun q => h7 (mq_is_iff.mp q).1)).symm, rfl⟩ dR_isAt_11 hlk

theorem k_R_isAt (l : Launch) {D : va_G} {K : Nat → ClassId} {ad : Nat → Nat} {ρ : Nat → Nat → Nat} {μ : Nat → Int64} {lt : Int64} {x w g : Nat} (hx2 : x < 24) (hw : 1 ≤ w ∧ w ≤ 5) (hg : g < 7) (hV0 : mq_V ρ) : Met l yR_isAt (Cond.code yR_isAt prog_7_method_7_code 4 (some .boolean) :: mx_T) { frames := 1, cells := 0, slots := 0, locals := 20 } (va_Pc [.ref (ad 0), .int (nI x), .int (nI w), .int (mq_who g)] (rx_P D K ad (mq_n ρ) (rx_t μ lt))) (rx_Qi D K ad (fun rr u => rr = (if mq_is ρ w g x = true then nI 1 else nI 0) ∧ u = (mq_n ρ, rx_t μ lt))) 0 0 (gx_A ad 17) := by
  by_cases h : g < 3
  · rw [mq_who_lo h]
    exact k_R_isAtL l hx2 hw h (hV0.1 x hx2)
  · obtain ⟨p, rfl⟩ : ∃ p, g = 3 + p := ⟨g - 3, by omega⟩
    rw [mq_who_hi]
    exact k_R_isAtH l hx2 hw (by omega) (hV0.1 x hx2)

set_option maxHeartbeats 4000000 in
set_option maxRecDepth 100000 in
theorem k_R_many (l : Launch) {D : va_G} {K : Nat → ClassId} {ad : Nat → Nat} {ρ : Nat → Nat → Nat} {μ : Nat → Int64} {lt : Int64} {w g : Nat} (hw : 1 ≤ w ∧ w ≤ 5) (hg : g < 7) (hV0 : mq_V ρ) : Met l yR_many (Cond.code yR_many prog_7_method_8_code 5 (some .int) :: mx_T) { frames := 2, cells := 0, slots := 0, locals := 43 } (va_Pc [.ref (ad 0), .int (nI w), .int (mq_who g)] (rx_P D K ad (mq_n ρ) (rx_t μ lt))) (rx_Qi D K ad (fun rr u => rr = nI (mq_many ρ w g) ∧ u = (mq_n ρ, rx_t μ lt))) 0 0 (gx_A ad 17) := by
  refine gx_met (by decide) rfl (Nat.le_of_ble_eq_true rfl) ?_
  intro pg ev s mid as below mth c ls hx hb hr hml ht hown hlk hnm hargs hB hl
  obtain ⟨hV, hZ⟩ := hB
  have hS : va_S (gx_A ad 17) s.heap s.heap [] := va_S.rf
  have hl : lv_has ls 5 [(0, .ref (ad 0)), (1, .int (nI w)), (2, .int (mq_who g))] := hl
  refine lv_iconst (v := nI 0) hx hb dR_many_0 (by decide) ?_
  refine lv_istore_n (lv' := [(3, .int (nI 0)), (0, .ref (ad 0)), (1, .int (nI w)), (2, .int (mq_who g))]) hx hb dR_many_1 rfl hl (by decide) rfl (fun ls hl => ?_)
  refine lv_iconst (v := nI 0) hx hb dR_many_2 (by decide) ?_
  refine lv_istore (lv' := [(4, .int (nI 0)), (3, .int (nI 0)), (0, .ref (ad 0)), (1, .int (nI w)), (2, .int (mq_who g))]) hx hb dR_many_3 hl (by decide) rfl (fun ls hl => ?_)
  have loop : ∀ (k : Nat) (i : Nat) (H : Heap) (locs : List Loc) (ls : Array Slot), i + k = 24 → gx_V D mx_cl (mx_tys K) (rx_E ad K) ad 17 (mq_n ρ) (rx_t μ lt) s H → va_S (gx_A ad 17) s.heap H locs → lv_has ls 5 [(4, .int (nI i)), (3, .int (nI (mq_cnt (mq_is ρ w g) i))), (0, .ref (ad 0)), (1, .int (nI w)), (2, .int (mq_who g))] → W pg l ev (headSpec (Cond.code yR_many prog_7_method_8_code 5 (some .int) :: mx_T) { frames := 2, cells := 0, slots := 0, locals := 43 }).room s mid as below mth c H locs 0 0 (MQ below (rx_Qi D K ad (fun rr u => rr = nI (mq_many ρ w g) ∧ u = (mq_n ρ, rx_t μ lt))) as s 0 0 (gx_A ad 17)) (F0 mid 5 ls []) := by
    intro k
    induction k with
    | zero =>
      intro i H locs ls hk hV hS hl
      refine lv_iload hx hb dR_many_5 (lv_at hl 0 rfl) ?_
      refine lv_bipush (v := nI 24) hx hb dR_many_7 (by decide) ?_
      refine gx_icmp_ge (a := i) (b := 24) (tgt := 37) hx hb dR_many_9 (by decide) (by omega) (by omega) (fun h9 => ?_) (fun h9 => ?_)
      · refine lv_iload_n hx hb dR_many_37 rfl (lv_at hl 1 rfl) ?_
        exact gx_iret hx hb hr hV hS ⟨by rw [show i = 24 by omega]; rfl, rfl⟩ dR_many_38 hlk
      · exact absurd h9 (by omega)
    | succ k ih =>
      intro i H locs ls hk hV hS hl
      refine lv_iload hx hb dR_many_5 (lv_at hl 0 rfl) ?_
      refine lv_bipush (v := nI 24) hx hb dR_many_7 (by decide) ?_
      refine gx_icmp_ge (a := i) (b := 24) (tgt := 37) hx hb dR_many_9 (by decide) (by omega) (by omega) (fun h9 => ?_) (fun h9 => ?_)
      · exact absurd h9 (by omega)
      · refine lv_iload_n hx hb dR_many_12 rfl (lv_at hl 1 rfl) ?_
        refine lv_aload_n hx hb dR_many_13 rfl (lv_at hl 2 rfl) ?_
        refine lv_iload hx hb dR_many_14 (lv_at hl 0 rfl) ?_
        refine lv_iload_n hx hb dR_many_16 rfl (lv_at hl 3 rfl) ?_
        refine lv_iload_n hx hb dR_many_17 rfl (lv_at hl 4 rfl) ?_
        refine gx_calli (va_runV (As := [.int (nI i), .int (nI w), .int (mq_who g)]) (rest := [.int (nI (mq_cnt (mq_is ρ w g) i))]) ⟨hx, hb, hml, hown, ht⟩ (k_R_isAt l (x := i) (by omega) hw hg hV0) (cwV 3 ht (mx_gV (C := "MessageCrossbarModel") mw_550 mw_552 ms_17 mw_6 mw_553) rfl rfl rfl (by decide +kernel) ⟨Nat.le_of_ble_eq_true rfl, Nat.le_of_ble_eq_true rfl⟩) (gx_preV rx_ok hV hZ hS (q := (mR_R, mT_R, 20)) (by decide) rx_E_0 rfl [.int (nI i), .int (nI w), .int (mq_who g)]) rfl rfl hl.1 rfl (lv_room (Nat.le_of_ble_eq_true rfl)) dR_many_18 ⟨Nat.le_of_ble_eq_true rfl, Nat.le_of_ble_eq_true rfl⟩) hV hS (fun r1 σ' τ' H locs hp hV hS => ?_)
        obtain ⟨rfl, hu⟩ := hp
        cases hu
        refine gx_ifb_eq (q := mq_is ρ w g i = true) (tgt := 28) hx hb dR_many_21 (by decide) (fun h21 => ?_) (fun h21 => ?_)
        · refine lv_iconst (v := nI 0) hx hb dR_many_28 (by decide) ?_
          refine gx_iadd (a := (mq_cnt (mq_is ρ w g) i)) (b := 0) hx hb dR_many_29 ?_
          refine lv_istore_n (lv' := [(3, .int (nI ((mq_cnt (mq_is ρ w g) i) + 0))), (4, .int (nI i)), (0, .ref (ad 0)), (1, .int (nI w)), (2, .int (mq_who g))]) hx hb dR_many_30 rfl hl (by decide) rfl (fun ls hl => ?_)
          refine lv_iinc (k := 1) (v := (nI (i + 1))) (lv' := [(4, .int (nI (i + 1))), (3, .int (nI ((mq_cnt (mq_is ρ w g) i) + 0))), (0, .ref (ad 0)), (1, .int (nI w)), (2, .int (mq_who g))]) hx hb dR_many_31 hl rfl (nI_succ i).symm (by decide) rfl (fun ls hl => ?_)
          refine lv_goto (tgt := 5) hx hb dR_many_34 (by decide) ?_
          exact ih (i + 1) H locs ls (by omega) hV hS (by rw [mq_cnt_f (by simpa using h21)]; exact (lv_sub hl [0, 1, 2, 3, 4] rfl))
        · refine lv_iconst (v := nI 1) hx hb dR_many_24 (by decide) ?_
          refine lv_goto (tgt := 29) hx hb dR_many_25 (by decide) ?_
          refine gx_iadd (a := (mq_cnt (mq_is ρ w g) i)) (b := 1) hx hb dR_many_29 ?_
          refine lv_istore_n (lv' := [(3, .int (nI ((mq_cnt (mq_is ρ w g) i) + 1))), (4, .int (nI i)), (0, .ref (ad 0)), (1, .int (nI w)), (2, .int (mq_who g))]) hx hb dR_many_30 rfl hl (by decide) rfl (fun ls hl => ?_)
          refine lv_iinc (k := 1) (v := (nI (i + 1))) (lv' := [(4, .int (nI (i + 1))), (3, .int (nI ((mq_cnt (mq_is ρ w g) i) + 1))), (0, .ref (ad 0)), (1, .int (nI w)), (2, .int (mq_who g))]) hx hb dR_many_31 hl rfl (nI_succ i).symm (by decide) rfl (fun ls hl => ?_)
          refine lv_goto (tgt := 5) hx hb dR_many_34 (by decide) ?_
          exact ih (i + 1) H locs ls (by omega) hV hS (by rw [mq_cnt_t h21]; exact (lv_sub hl [0, 1, 2, 3, 4] rfl))
  exact loop 24 0 _ _ ls (by omega) hV hS hl

theorem mq_fst_no {p : Nat → Bool} {s : Nat → Nat} {i : Nat} (h : p i = false) : mq_fst p s (i + 1) = mq_fst p s i := by
  simp [mq_fst, h]
theorem mq_fst_new {p : Nat → Bool} {s : Nat → Nat} {i : Nat} (h : p i = true) (hq : mq_fst p s i = none) : mq_fst p s (i + 1) = some i := by
  simp [mq_fst, h, hq]
theorem mq_fst_less {p : Nat → Bool} {s : Nat → Nat} {i y : Nat} (h : p i = true) (hq : mq_fst p s i = some y) (hl : s i < s y) : mq_fst p s (i + 1) = some i := by
  simp [mq_fst, h, hq, hl]
theorem mq_fst_old {p : Nat → Bool} {s : Nat → Nat} {i y : Nat} (hq : mq_fst p s i = some y) (hl : ¬ s i < s y) : mq_fst p s (i + 1) = mq_fst p s i := by
  simp only [mq_fst, hq]
  rw [if_neg]
  simp [hl]

set_option maxHeartbeats 4000000 in
set_option maxRecDepth 100000 in
theorem k_R_first (l : Launch) {D : va_G} {K : Nat → ClassId} {ad : Nat → Nat} {ρ : Nat → Nat → Nat} {μ : Nat → Int64} {lt : Int64} {w g : Nat} (hw : 1 ≤ w ∧ w ≤ 5) (hg : g < 7) (hV0 : mq_V ρ) : Met l yR_first (Cond.code yR_first prog_7_method_9_code 5 (some .int) :: mx_T) { frames := 2, cells := 0, slots := 0, locals := 43 } (va_Pc [.ref (ad 0), .int (nI w), .int (mq_who g)] (rx_P D K ad (mq_n ρ) (rx_t μ lt))) (rx_Qi D K ad (fun rr u => rr = mq_oI (mq_first ρ w g) ∧ u = (mq_n ρ, rx_t μ lt))) 0 0 (gx_A ad 17) := by
  refine gx_met (by decide) rfl (Nat.le_of_ble_eq_true rfl) ?_
  intro pg ev s mid as below mth c ls hx hb hr hml ht hown hlk hnm hargs hB hl
  obtain ⟨hV, hZ⟩ := hB
  have hS : va_S (gx_A ad 17) s.heap s.heap [] := va_S.rf
  have hl : lv_has ls 5 [(0, .ref (ad 0)), (1, .int (nI w)), (2, .int (mq_who g))] := hl
  refine lv_iconst (v := -1) hx hb dR_first_0 (by decide) ?_
  refine lv_istore_n (lv' := [(3, .int (-1)), (0, .ref (ad 0)), (1, .int (nI w)), (2, .int (mq_who g))]) hx hb dR_first_1 rfl hl (by decide) rfl (fun ls hl => ?_)
  refine lv_iconst (v := nI 0) hx hb dR_first_2 (by decide) ?_
  refine lv_istore (lv' := [(4, .int (nI 0)), (3, .int (-1)), (0, .ref (ad 0)), (1, .int (nI w)), (2, .int (mq_who g))]) hx hb dR_first_3 hl (by decide) rfl (fun ls hl => ?_)
  have loop : ∀ (k : Nat) (i : Nat) (H : Heap) (locs : List Loc) (ls : Array Slot), i + k = 24 → gx_V D mx_cl (mx_tys K) (rx_E ad K) ad 17 (mq_n ρ) (rx_t μ lt) s H → va_S (gx_A ad 17) s.heap H locs → lv_has ls 5 [(4, .int (nI i)), (3, .int (mq_oI (mq_fst (mq_is ρ w g) (ρ 2) i))), (0, .ref (ad 0)), (1, .int (nI w)), (2, .int (mq_who g))] → W pg l ev (headSpec (Cond.code yR_first prog_7_method_9_code 5 (some .int) :: mx_T) { frames := 2, cells := 0, slots := 0, locals := 43 }).room s mid as below mth c H locs 0 0 (MQ below (rx_Qi D K ad (fun rr u => rr = mq_oI (mq_first ρ w g) ∧ u = (mq_n ρ, rx_t μ lt))) as s 0 0 (gx_A ad 17)) (F0 mid 5 ls []) := by
    intro k
    induction k with
    | zero =>
      intro i H locs ls hk hV hS hl
      refine lv_iload hx hb dR_first_5 (lv_at hl 0 rfl) ?_
      refine lv_bipush (v := nI 24) hx hb dR_first_7 (by decide) ?_
      refine gx_icmp_ge (a := i) (b := 24) (tgt := 52) hx hb dR_first_9 (by decide) (by omega) (by omega) (fun h9 => ?_) (fun h9 => ?_)
      · refine lv_iload_n hx hb dR_first_52 rfl (lv_at hl 1 rfl) ?_
        exact gx_iret hx hb hr hV hS ⟨by rw [show i = 24 by omega]; rfl, rfl⟩ dR_first_53 hlk
      · exact absurd h9 (by omega)
    | succ k ih =>
      intro i H locs ls hk hV hS hl
      refine lv_iload hx hb dR_first_5 (lv_at hl 0 rfl) ?_
      refine lv_bipush (v := nI 24) hx hb dR_first_7 (by decide) ?_
      refine gx_icmp_ge (a := i) (b := 24) (tgt := 52) hx hb dR_first_9 (by decide) (by omega) (by omega) (fun h9 => ?_) (fun h9 => ?_)
      · exact absurd h9 (by omega)
      · refine lv_aload_n hx hb dR_first_12 rfl (lv_at hl 2 rfl) ?_
        refine lv_iload hx hb dR_first_13 (lv_at hl 0 rfl) ?_
        refine lv_iload_n hx hb dR_first_15 rfl (lv_at hl 3 rfl) ?_
        refine lv_iload_n hx hb dR_first_16 rfl (lv_at hl 4 rfl) ?_
        refine gx_calli (va_runV (As := [.int (nI i), .int (nI w), .int (mq_who g)]) (rest := []) ⟨hx, hb, hml, hown, ht⟩ (k_R_isAt l (x := i) (by omega) hw hg hV0) (cwV 3 ht (mx_gV (C := "MessageCrossbarModel") mw_550 mw_552 ms_17 mw_6 mw_553) rfl rfl rfl (by decide +kernel) ⟨Nat.le_of_ble_eq_true rfl, Nat.le_of_ble_eq_true rfl⟩) (gx_preV rx_ok hV hZ hS (q := (mR_R, mT_R, 20)) (by decide) rx_E_0 rfl [.int (nI i), .int (nI w), .int (mq_who g)]) rfl rfl hl.1 rfl (lv_room (Nat.le_of_ble_eq_true rfl)) dR_first_17 ⟨Nat.le_of_ble_eq_true rfl, Nat.le_of_ble_eq_true rfl⟩) hV hS (fun r1 σ' τ' H locs hp hV hS => ?_)
        obtain ⟨rfl, hu⟩ := hp
        cases hu
        cases hq : mq_fst (mq_is ρ w g) (ρ 2) i with
        | none =>
          have hl : lv_has ls 5 [(4, .int (nI i)), (3, .int (-1)), (0, .ref (ad 0)), (1, .int (nI w)), (2, .int (mq_who g))] := by rw [hq] at hl; exact hl
          refine gx_ifb_eq (q := mq_is ρ w g i = true) (tgt := 46) hx hb dR_first_20 (by decide) (fun h20 => ?_) (fun h20 => ?_)
          · refine lv_iinc (k := 0) (v := (nI (i + 1))) (lv' := [(4, .int (nI (i + 1))), (3, .int (-1)), (0, .ref (ad 0)), (1, .int (nI w)), (2, .int (mq_who g))]) hx hb dR_first_46 hl rfl (nI_succ i).symm (by decide) rfl (fun ls hl => ?_)
            refine lv_goto (tgt := 5) hx hb dR_first_49 (by decide) ?_
            exact ih (i + 1) H locs ls (by omega) hV hS (by rw [mq_fst_no (by simpa using h20), hq]; exact (lv_sub hl [0, 1, 2, 3, 4] rfl))
          · refine lv_iload_n hx hb dR_first_23 rfl (lv_at hl 1 rfl) ?_
            refine lv_if_lt (tgt := 43) hx hb dR_first_24 (by decide) (fun h24 => ?_) (fun h24 => ?_)
            · refine lv_iload hx hb dR_first_43 (lv_at hl 0 rfl) ?_
              refine lv_istore_n (lv' := [(3, .int (nI i)), (4, .int (nI i)), (0, .ref (ad 0)), (1, .int (nI w)), (2, .int (mq_who g))]) hx hb dR_first_45 rfl hl (by decide) rfl (fun ls hl => ?_)
              refine lv_iinc (k := 1) (v := (nI (i + 1))) (lv' := [(4, .int (nI (i + 1))), (3, .int (nI i)), (0, .ref (ad 0)), (1, .int (nI w)), (2, .int (mq_who g))]) hx hb dR_first_46 hl rfl (nI_succ i).symm (by decide) rfl (fun ls hl => ?_)
              refine lv_goto (tgt := 5) hx hb dR_first_49 (by decide) ?_
              exact ih (i + 1) H locs ls (by omega) hV hS (by rw [mq_fst_new h20 hq]; exact (lv_sub hl [0, 1, 2, 3, 4] rfl))
            · exact absurd (show (-1 : Int32) < 0 by decide) h24
        | some y =>
          obtain ⟨hy1, hy2, -⟩ := (mq_fst_sp (p := mq_is ρ w g) (s := ρ 2) i).1 y hq
          have hl : lv_has ls 5 [(4, .int (nI i)), (3, .int (nI y)), (0, .ref (ad 0)), (1, .int (nI w)), (2, .int (mq_who g))] := by rw [hq] at hl; exact hl
          refine gx_ifb_eq (q := mq_is ρ w g i = true) (tgt := 46) hx hb dR_first_20 (by decide) (fun h20 => ?_) (fun h20 => ?_)
          · refine lv_iinc (k := 0) (v := (nI (i + 1))) (lv' := [(4, .int (nI (i + 1))), (3, .int (nI y)), (0, .ref (ad 0)), (1, .int (nI w)), (2, .int (mq_who g))]) hx hb dR_first_46 hl rfl (nI_succ i).symm (by decide) rfl (fun ls hl => ?_)
            refine lv_goto (tgt := 5) hx hb dR_first_49 (by decide) ?_
            exact ih (i + 1) H locs ls (by omega) hV hS (by rw [mq_fst_no (by simpa using h20), hq]; exact (lv_sub hl [0, 1, 2, 3, 4] rfl))
          · refine lv_iload_n hx hb dR_first_23 rfl (lv_at hl 1 rfl) ?_
            refine lv_if_lt (tgt := 43) hx hb dR_first_24 (by decide) (fun h24 => ?_) (fun h24 => ?_)
            · exact absurd h24 (nI_pos (by omega))
            · refine lv_aload_n hx hb dR_first_27 rfl (lv_at hl 2 rfl) ?_
              refine gx_get (C := mR_R) (T := mT_R) (N' := 20) hx hb ht mh_R hown hV (by decide) rx_E_0 rfl 2 (by decide) (ht _ mw_474) (fun _ h => h) rfl dR_first_28 ?_
              refine lv_iload hx hb dR_first_31 (lv_at hl 0 rfl) ?_
              refine gx_ialdv (v := nI (ρ 2 i)) hx hb hV (by decide) 0 rx_E_2 rfl i (by omega) (by decide) rfl rfl dR_first_33 ?_
              refine lv_aload_n hx hb dR_first_34 rfl (lv_at hl 2 rfl) ?_
              refine gx_get (C := mR_R) (T := mT_R) (N' := 20) hx hb ht mh_R hown hV (by decide) rx_E_0 rfl 2 (by decide) (ht _ mw_474) (fun _ h => h) rfl dR_first_35 ?_
              refine lv_iload_n hx hb dR_first_38 rfl (lv_at hl 1 rfl) ?_
              refine gx_ialdv (v := nI (ρ 2 y)) hx hb hV (by decide) 0 rx_E_2 rfl y (by omega) (by decide) rfl rfl dR_first_39 ?_
              refine gx_icmp_ge (a := (ρ 2 i)) (b := (ρ 2 y)) (tgt := 46) hx hb dR_first_40 (by decide) (((hV0.1 i (by omega)).2 (by have := (mq_is_iff.mp h20).1; omega)).1) (((hV0.1 y (by omega)).2 (by have := (mq_is_iff.mp hy2).1; omega)).1) (fun h40 => ?_) (fun h40 => ?_)
              · refine lv_iinc (k := 0) (v := (nI (i + 1))) (lv' := [(4, .int (nI (i + 1))), (3, .int (nI y)), (0, .ref (ad 0)), (1, .int (nI w)), (2, .int (mq_who g))]) hx hb dR_first_46 hl rfl (nI_succ i).symm (by decide) rfl (fun ls hl => ?_)
                refine lv_goto (tgt := 5) hx hb dR_first_49 (by decide) ?_
                exact ih (i + 1) H locs ls (by omega) hV hS (by rw [mq_fst_old hq (by omega), hq]; exact (lv_sub hl [0, 1, 2, 3, 4] rfl))
              · refine lv_iload hx hb dR_first_43 (lv_at hl 0 rfl) ?_
                refine lv_istore_n (lv' := [(3, .int (nI i)), (4, .int (nI i)), (0, .ref (ad 0)), (1, .int (nI w)), (2, .int (mq_who g))]) hx hb dR_first_45 rfl hl (by decide) rfl (fun ls hl => ?_)
                refine lv_iinc (k := 1) (v := (nI (i + 1))) (lv' := [(4, .int (nI (i + 1))), (3, .int (nI i)), (0, .ref (ad 0)), (1, .int (nI w)), (2, .int (mq_who g))]) hx hb dR_first_46 hl rfl (nI_succ i).symm (by decide) rfl (fun ls hl => ?_)
                refine lv_goto (tgt := 5) hx hb dR_first_49 (by decide) ?_
                exact ih (i + 1) H locs ls (by omega) hV hS (by rw [mq_fst_less h20 hq h40]; exact (lv_sub hl [0, 1, 2, 3, 4] rfl))
  exact loop 24 0 _ _ ls (by omega) hV hS hl

set_option maxHeartbeats 4000000 in
set_option maxRecDepth 100000 in
theorem k_R_go (l : Launch) {D : va_G} {K : Nat → ClassId} {ad : Nat → Nat} {ρ : Nat → Nat → Nat} {μ : Nat → Int64} {lt : Int64} {x w : Nat} (hx2 : x < 24) : Met l yR_go (Cond.code yR_go prog_7_method_10_code 3 none :: mx_T) { frames := 0, cells := 0, slots := 0, locals := 0 } (va_Pc [.ref (ad 0), .int (nI x), .int (nI w)] (rx_P D K ad (mq_n ρ) (rx_t μ lt))) (rx_Qv D K ad (fun u => u = (mq_n (mq_go ρ x w), rx_t μ lt))) 0 0 (gx_A ad 17) := by
  refine gx_met (by decide) rfl (Nat.le_of_ble_eq_true rfl) ?_
  intro pg ev s mid as below mth c ls hx hb hr hml ht hown hlk hnm hargs hB hl
  obtain ⟨hV, hZ⟩ := hB
  have hS : va_S (gx_A ad 17) s.heap s.heap [] := va_S.rf
  have hl : lv_has ls 3 [(0, .ref (ad 0)), (1, .int (nI x)), (2, .int (nI w))] := hl
  refine lv_aload_n hx hb dR_go_0 rfl (lv_at hl 0 rfl) ?_
  refine gx_get (C := mR_R) (T := mT_R) (N' := 20) hx hb ht mh_R hown hV (by decide) rx_E_0 rfl 1 (by decide) (ht _ mw_473) (fun _ h => h) rfl dR_go_1 ?_
  refine lv_iload_n hx hb dR_go_4 rfl (lv_at hl 1 rfl) ?_
  refine lv_iload_n hx hb dR_go_5 rfl (lv_at hl 2 rfl) ?_
  refine gx_iast rx_loc hx hb hV hS (by decide) 0 rx_E_1 rfl x hx2 (by decide) rfl dR_go_6 (cx_up (mq_n ρ) 1 x (nI w)) (by rw [rx_E_1, cx_up_upd]) (fun _ h => cx_up_J h) (fun H locs hV hS => ?_)
  rw [rx_up] at hV
  refine lv_aload_n hx hb dR_go_7 rfl (lv_at hl 0 rfl) ?_
  refine gx_get (C := mR_R) (T := mT_R) (N' := 20) hx hb ht mh_R hown hV (by decide) rx_E_0 rfl 2 (by decide) (ht _ mw_474) (fun _ h => h) rfl dR_go_8 ?_
  refine lv_iload_n hx hb dR_go_11 rfl (lv_at hl 1 rfl) ?_
  refine lv_aload_n hx hb dR_go_12 rfl (lv_at hl 0 rfl) ?_
  refine gx_get (C := mR_R) (T := mT_R) (N' := 20) (v := .int (nI ((mq_up ρ 1 x w) 0 1))) hx hb ht mh_R hown hV (by decide) rx_E_0 rfl 9 (by decide) (ht _ mw_481) (fun _ h => h) rfl dR_go_13 ?_
  refine gx_iast rx_loc hx hb hV hS (by decide) 0 rx_E_2 rfl x hx2 (by decide) rfl dR_go_16 (cx_up (mq_n (mq_up ρ 1 x w)) 2 x (nI ((mq_up ρ 1 x w) 0 1))) (by rw [rx_E_2, cx_up_upd]) (fun _ h => cx_up_J h) (fun H locs hV hS => ?_)
  rw [rx_up] at hV
  refine lv_aload_n hx hb dR_go_17 rfl (lv_at hl 0 rfl) ?_
  refine lv_dup hx hb dR_go_18 rfl ?_
  refine gx_get (C := mR_R) (T := mT_R) (N' := 20) (v := .int (nI ((mq_up (mq_up ρ 1 x w) 2 x ((mq_up ρ 1 x w) 0 1)) 0 1))) hx hb ht mh_R hown hV (by decide) rx_E_0 rfl 9 (by decide) (ht _ mw_481) (fun _ h => h) rfl dR_go_19 ?_
  refine lv_iconst (v := nI 1) hx hb dR_go_22 (by decide) ?_
  refine gx_iadd (a := ((mq_up (mq_up ρ 1 x w) 2 x ((mq_up ρ 1 x w) 0 1)) 0 1)) (b := 1) hx hb dR_go_23 ?_
  refine gx_put rx_loc (C := mR_R) (T := mT_R) (N' := 20) (ty := .int) (v := .int (nI (((mq_up (mq_up ρ 1 x w) 2 x ((mq_up ρ 1 x w) 0 1)) 0 1) + 1))) hx hb ht mh_R mt_R mk_R mn_R hown hV hS (by decide) rx_E_0 rfl 9 (by decide) (ht _ mw_481) (fun _ h => h) rfl (by decide +kernel) rfl rfl (Nat.le_of_ble_eq_true rfl) dR_go_24 (cx_up (mq_n (mq_up (mq_up ρ 1 x w) 2 x ((mq_up ρ 1 x w) 0 1))) 0 1 (nI (((mq_up (mq_up ρ 1 x w) 2 x ((mq_up ρ 1 x w) 0 1)) 0 1) + 1))) (rx_t μ lt) (by rw [rx_E_0]; simp [cx_up]) (fun _ h => cx_up_J h) (fun _ _ => rfl) (fun H locs hV hS => ?_)
  rw [rx_up] at hV
  refine lv_aload_n hx hb dR_go_27 rfl (lv_at hl 0 rfl) ?_
  refine lv_iconst (v := nI 1) hx hb dR_go_28 (by decide) ?_
  refine gx_put rx_loc (C := mR_R) (T := mT_R) (N' := 20) (ty := .boolean) (v := .int (nI 1)) hx hb ht mh_R mt_R mk_R mn_R hown hV hS (by decide) rx_E_0 rfl 19 (by decide) (ht _ mw_491) (fun _ h => h) rfl (by decide +kernel) rfl rfl (Nat.le_of_ble_eq_true rfl) dR_go_29 (cx_up (mq_n (mq_up (mq_up (mq_up ρ 1 x w) 2 x ((mq_up ρ 1 x w) 0 1)) 0 1 (((mq_up (mq_up ρ 1 x w) 2 x ((mq_up ρ 1 x w) 0 1)) 0 1) + 1))) 0 2 (nI 1)) (rx_t μ lt) (by rw [rx_E_0]; simp [cx_up]) (fun _ h => cx_up_J h) (fun _ _ => rfl) (fun H locs hV hS => ?_)
  rw [rx_up] at hV
  exact gx_vret hx hb hr hV hS rfl dR_go_32 hlk

set_option maxHeartbeats 4000000 in
set_option maxRecDepth 100000 in
theorem k_R_holder (l : Launch) {D : va_G} {K : Nat → ClassId} {ad : Nat → Nat} {ρ : Nat → Nat → Nat} {μ : Nat → Int64} {lt : Int64} {p i : Nat} (hp0 : p < 4) (hi : i < 4) (hV0 : mq_V ρ) : Met l yR_holder (Cond.code yR_holder prog_7_method_11_code 4 (some .int) :: mx_T) { frames := 1, cells := 0, slots := 0, locals := 20 } (va_Pc [.ref (ad 0), .int (nI p), .int (nI i)] (rx_P D K ad (mq_n ρ) (rx_t μ lt))) (rx_Qi D K ad (fun rr u => rr = mq_oI (mq_holder ρ p i) ∧ u = (mq_n ρ, rx_t μ lt))) 0 0 (gx_A ad 17) := by
  refine gx_met (by decide) rfl (Nat.le_of_ble_eq_true rfl) ?_
  intro pg ev s mid as below mth c ls hx hb hr hml ht hown hlk hnm hargs hB hl
  obtain ⟨hV, hZ⟩ := hB
  have hS : va_S (gx_A ad 17) s.heap s.heap [] := va_S.rf
  have hl : lv_has ls 4 [(0, .ref (ad 0)), (1, .int (nI p)), (2, .int (nI i))] := hl
  refine lv_iconst (v := nI 0) hx hb dR_holder_0 (by decide) ?_
  refine lv_istore_n (lv' := [(3, .int (nI 0)), (0, .ref (ad 0)), (1, .int (nI p)), (2, .int (nI i))]) hx hb dR_holder_1 rfl hl (by decide) rfl (fun ls hl => ?_)
  have loop : ∀ (k : Nat) (x : Nat) (H : Heap) (locs : List Loc) (ls : Array Slot), x + k = 24 → mq_fnd (mq_hold ρ p i) 0 24 = mq_fnd (mq_hold ρ p i) x k → gx_V D mx_cl (mx_tys K) (rx_E ad K) ad 17 (mq_n ρ) (rx_t μ lt) s H → va_S (gx_A ad 17) s.heap H locs → lv_has ls 4 [(3, .int (nI x)), (0, .ref (ad 0)), (1, .int (nI p)), (2, .int (nI i))] → W pg l ev (headSpec (Cond.code yR_holder prog_7_method_11_code 4 (some .int) :: mx_T) { frames := 1, cells := 0, slots := 0, locals := 20 }).room s mid as below mth c H locs 0 0 (MQ below (rx_Qi D K ad (fun rr u => rr = mq_oI (mq_holder ρ p i) ∧ u = (mq_n ρ, rx_t μ lt))) as s 0 0 (gx_A ad 17)) (F0 mid 2 ls []) := by
    intro k
    induction k with
    | zero =>
      intro x H locs ls hk hf hV hS hl
      refine lv_iload_n hx hb dR_holder_2 rfl (lv_at hl 0 rfl) ?_
      refine lv_bipush (v := nI 24) hx hb dR_holder_3 (by decide) ?_
      refine gx_icmp_ge (a := x) (b := 24) (tgt := 59) hx hb dR_holder_5 (by decide) (by omega) (by omega) (fun h5 => ?_) (fun h5 => ?_)
      · refine lv_iconst (v := -1) hx hb dR_holder_59 (by decide) ?_
        exact gx_iret hx hb hr hV hS ⟨by show (-1 : Int32) = mq_oI (mq_fnd _ 0 24); rw [hf]; rfl, rfl⟩ dR_holder_60 hlk
      · exact absurd h5 (by omega)
    | succ k ih =>
      intro x H locs ls hk hf hV hS hl
      refine lv_iload_n hx hb dR_holder_2 rfl (lv_at hl 0 rfl) ?_
      refine lv_bipush (v := nI 24) hx hb dR_holder_3 (by decide) ?_
      refine gx_icmp_ge (a := x) (b := 24) (tgt := 59) hx hb dR_holder_5 (by decide) (by omega) (by omega) (fun h5 => ?_) (fun h5 => ?_)
      · exact absurd h5 (by omega)
      · refine lv_aload_n hx hb dR_holder_8 rfl (lv_at hl 1 rfl) ?_
        refine gx_get (C := mR_R) (T := mT_R) (N' := 20) hx hb ht mh_R hown hV (by decide) rx_E_0 rfl 1 (by decide) (ht _ mw_473) (fun _ h => h) rfl dR_holder_9 ?_
        refine lv_iload_n hx hb dR_holder_12 rfl (lv_at hl 0 rfl) ?_
        refine gx_ialdv (v := nI (ρ 1 x)) hx hb hV (by decide) 0 rx_E_1 rfl x (by omega) (by decide) rfl rfl dR_holder_13 ?_
        refine lv_iconst (v := nI 2) hx hb dR_holder_14 (by decide) ?_
        refine gx_icmp_lt (a := (ρ 1 x)) (b := 2) (tgt := 53) hx hb dR_holder_15 (by decide) (by have := (hV0.1 x (by omega)).1; omega) (by omega) (fun h15 => ?_) (fun h15 => ?_)
        · refine lv_iinc (k := 0) (v := (nI (x + 1))) (lv' := [(3, .int (nI (x + 1))), (0, .ref (ad 0)), (1, .int (nI p)), (2, .int (nI i))]) hx hb dR_holder_53 hl rfl (nI_succ x).symm (by decide) rfl (fun ls hl => ?_)
          refine lv_goto (tgt := 2) hx hb dR_holder_56 (by decide) ?_
          exact ih (x + 1) H locs ls (by omega) (by rw [hf, mq_fnd_f (mq_hold_f.mpr (fun q => absurd q.1 (by omega)))]) hV hS (lv_sub hl [0, 1, 2, 3] rfl)
        · refine lv_aload_n hx hb dR_holder_18 rfl (lv_at hl 1 rfl) ?_
          refine gx_get (C := mR_R) (T := mT_R) (N' := 20) hx hb ht mh_R hown hV (by decide) rx_E_0 rfl 1 (by decide) (ht _ mw_473) (fun _ h => h) rfl dR_holder_19 ?_
          refine lv_iload_n hx hb dR_holder_22 rfl (lv_at hl 0 rfl) ?_
          refine gx_ialdv (v := nI (ρ 1 x)) hx hb hV (by decide) 0 rx_E_1 rfl x (by omega) (by decide) rfl rfl dR_holder_23 ?_
          refine lv_iconst (v := nI 4) hx hb dR_holder_24 (by decide) ?_
          refine gx_icmp_gt (a := (ρ 1 x)) (b := 4) (tgt := 53) hx hb dR_holder_25 (by decide) (by have := (hV0.1 x (by omega)).1; omega) (by omega) (fun h25 => ?_) (fun h25 => ?_)
          · refine lv_iinc (k := 0) (v := (nI (x + 1))) (lv' := [(3, .int (nI (x + 1))), (0, .ref (ad 0)), (1, .int (nI p)), (2, .int (nI i))]) hx hb dR_holder_53 hl rfl (nI_succ x).symm (by decide) rfl (fun ls hl => ?_)
            refine lv_goto (tgt := 2) hx hb dR_holder_56 (by decide) ?_
            exact ih (x + 1) H locs ls (by omega) (by rw [hf, mq_fnd_f (mq_hold_f.mpr (fun q => absurd q.2.1 (by omega)))]) hV hS (lv_sub hl [0, 1, 2, 3] rfl)
          · refine lv_aload_n hx hb dR_holder_28 rfl (lv_at hl 1 rfl) ?_
            refine gx_get (C := mR_R) (T := mT_R) (N' := 20) hx hb ht mh_R hown hV (by decide) rx_E_0 rfl 5 (by decide) (ht _ mw_477) (fun _ h => h) rfl dR_holder_29 ?_
            refine lv_iload_n hx hb dR_holder_32 rfl (lv_at hl 0 rfl) ?_
            refine gx_ialdv (v := nI (ρ 5 x)) hx hb hV (by decide) 0 rx_E_5 rfl x (by omega) (by decide) rfl rfl dR_holder_33 ?_
            refine gx_callp (va_runS (As := [.int (nI (ρ 5 x))]) (rest := []) ⟨hx, hb, hml, hown, ht⟩ (k_R_portOf l ((hV0.1 x (by omega)).2 (by omega)).2.2.2.1) (cwS 1 ht (mx_gS mw_554 mw_555 mw_6 mw_556) rfl rfl rfl (by decide +kernel) ⟨Nat.le_of_ble_eq_true rfl, Nat.le_of_ble_eq_true rfl⟩) (gx_preP [.int (nI (ρ 5 x))]) rfl rfl hl.1 rfl (lv_room (Nat.le_of_ble_eq_true rfl)) dR_holder_34 ⟨Nat.le_of_ble_eq_true rfl, Nat.le_of_ble_eq_true rfl⟩) hV hS (fun r1 H locs hp hV hS => ?_)
            subst hp
            refine lv_iload_n hx hb dR_holder_37 rfl (lv_at hl 2 rfl) ?_
            refine gx_icmp_ne (a := (mq_port (ρ 5 x))) (b := p) (tgt := 53) hx hb dR_holder_38 (by decide) (by have := mq_port_lt (ρ 5 x); omega) (by omega) (fun h38 => ?_) (fun h38 => ?_)
            · refine lv_iinc (k := 0) (v := (nI (x + 1))) (lv' := [(3, .int (nI (x + 1))), (0, .ref (ad 0)), (1, .int (nI p)), (2, .int (nI i))]) hx hb dR_holder_53 hl rfl (nI_succ x).symm (by decide) rfl (fun ls hl => ?_)
              refine lv_goto (tgt := 2) hx hb dR_holder_56 (by decide) ?_
              exact ih (x + 1) H locs ls (by omega) (by rw [hf, mq_fnd_f (mq_hold_f.mpr (fun q => h38 q.2.2.1))]) hV hS (lv_sub hl [0, 1, 2, 3] rfl)
            · refine lv_aload_n hx hb dR_holder_41 rfl (lv_at hl 1 rfl) ?_
              refine gx_get (C := mR_R) (T := mT_R) (N' := 20) hx hb ht mh_R hown hV (by decide) rx_E_0 rfl 8 (by decide) (ht _ mw_480) (fun _ h => h) rfl dR_holder_42 ?_
              refine lv_iload_n hx hb dR_holder_45 rfl (lv_at hl 0 rfl) ?_
              refine gx_ialdv (v := nI (ρ 8 x)) hx hb hV (by decide) 0 rx_E_8 rfl x (by omega) (by decide) rfl rfl dR_holder_46 ?_
              refine lv_iload_n hx hb dR_holder_47 rfl (lv_at hl 3 rfl) ?_
              refine gx_icmp_ne (a := (ρ 8 x)) (b := i) (tgt := 53) hx hb dR_holder_48 (by decide) (by have := ((hV0.1 x (by omega)).2 (by omega)).2.2.2.2.2.2 h15 h25; omega) (by omega) (fun h48 => ?_) (fun h48 => ?_)
              · refine lv_iinc (k := 0) (v := (nI (x + 1))) (lv' := [(3, .int (nI (x + 1))), (0, .ref (ad 0)), (1, .int (nI p)), (2, .int (nI i))]) hx hb dR_holder_53 hl rfl (nI_succ x).symm (by decide) rfl (fun ls hl => ?_)
                refine lv_goto (tgt := 2) hx hb dR_holder_56 (by decide) ?_
                exact ih (x + 1) H locs ls (by omega) (by rw [hf, mq_fnd_f (mq_hold_f.mpr (fun q => h48 q.2.2.2))]) hV hS (lv_sub hl [0, 1, 2, 3] rfl)
              · refine lv_iload_n hx hb dR_holder_51 rfl (lv_at hl 0 rfl) ?_
                exact gx_iret hx hb hr hV hS ⟨by show nI x = mq_oI (mq_fnd _ 0 24); rw [hf, mq_fnd_t (mq_hold_iff.mpr ⟨h15, h25, h38, h48⟩)]; rfl, rfl⟩ dR_holder_52 hlk
  exact loop 24 0 _ _ ls (by omega) rfl hV hS hl

set_option maxHeartbeats 4000000 in
set_option maxRecDepth 100000 in
theorem k_R_freeId (l : Launch) {D : va_G} {K : Nat → ClassId} {ad : Nat → Nat} {ρ : Nat → Nat → Nat} {μ : Nat → Int64} {lt : Int64} {p : Nat} (hp0 : p < 4) (hV0 : mq_V ρ) : Met l yR_freeId (Cond.code yR_freeId prog_7_method_12_code 3 (some .int) :: mx_T) { frames := 2, cells := 0, slots := 0, locals := 43 } (va_Pc [.ref (ad 0), .int (nI p)] (rx_P D K ad (mq_n ρ) (rx_t μ lt))) (rx_Qi D K ad (fun rr u => rr = mq_oI (mq_free ρ p) ∧ u = (mq_n ρ, rx_t μ lt))) 0 0 (gx_A ad 17) := by
  refine gx_met (by decide) rfl (Nat.le_of_ble_eq_true rfl) ?_
  intro pg ev s mid as below mth c ls hx hb hr hml ht hown hlk hnm hargs hB hl
  obtain ⟨hV, hZ⟩ := hB
  have hS : va_S (gx_A ad 17) s.heap s.heap [] := va_S.rf
  have hl : lv_has ls 3 [(0, .ref (ad 0)), (1, .int (nI p))] := hl
  refine lv_iconst (v := nI 0) hx hb dR_freeId_0 (by decide) ?_
  refine lv_istore_n (lv' := [(2, .int (nI 0)), (0, .ref (ad 0)), (1, .int (nI p))]) hx hb dR_freeId_1 rfl hl (by decide) rfl (fun ls hl => ?_)
  have loop : ∀ (k : Nat) (i : Nat) (H : Heap) (locs : List Loc) (ls : Array Slot), i + k = 4 → mq_fnd (fun i => (mq_holder ρ p i).isNone) 0 4 = mq_fnd (fun i => (mq_holder ρ p i).isNone) i k → gx_V D mx_cl (mx_tys K) (rx_E ad K) ad 17 (mq_n ρ) (rx_t μ lt) s H → va_S (gx_A ad 17) s.heap H locs → lv_has ls 3 [(2, .int (nI i)), (0, .ref (ad 0)), (1, .int (nI p))] → W pg l ev (headSpec (Cond.code yR_freeId prog_7_method_12_code 3 (some .int) :: mx_T) { frames := 2, cells := 0, slots := 0, locals := 43 }).room s mid as below mth c H locs 0 0 (MQ below (rx_Qi D K ad (fun rr u => rr = mq_oI (mq_free ρ p) ∧ u = (mq_n ρ, rx_t μ lt))) as s 0 0 (gx_A ad 17)) (F0 mid 2 ls []) := by
    intro k
    induction k with
    | zero =>
      intro i H locs ls hk hf hV hS hl
      refine lv_iload_n hx hb dR_freeId_2 rfl (lv_at hl 0 rfl) ?_
      refine lv_iconst (v := nI 4) hx hb dR_freeId_3 (by decide) ?_
      refine gx_icmp_ge (a := i) (b := 4) (tgt := 24) hx hb dR_freeId_4 (by decide) (by omega) (by omega) (fun h4 => ?_) (fun h4 => ?_)
      · refine lv_iconst (v := -1) hx hb dR_freeId_24 (by decide) ?_
        exact gx_iret hx hb hr hV hS ⟨by show (-1 : Int32) = mq_oI (mq_fnd _ 0 4); rw [hf]; rfl, rfl⟩ dR_freeId_25 hlk
      · exact absurd h4 (by omega)
    | succ k ih =>
      intro i H locs ls hk hf hV hS hl
      refine lv_iload_n hx hb dR_freeId_2 rfl (lv_at hl 0 rfl) ?_
      refine lv_iconst (v := nI 4) hx hb dR_freeId_3 (by decide) ?_
      refine gx_icmp_ge (a := i) (b := 4) (tgt := 24) hx hb dR_freeId_4 (by decide) (by omega) (by omega) (fun h4 => ?_) (fun h4 => ?_)
      · exact absurd h4 (by omega)
      · refine lv_aload_n hx hb dR_freeId_7 rfl (lv_at hl 1 rfl) ?_
        refine lv_iload_n hx hb dR_freeId_8 rfl (lv_at hl 2 rfl) ?_
        refine lv_iload_n hx hb dR_freeId_9 rfl (lv_at hl 0 rfl) ?_
        refine gx_calli (va_runV (As := [.int (nI p), .int (nI i)]) (rest := []) ⟨hx, hb, hml, hown, ht⟩ (k_R_holder l hp0 (i := i) (by omega) hV0) (cwV 2 ht (mx_gV (C := "MessageCrossbarModel") mw_600 mw_602 ms_25 mw_6 mw_603) rfl rfl rfl (by decide +kernel) ⟨Nat.le_of_ble_eq_true rfl, Nat.le_of_ble_eq_true rfl⟩) (gx_preV rx_ok hV hZ hS (q := (mR_R, mT_R, 20)) (by decide) rx_E_0 rfl [.int (nI p), .int (nI i)]) rfl rfl hl.1 rfl (lv_room (Nat.le_of_ble_eq_true rfl)) dR_freeId_10 ⟨Nat.le_of_ble_eq_true rfl, Nat.le_of_ble_eq_true rfl⟩) hV hS (fun r1 σ' τ' H locs hp hV hS => ?_)
        obtain ⟨rfl, hu⟩ := hp
        cases hu
        cases hq : mq_holder ρ p i with
        | none =>
          refine lv_if_ge (tgt := 18) hx hb dR_freeId_13 (by decide) (fun h13 => ?_) (fun h13 => ?_)
          · exact absurd h13 (by decide)
          · refine lv_iload_n hx hb dR_freeId_16 rfl (lv_at hl 0 rfl) ?_
            exact gx_iret hx hb hr hV hS ⟨by show nI i = mq_oI (mq_fnd _ 0 4); rw [hf, mq_fnd_t (by rw [hq]; rfl)]; rfl, rfl⟩ dR_freeId_17 hlk
        | some y =>
          have hy := mq_holder_lt hq
          refine lv_if_ge (tgt := 18) hx hb dR_freeId_13 (by decide) (fun h13 => ?_) (fun h13 => ?_)
          · refine lv_iinc (k := 0) (v := (nI (i + 1))) (lv' := [(2, .int (nI (i + 1))), (0, .ref (ad 0)), (1, .int (nI p))]) hx hb dR_freeId_18 hl rfl (nI_succ i).symm (by decide) rfl (fun ls hl => ?_)
            refine lv_goto (tgt := 2) hx hb dR_freeId_21 (by decide) ?_
            exact ih (i + 1) H locs ls (by omega) (by rw [hf, mq_fnd_f (by rw [hq]; rfl)]) hV hS (lv_sub hl [0, 1, 2] rfl)
          · exact absurd (nI_pos' (by omega)) h13
  exact loop 4 0 _ _ ls (by omega) rfl hV hS hl
