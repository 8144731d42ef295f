/-! the crossbar's calls with arguments that it refuses -/

set_option maxHeartbeats 4000000 in
set_option maxRecDepth 100000 in
theorem x_X_request (l : Launch) (hlt : l.stackTraces = false) {D : va_G} {K : Nat → ClassId} {ad : Nat → Nat} {σ : Nat → Nat → Int32} {τ : Nat → Nat → Int64} {m q so z a mk : Int32} {d : Int64} (hbad : ¬ ((0 ≤ m ∧ m < nI 3) ∧ (0 ≤ q ∧ q < nI 8) ∧ (0 ≤ so ∧ so < nI 3) ∧ ((0 ≤ z ∧ z < nI 4) ∧ (0 ≤ a ∧ a < nI 1024) ∧ a &&& ((nI 1 <<< (z &&& 31)) - nI 1) = 0) ∧ (0 ≤ mk ∧ mk < nI 256))) : vx_Met l yX_request (Cond.code yX_request prog_1_method_2_code 11 (some .int) :: mx_T) { frames := 6, cells := 1, slots := 6, locals := 81 } (va_Pc [.ref (ad 0), .int m, .int q, .int so, .int z, .int a, .long d, .int mk] (tx_P D K ad σ τ)) tx_no (tx_X D K ad "java/lang/IllegalArgumentException" σ τ) 1 6 (gx_A ad 70) := by
  refine tx_met (by decide) rfl (Nat.le_of_ble_eq_true rfl) ?_
  intro pg ev s mid as below mth c ls hx hb hr hml ht hown hlk hno hargs hB hl
  obtain ⟨hV, hZ⟩ := hB
  have hS : va_S (gx_A ad 70) s.heap s.heap [] := va_S.rf
  have hl : lv_has ls 11 [(0, .ref (ad 0)), (1, .int m), (2, .int q), (3, .int so), (4, .int z), (5, .int a), (6, .long d), (8, .int mk)] := hl
  refine lv_iload_n hx hb dX_request_0 rfl (lv_at hl 1 rfl) ?_
  refine lv_iconst (v := nI 3) hx hb dX_request_1 (by decide) ?_
  refine gx_callp (va_runS (As := [.int m, .int (nI 3)]) (rest := []) ⟨hx, hb, hml, hown, ht⟩ (k_X_isBelow l) (cwS 2 ht (mx_gS mw_160 mw_161 mw_1 mw_162) rfl rfl rfl (by decide +kernel) ⟨Nat.le_of_ble_eq_true rfl, Nat.le_of_ble_eq_true rfl⟩) (gx_preP [.int m, .int (nI 3)]) rfl rfl hl.1 rfl (lv_room (Nat.le_of_ble_eq_true rfl)) dX_request_2 ⟨Nat.le_of_ble_eq_true rfl, Nat.le_of_ble_eq_true rfl⟩) hV hS (fun r1 H locs hp hV hS => ?_)
  subst hp
  refine gx_ifb_eq (q := 0 ≤ m ∧ m < nI 3) (tgt := 46) hx hb dX_request_5 (by decide) (fun h5 => ?_) (fun h5 => ?_)
  · exact tx_throwA hx hb hlt hown ht hV hZ hS (hl.1.trans hml.symm) dX_request_46 dX_request_49 dX_request_50 dX_request_53 hno ⟨by decide, by decide, by decide, by decide⟩ hlk
  · refine lv_iload_n hx hb dX_request_8 rfl (lv_at hl 2 rfl) ?_
    refine lv_bipush (v := nI 8) hx hb dX_request_9 (by decide) ?_
    refine gx_callp (va_runS (As := [.int q, .int (nI 8)]) (rest := []) ⟨hx, hb, hml, hown, ht⟩ (k_X_isBelow l) (cwS 2 ht (mx_gS mw_160 mw_161 mw_1 mw_162) rfl rfl rfl (by decide +kernel) ⟨Nat.le_of_ble_eq_true rfl, Nat.le_of_ble_eq_true rfl⟩) (gx_preP [.int q, .int (nI 8)]) rfl rfl hl.1 rfl (lv_room (Nat.le_of_ble_eq_true rfl)) dX_request_11 ⟨Nat.le_of_ble_eq_true rfl, Nat.le_of_ble_eq_true rfl⟩) hV hS (fun r2 H locs hp hV hS => ?_)
    subst hp
    refine gx_ifb_eq (q := 0 ≤ q ∧ q < nI 8) (tgt := 46) hx hb dX_request_14 (by decide) (fun h14 => ?_) (fun h14 => ?_)
    · exact tx_throwA hx hb hlt hown ht hV hZ hS (hl.1.trans hml.symm) dX_request_46 dX_request_49 dX_request_50 dX_request_53 hno ⟨by decide, by decide, by decide, by decide⟩ hlk
    · refine lv_iload_n hx hb dX_request_17 rfl (lv_at hl 3 rfl) ?_
      refine lv_iconst (v := nI 3) hx hb dX_request_18 (by decide) ?_
      refine gx_callp (va_runS (As := [.int so, .int (nI 3)]) (rest := []) ⟨hx, hb, hml, hown, ht⟩ (k_X_isBelow l) (cwS 2 ht (mx_gS mw_160 mw_161 mw_1 mw_162) rfl rfl rfl (by decide +kernel) ⟨Nat.le_of_ble_eq_true rfl, Nat.le_of_ble_eq_true rfl⟩) (gx_preP [.int so, .int (nI 3)]) rfl rfl hl.1 rfl (lv_room (Nat.le_of_ble_eq_true rfl)) dX_request_19 ⟨Nat.le_of_ble_eq_true rfl, Nat.le_of_ble_eq_true rfl⟩) hV hS (fun r3 H locs hp hV hS => ?_)
      subst hp
      refine gx_ifb_eq (q := 0 ≤ so ∧ so < nI 3) (tgt := 46) hx hb dX_request_22 (by decide) (fun h22 => ?_) (fun h22 => ?_)
      · exact tx_throwA hx hb hlt hown ht hV hZ hS (hl.1.trans hml.symm) dX_request_46 dX_request_49 dX_request_50 dX_request_53 hno ⟨by decide, by decide, by decide, by decide⟩ hlk
      · refine lv_iload hx hb dX_request_25 (lv_at hl 5 rfl) ?_
        refine lv_iload hx hb dX_request_27 (lv_at hl 4 rfl) ?_
        refine gx_callp (va_runS (As := [.int a, .int z]) (rest := []) ⟨hx, hb, hml, hown, ht⟩ (k_X_isAligned l) (cwS 2 ht (mx_gS mw_178 mw_179 mw_1 mw_180) rfl rfl rfl (by decide +kernel) ⟨Nat.le_of_ble_eq_true rfl, Nat.le_of_ble_eq_true rfl⟩) (gx_preP [.int a, .int z]) rfl rfl hl.1 rfl (lv_room (Nat.le_of_ble_eq_true rfl)) dX_request_29 ⟨Nat.le_of_ble_eq_true rfl, Nat.le_of_ble_eq_true rfl⟩) hV hS (fun r4 H locs hp hV hS => ?_)
        subst hp
        refine gx_ifb_eq (q := (0 ≤ z ∧ z < nI 4) ∧ (0 ≤ a ∧ a < nI 1024) ∧ a &&& ((nI 1 <<< (z &&& 31)) - nI 1) = 0) (tgt := 46) hx hb dX_request_32 (by decide) (fun h32 => ?_) (fun h32 => ?_)
        · exact tx_throwA hx hb hlt hown ht hV hZ hS (hl.1.trans hml.symm) dX_request_46 dX_request_49 dX_request_50 dX_request_53 hno ⟨by decide, by decide, by decide, by decide⟩ hlk
        · refine lv_iload hx hb dX_request_35 (lv_at hl 7 rfl) ?_
          refine lv_sipush (v := nI 256) hx hb dX_request_37 (by decide) ?_
          refine gx_callp (va_runS (As := [.int mk, .int (nI 256)]) (rest := []) ⟨hx, hb, hml, hown, ht⟩ (k_X_isBelow l) (cwS 2 ht (mx_gS mw_160 mw_161 mw_1 mw_162) rfl rfl rfl (by decide +kernel) ⟨Nat.le_of_ble_eq_true rfl, Nat.le_of_ble_eq_true rfl⟩) (gx_preP [.int mk, .int (nI 256)]) rfl rfl hl.1 rfl (lv_room (Nat.le_of_ble_eq_true rfl)) dX_request_40 ⟨Nat.le_of_ble_eq_true rfl, Nat.le_of_ble_eq_true rfl⟩) hV hS (fun r5 H locs hp hV hS => ?_)
          subst hp
          refine gx_ifb_ne (q := 0 ≤ mk ∧ mk < nI 256) (tgt := 54) hx hb dX_request_43 (by decide) (fun h43 => ?_) (fun h43 => ?_)
          · exact absurd ⟨h5, h14, h22, h32, h43⟩ hbad
          · exact tx_throwA hx hb hlt hown ht hV hZ hS (hl.1.trans hml.symm) dX_request_46 dX_request_49 dX_request_50 dX_request_53 hno ⟨by decide, by decide, by decide, by decide⟩ hlk

set_option maxHeartbeats 4000000 in
set_option maxRecDepth 100000 in
theorem x_X_accept (l : Launch) (hlt : l.stackTraces = false) {D : va_G} {K : Nat → ClassId} {ad : Nat → Nat} {σ : Nat → Nat → Int32} {τ : Nat → Nat → Int64} {m y : Int32} (hbad : ¬ (0 ≤ m ∧ m < nI 3)) : vx_Met l yX_accept (Cond.code yX_accept prog_1_method_3_code 4 (some .boolean) :: mx_T) { frames := 6, cells := 1, slots := 6, locals := 81 } (va_Pc [.ref (ad 0), .int m, .int y] (tx_P D K ad σ τ)) tx_no (tx_X D K ad "java/lang/IllegalArgumentException" σ τ) 1 6 (gx_A ad 70) := by
  refine tx_met (by decide) rfl (Nat.le_of_ble_eq_true rfl) ?_
  intro pg ev s mid as below mth c ls hx hb hr hml ht hown hlk hno hargs hB hl
  obtain ⟨hV, hZ⟩ := hB
  have hS : va_S (gx_A ad 70) s.heap s.heap [] := va_S.rf
  have hl : lv_has ls 4 [(0, .ref (ad 0)), (1, .int m), (2, .int y)] := hl
  refine lv_iload_n hx hb dX_accept_0 rfl (lv_at hl 1 rfl) ?_
  refine lv_iconst (v := nI 3) hx hb dX_accept_1 (by decide) ?_
  refine gx_callp (va_runS (As := [.int m, .int (nI 3)]) (rest := []) ⟨hx, hb, hml, hown, ht⟩ (k_X_isBelow l) (cwS 2 ht (mx_gS mw_160 mw_161 mw_1 mw_162) rfl rfl rfl (by decide +kernel) ⟨Nat.le_of_ble_eq_true rfl, Nat.le_of_ble_eq_true rfl⟩) (gx_preP [.int m, .int (nI 3)]) rfl rfl hl.1 rfl (lv_room (Nat.le_of_ble_eq_true rfl)) dX_accept_2 ⟨Nat.le_of_ble_eq_true rfl, Nat.le_of_ble_eq_true rfl⟩) hV hS (fun r1 H locs hp hV hS => ?_)
  subst hp
  refine gx_ifb_ne (q := 0 ≤ m ∧ m < nI 3) (tgt := 16) hx hb dX_accept_5 (by decide) (fun h5 => ?_) (fun h5 => ?_)
  · exact absurd h5 hbad
  · exact tx_throwA hx hb hlt hown ht hV hZ hS (hl.1.trans hml.symm) dX_accept_8 dX_accept_11 dX_accept_12 dX_accept_15 hno ⟨by decide, by decide, by decide, by decide⟩ hlk

set_option maxHeartbeats 4000000 in
set_option maxRecDepth 100000 in
theorem x_X_tick (l : Launch) (hlt : l.stackTraces = false) {D : va_G} {K : Nat → ClassId} {ad : Nat → Nat} {σ : Nat → Nat → Int32} {τ : Nat → Nat → Int64} {n : Int32} (hbad : ¬ (0 ≤ n ∧ n ≤ nI 10000)) : vx_Met l yX_tick (Cond.code yX_tick prog_1_method_4_code 4 (some .int) :: mx_T) { frames := 6, cells := 1, slots := 6, locals := 81 } (va_Pc [.ref (ad 0), .int n] (tx_P D K ad σ τ)) tx_no (tx_X D K ad "java/lang/IllegalArgumentException" σ τ) 1 6 (gx_A ad 70) := by
  refine tx_met (by decide) rfl (Nat.le_of_ble_eq_true rfl) ?_
  intro pg ev s mid as below mth c ls hx hb hr hml ht hown hlk hno hargs hB hl
  obtain ⟨hV, hZ⟩ := hB
  have hS : va_S (gx_A ad 70) s.heap s.heap [] := va_S.rf
  have hl : lv_has ls 4 [(0, .ref (ad 0)), (1, .int n)] := hl
  refine lv_iload_n hx hb dX_tick_0 rfl (lv_at hl 1 rfl) ?_
  refine lv_if_lt (tgt := 11) hx hb dX_tick_1 (by decide) (fun h1 => ?_) (fun h1 => ?_)
  · exact tx_throwA hx hb hlt hown ht hV hZ hS (hl.1.trans hml.symm) dX_tick_11 dX_tick_14 dX_tick_15 dX_tick_18 hno ⟨by decide, by decide, by decide, by decide⟩ hlk
  · refine lv_iload_n hx hb dX_tick_4 rfl (lv_at hl 1 rfl) ?_
    refine lv_sipush (v := nI 10000) hx hb dX_tick_5 (by decide) ?_
    refine lv_icmp_le (tgt := 19) hx hb dX_tick_8 (by decide) (fun h8 => ?_) (fun h8 => ?_)
    · exact absurd ⟨Int32.not_lt.mp h1, h8⟩ hbad
    · exact tx_throwA hx hb hlt hown ht hV hZ hS (hl.1.trans hml.symm) dX_tick_11 dX_tick_14 dX_tick_15 dX_tick_18 hno ⟨by decide, by decide, by decide, by decide⟩ hlk

set_option maxHeartbeats 4000000 in
set_option maxRecDepth 100000 in
theorem x_X_take (l : Launch) (hlt : l.stackTraces = false) {D : va_G} {K : Nat → ClassId} {ad : Nat → Nat} {σ : Nat → Nat → Int32} {τ : Nat → Nat → Int64} {m : Int32} (hbad : ¬ (0 ≤ m ∧ m < nI 3)) : vx_Met l yX_take (Cond.code yX_take prog_1_method_5_code 7 (some .int) :: mx_T) { frames := 6, cells := 1, slots := 6, locals := 81 } (va_Pc [.ref (ad 0), .int m] (tx_P D K ad σ τ)) tx_no (tx_X D K ad "java/lang/IllegalArgumentException" σ τ) 1 6 (gx_A ad 70) := by
  refine tx_met (by decide) rfl (Nat.le_of_ble_eq_true rfl) ?_
  intro pg ev s mid as below mth c ls hx hb hr hml ht hown hlk hno hargs hB hl
  obtain ⟨hV, hZ⟩ := hB
  have hS : va_S (gx_A ad 70) s.heap s.heap [] := va_S.rf
  have hl : lv_has ls 7 [(0, .ref (ad 0)), (1, .int m)] := hl
  refine lv_iload_n hx hb dX_take_0 rfl (lv_at hl 1 rfl) ?_
  refine lv_iconst (v := nI 3) hx hb dX_take_1 (by decide) ?_
  refine gx_callp (va_runS (As := [.int m, .int (nI 3)]) (rest := []) ⟨hx, hb, hml, hown, ht⟩ (k_X_isBelow l) (cwS 2 ht (mx_gS mw_160 mw_161 mw_1 mw_162) rfl rfl rfl (by decide +kernel) ⟨Nat.le_of_ble_eq_true rfl, Nat.le_of_ble_eq_true rfl⟩) (gx_preP [.int m, .int (nI 3)]) rfl rfl hl.1 rfl (lv_room (Nat.le_of_ble_eq_true rfl)) dX_take_2 ⟨Nat.le_of_ble_eq_true rfl, Nat.le_of_ble_eq_true rfl⟩) hV hS (fun r1 H locs hp hV hS => ?_)
  subst hp
  refine gx_ifb_ne (q := 0 ≤ m ∧ m < nI 3) (tgt := 16) hx hb dX_take_5 (by decide) (fun h5 => ?_) (fun h5 => ?_)
  · exact absurd h5 hbad
  · exact tx_throwA hx hb hlt hown ht hV hZ hS (hl.1.trans hml.symm) dX_take_8 dX_take_11 dX_take_12 dX_take_15 hno ⟨by decide, by decide, by decide, by decide⟩ hlk

set_option maxHeartbeats 4000000 in
set_option maxRecDepth 100000 in
theorem x_X_port (l : Launch) (hlt : l.stackTraces = false) {D : va_G} {K : Nat → ClassId} {ad : Nat → Nat} {σ : Nat → Nat → Int32} {τ : Nat → Nat → Int64} {p w : Int32} (hbad : ¬ (0 ≤ p ∧ p < nI 4)) : vx_Met l yX_port (Cond.code yX_port prog_1_method_7_code 4 (some .int) :: mx_T) { frames := 6, cells := 1, slots := 6, locals := 81 } (va_Pc [.ref (ad 0), .int p, .int w] (tx_P D K ad σ τ)) tx_no (tx_X D K ad "java/lang/IndexOutOfBoundsException" σ τ) 1 6 (gx_A ad 70) := by
  refine tx_met (by decide) rfl (Nat.le_of_ble_eq_true rfl) ?_
  intro pg ev s mid as below mth c ls hx hb hr hml ht hown hlk hno hargs hB hl
  obtain ⟨hV, hZ⟩ := hB
  have hS : va_S (gx_A ad 70) s.heap s.heap [] := va_S.rf
  have hl : lv_has ls 4 [(0, .ref (ad 0)), (1, .int p), (2, .int w)] := hl
  refine lv_iload_n hx hb dX_port_0 rfl (lv_at hl 1 rfl) ?_
  refine lv_iconst (v := nI 4) hx hb dX_port_1 (by decide) ?_
  refine gx_callp (va_runS (As := [.int p, .int (nI 4)]) (rest := []) ⟨hx, hb, hml, hown, ht⟩ (k_X_isBelow l) (cwS 2 ht (mx_gS mw_160 mw_161 mw_1 mw_162) rfl rfl rfl (by decide +kernel) ⟨Nat.le_of_ble_eq_true rfl, Nat.le_of_ble_eq_true rfl⟩) (gx_preP [.int p, .int (nI 4)]) rfl rfl hl.1 rfl (lv_room (Nat.le_of_ble_eq_true rfl)) dX_port_2 ⟨Nat.le_of_ble_eq_true rfl, Nat.le_of_ble_eq_true rfl⟩) hV hS (fun r1 H locs hp hV hS => ?_)
  subst hp
  refine gx_ifb_ne (q := 0 ≤ p ∧ p < nI 4) (tgt := 16) hx hb dX_port_5 (by decide) (fun h5 => ?_) (fun h5 => ?_)
  · exact absurd h5 hbad
  · exact tx_throwO hx hb hlt hown ht hV hZ hS (hl.1.trans hml.symm) dX_port_8 dX_port_11 dX_port_12 dX_port_15 hno ⟨by decide, by decide, by decide, by decide⟩ hlk

set_option maxHeartbeats 4000000 in
set_option maxRecDepth 100000 in
theorem x_X_owner (l : Launch) (hlt : l.stackTraces = false) {D : va_G} {K : Nat → ClassId} {ad : Nat → Nat} {σ : Nat → Nat → Int32} {τ : Nat → Nat → Int64} {p i : Int32} (hbad : ¬ ((0 ≤ p ∧ p < nI 4) ∧ (0 ≤ i ∧ i < nI 4))) : vx_Met l yX_owner (Cond.code yX_owner prog_1_method_8_code 3 (some .int) :: mx_T) { frames := 6, cells := 1, slots := 6, locals := 81 } (va_Pc [.ref (ad 0), .int p, .int i] (tx_P D K ad σ τ)) tx_no (tx_X D K ad "java/lang/IndexOutOfBoundsException" σ τ) 1 6 (gx_A ad 70) := by
  refine tx_met (by decide) rfl (Nat.le_of_ble_eq_true rfl) ?_
  intro pg ev s mid as below mth c ls hx hb hr hml ht hown hlk hno hargs hB hl
  obtain ⟨hV, hZ⟩ := hB
  have hS : va_S (gx_A ad 70) s.heap s.heap [] := va_S.rf
  have hl : lv_has ls 3 [(0, .ref (ad 0)), (1, .int p), (2, .int i)] := hl
  refine lv_iload_n hx hb dX_owner_0 rfl (lv_at hl 1 rfl) ?_
  refine lv_iconst (v := nI 4) hx hb dX_owner_1 (by decide) ?_
  refine gx_callp (va_runS (As := [.int p, .int (nI 4)]) (rest := []) ⟨hx, hb, hml, hown, ht⟩ (k_X_isBelow l) (cwS 2 ht (mx_gS mw_160 mw_161 mw_1 mw_162) rfl rfl rfl (by decide +kernel) ⟨Nat.le_of_ble_eq_true rfl, Nat.le_of_ble_eq_true rfl⟩) (gx_preP [.int p, .int (nI 4)]) rfl rfl hl.1 rfl (lv_room (Nat.le_of_ble_eq_true rfl)) dX_owner_2 ⟨Nat.le_of_ble_eq_true rfl, Nat.le_of_ble_eq_true rfl⟩) hV hS (fun r1 H locs hp hV hS => ?_)
  subst hp
  refine gx_ifb_eq (q := 0 ≤ p ∧ p < nI 4) (tgt := 16) hx hb dX_owner_5 (by decide) (fun h5 => ?_) (fun h5 => ?_)
  · exact tx_throwO hx hb hlt hown ht hV hZ hS (hl.1.trans hml.symm) dX_owner_16 dX_owner_19 dX_owner_20 dX_owner_23 hno ⟨by decide, by decide, by decide, by decide⟩ hlk
  · refine lv_iload_n hx hb dX_owner_8 rfl (lv_at hl 2 rfl) ?_
    refine lv_iconst (v := nI 4) hx hb dX_owner_9 (by decide) ?_
    refine gx_callp (va_runS (As := [.int i, .int (nI 4)]) (rest := []) ⟨hx, hb, hml, hown, ht⟩ (k_X_isBelow l) (cwS 2 ht (mx_gS mw_160 mw_161 mw_1 mw_162) rfl rfl rfl (by decide +kernel) ⟨Nat.le_of_ble_eq_true rfl, Nat.le_of_ble_eq_true rfl⟩) (gx_preP [.int i, .int (nI 4)]) rfl rfl hl.1 rfl (lv_room (Nat.le_of_ble_eq_true rfl)) dX_owner_10 ⟨Nat.le_of_ble_eq_true rfl, Nat.le_of_ble_eq_true rfl⟩) hV hS (fun r2 H locs hp hV hS => ?_)
    subst hp
    refine gx_ifb_ne (q := 0 ≤ i ∧ i < nI 4) (tgt := 24) hx hb dX_owner_13 (by decide) (fun h13 => ?_) (fun h13 => ?_)
    · exact absurd ⟨h5, h13⟩ hbad
    · exact tx_throwO hx hb hlt hown ht hV hZ hS (hl.1.trans hml.symm) dX_owner_16 dX_owner_19 dX_owner_20 dX_owner_23 hno ⟨by decide, by decide, by decide, by decide⟩ hlk

set_option maxHeartbeats 4000000 in
set_option maxRecDepth 100000 in
theorem x_X_master (l : Launch) (hlt : l.stackTraces = false) {D : va_G} {K : Nat → ClassId} {ad : Nat → Nat} {σ : Nat → Nat → Int32} {τ : Nat → Nat → Int64} {m w : Int32} (hbad : ¬ (0 ≤ m ∧ m < nI 3)) : vx_Met l yX_master (Cond.code yX_master prog_1_method_9_code 4 (some .int) :: mx_T) { frames := 6, cells := 1, slots := 6, locals := 81 } (va_Pc [.ref (ad 0), .int m, .int w] (tx_P D K ad σ τ)) tx_no (tx_X D K ad "java/lang/IndexOutOfBoundsException" σ τ) 1 6 (gx_A ad 70) := by
  refine tx_met (by decide) rfl (Nat.le_of_ble_eq_true rfl) ?_
  intro pg ev s mid as below mth c ls hx hb hr hml ht hown hlk hno hargs hB hl
  obtain ⟨hV, hZ⟩ := hB
  have hS : va_S (gx_A ad 70) s.heap s.heap [] := va_S.rf
  have hl : lv_has ls 4 [(0, .ref (ad 0)), (1, .int m), (2, .int w)] := hl
  refine lv_iload_n hx hb dX_master_0 rfl (lv_at hl 1 rfl) ?_
  refine lv_iconst (v := nI 3) hx hb dX_master_1 (by decide) ?_
  refine gx_callp (va_runS (As := [.int m, .int (nI 3)]) (rest := []) ⟨hx, hb, hml, hown, ht⟩ (k_X_isBelow l) (cwS 2 ht (mx_gS mw_160 mw_161 mw_1 mw_162) rfl rfl rfl (by decide +kernel) ⟨Nat.le_of_ble_eq_true rfl, Nat.le_of_ble_eq_true rfl⟩) (gx_preP [.int m, .int (nI 3)]) rfl rfl hl.1 rfl (lv_room (Nat.le_of_ble_eq_true rfl)) dX_master_2 ⟨Nat.le_of_ble_eq_true rfl, Nat.le_of_ble_eq_true rfl⟩) hV hS (fun r1 H locs hp hV hS => ?_)
  subst hp
  refine gx_ifb_ne (q := 0 ≤ m ∧ m < nI 3) (tgt := 16) hx hb dX_master_5 (by decide) (fun h5 => ?_) (fun h5 => ?_)
  · exact absurd h5 hbad
  · exact tx_throwO hx hb hlt hown ht hV hZ hS (hl.1.trans hml.symm) dX_master_8 dX_master_11 dX_master_12 dX_master_15 hno ⟨by decide, by decide, by decide, by decide⟩ hlk

set_option maxHeartbeats 4000000 in
set_option maxRecDepth 100000 in
theorem x_X_memory (l : Launch) (hlt : l.stackTraces = false) {D : va_G} {K : Nat → ClassId} {ad : Nat → Nat} {σ : Nat → Nat → Int32} {τ : Nat → Nat → Int64} {a : Int32} (hbad : ¬ (0 ≤ a ∧ a < nI 640)) : vx_Met l yX_memory (Cond.code yX_memory prog_1_method_10_code 2 (some .int) :: mx_T) { frames := 6, cells := 1, slots := 6, locals := 81 } (va_Pc [.ref (ad 0), .int a] (tx_P D K ad σ τ)) tx_no (tx_X D K ad "java/lang/IndexOutOfBoundsException" σ τ) 1 6 (gx_A ad 70) := by
  refine tx_met (by decide) rfl (Nat.le_of_ble_eq_true rfl) ?_
  intro pg ev s mid as below mth c ls hx hb hr hml ht hown hlk hno hargs hB hl
  obtain ⟨hV, hZ⟩ := hB
  have hS : va_S (gx_A ad 70) s.heap s.heap [] := va_S.rf
  have hl : lv_has ls 2 [(0, .ref (ad 0)), (1, .int a)] := hl
  refine lv_iload_n hx hb dX_memory_0 rfl (lv_at hl 1 rfl) ?_
  refine lv_sipush (v := nI 640) hx hb dX_memory_1 (by decide) ?_
  refine gx_callp (va_runS (As := [.int a, .int (nI 640)]) (rest := []) ⟨hx, hb, hml, hown, ht⟩ (k_X_isBelow l) (cwS 2 ht (mx_gS mw_160 mw_161 mw_1 mw_162) rfl rfl rfl (by decide +kernel) ⟨Nat.le_of_ble_eq_true rfl, Nat.le_of_ble_eq_true rfl⟩) (gx_preP [.int a, .int (nI 640)]) rfl rfl hl.1 rfl (lv_room (Nat.le_of_ble_eq_true rfl)) dX_memory_4 ⟨Nat.le_of_ble_eq_true rfl, Nat.le_of_ble_eq_true rfl⟩) hV hS (fun r1 H locs hp hV hS => ?_)
  subst hp
  refine gx_ifb_ne (q := 0 ≤ a ∧ a < nI 640) (tgt := 18) hx hb dX_memory_7 (by decide) (fun h7 => ?_) (fun h7 => ?_)
  · exact absurd h7 hbad
  · exact tx_throwO hx hb hlt hown ht hV hZ hS (hl.1.trans hml.symm) dX_memory_10 dX_memory_13 dX_memory_14 dX_memory_17 hno ⟨by decide, by decide, by decide, by decide⟩ hlk

set_option maxHeartbeats 4000000 in
set_option maxRecDepth 100000 in
theorem x_X_portW (l : Launch) (hlt : l.stackTraces = false) {D : va_G} {K : Nat → ClassId} {ad : Nat → Nat} {σ : Nat → Nat → Int32} {τ : Nat → Nat → Int64} {p : Nat} {w : Int32} (hp0 : p < 4) (hbad : ¬ (0 ≤ w ∧ w < nI 5)) : vx_Met l yX_port (Cond.code yX_port prog_1_method_7_code 4 (some .int) :: mx_T) { frames := 6, cells := 1, slots := 6, locals := 81 } (va_Pc [.ref (ad 0), .int (nI p), .int w] (tx_P D K ad σ τ)) tx_no (tx_X D K ad "java/lang/IllegalArgumentException" σ τ) 1 6 (gx_A ad 70) := by
  refine tx_met (by decide) rfl (Nat.le_of_ble_eq_true rfl) ?_
  intro pg ev s mid as below mth c ls hx hb hr hml ht hown hlk hno hargs hB hl
  obtain ⟨hV, hZ⟩ := hB
  have hS : va_S (gx_A ad 70) s.heap s.heap [] := va_S.rf
  have hl : lv_has ls 4 [(0, .ref (ad 0)), (1, .int (nI p)), (2, .int w)] := hl
  refine lv_iload_n hx hb dX_port_0 rfl (lv_at hl 1 rfl) ?_
  refine lv_iconst (v := nI 4) hx hb dX_port_1 (by decide) ?_
  refine gx_callp (va_runS (As := [.int (nI p), .int (nI 4)]) (rest := []) ⟨hx, hb, hml, hown, ht⟩ (k_X_isBelow l) (cwS 2 ht (mx_gS mw_160 mw_161 mw_1 mw_162) rfl rfl rfl (by decide +kernel) ⟨Nat.le_of_ble_eq_true rfl, Nat.le_of_ble_eq_true rfl⟩) (gx_preP [.int (nI p), .int (nI 4)]) rfl rfl hl.1 rfl (lv_room (Nat.le_of_ble_eq_true rfl)) dX_port_2 ⟨Nat.le_of_ble_eq_true rfl, Nat.le_of_ble_eq_true rfl⟩) hV hS (fun r1 H locs hp hV hS => ?_)
  subst hp
  refine gx_ifb_ne (q := 0 ≤ nI p ∧ nI p < nI 4) (tgt := 16) hx hb dX_port_5 (by decide) (fun h5 => ?_) (fun h5 => ?_)
  · refine lv_aload_n hx hb dX_port_16 rfl (lv_at hl 0 rfl) ?_
    refine gx_get (C := mR_X) (T := mT_X) (N' := 7) hx hb ht mh_X hown hV (by decide) cx_E_X rfl 1 (by decide) (ht _ mw_130) (fun _ h => h) rfl dX_port_17 ?_
    refine lv_iload_n hx hb dX_port_20 rfl (lv_at hl 1 rfl) ?_
    refine gx_aald hx hb hV (by decide) 5 cx_E_Ps rfl p hp0 (by decide) rfl rfl dX_port_21 ?_
    refine lv_astore_n (lv' := [(3, .ref (ad (18 + 6 * p))), (0, .ref (ad 0)), (1, .int (nI p)), (2, .int w)]) hx hb dX_port_22 rfl hl (by decide) rfl (fun ls hl => ?_)
    refine lv_iload_n hx hb dX_port_23 rfl (lv_at hl 3 rfl) ?_
    refine lv_tableOut (tgt := 103) hx hb dX_port_24 (Classical.byContradiction fun q => hbad ⟨Int32.le_iff_toInt_le.mpr (show (0 : Int32).toInt ≤ w.toInt from (by rw [show (0 : Int32).toInt = 0 from rfl]; omega)), Int32.lt_iff_toInt_lt.mpr (show w.toInt < (nI 5).toInt from (by rw [show (nI 5).toInt = 5 from rfl]; omega))⟩) (by decide) ?_
    exact tx_throwA hx hb hlt hown ht hV hZ hS (hl.1.trans hml.symm) dX_port_103 dX_port_106 dX_port_107 dX_port_110 hno ⟨by decide, by decide, by decide, by decide⟩ hlk
  · exact absurd (cx_bl hp0 (by decide)) h5

set_option maxHeartbeats 4000000 in
set_option maxRecDepth 100000 in
theorem x_X_masterW (l : Launch) (hlt : l.stackTraces = false) {D : va_G} {K : Nat → ClassId} {ad : Nat → Nat} {σ : Nat → Nat → Int32} {τ : Nat → Nat → Int64} {m : Nat} {w : Int32} (hm : m < 3) (hbad : ¬ (0 ≤ w ∧ w < nI 4)) : vx_Met l yX_master (Cond.code yX_master prog_1_method_9_code 4 (some .int) :: mx_T) { frames := 6, cells := 1, slots := 6, locals := 81 } (va_Pc [.ref (ad 0), .int (nI m), .int w] (tx_P D K ad σ τ)) tx_no (tx_X D K ad "java/lang/IllegalArgumentException" σ τ) 1 6 (gx_A ad 70) := by
  refine tx_met (by decide) rfl (Nat.le_of_ble_eq_true rfl) ?_
  intro pg ev s mid as below mth c ls hx hb hr hml ht hown hlk hno hargs hB hl
  obtain ⟨hV, hZ⟩ := hB
  have hS : va_S (gx_A ad 70) s.heap s.heap [] := va_S.rf
  have hl : lv_has ls 4 [(0, .ref (ad 0)), (1, .int (nI m)), (2, .int w)] := hl
  refine lv_iload_n hx hb dX_master_0 rfl (lv_at hl 1 rfl) ?_
  refine lv_iconst (v := nI 3) hx hb dX_master_1 (by decide) ?_
  refine gx_callp (va_runS (As := [.int (nI m), .int (nI 3)]) (rest := []) ⟨hx, hb, hml, hown, ht⟩ (k_X_isBelow l) (cwS 2 ht (mx_gS mw_160 mw_161 mw_1 mw_162) rfl rfl rfl (by decide +kernel) ⟨Nat.le_of_ble_eq_true rfl, Nat.le_of_ble_eq_true rfl⟩) (gx_preP [.int (nI m), .int (nI 3)]) rfl rfl hl.1 rfl (lv_room (Nat.le_of_ble_eq_true rfl)) dX_master_2 ⟨Nat.le_of_ble_eq_true rfl, Nat.le_of_ble_eq_true rfl⟩) hV hS (fun r1 H locs hp hV hS => ?_)
  subst hp
  refine gx_ifb_ne (q := 0 ≤ nI m ∧ nI m < nI 3) (tgt := 16) hx hb dX_master_5 (by decide) (fun h5 => ?_) (fun h5 => ?_)
  · refine lv_aload_n hx hb dX_master_16 rfl (lv_at hl 0 rfl) ?_
    refine gx_get (C := mR_X) (T := mT_X) (N' := 7) hx hb ht mh_X hown hV (by decide) cx_E_X rfl 0 (by decide) (ht _ mw_129) (fun _ h => h) rfl dX_master_17 ?_
    refine lv_iload_n hx hb dX_master_20 rfl (lv_at hl 1 rfl) ?_
    refine gx_aald hx hb hV (by decide) 4 cx_E_Ms rfl m hm (by decide) rfl rfl dX_master_21 ?_
    refine lv_astore_n (lv' := [(3, .ref (ad (2 + 5 * m))), (0, .ref (ad 0)), (1, .int (nI m)), (2, .int w)]) hx hb dX_master_22 rfl hl (by decide) rfl (fun ls hl => ?_)
    refine lv_iload_n hx hb dX_master_23 rfl (lv_at hl 3 rfl) ?_
    refine lv_tableOut (tgt := 90) hx hb dX_master_24 (Classical.byContradiction fun q => hbad ⟨Int32.le_iff_toInt_le.mpr (show (0 : Int32).toInt ≤ w.toInt from (by rw [show (0 : Int32).toInt = 0 from rfl]; omega)), Int32.lt_iff_toInt_lt.mpr (show w.toInt < (nI 4).toInt from (by rw [show (nI 4).toInt = 4 from rfl]; omega))⟩) (by decide) ?_
    exact tx_throwA hx hb hlt hown ht hV hZ hS (hl.1.trans hml.symm) dX_master_90 dX_master_93 dX_master_94 dX_master_97 hno ⟨by decide, by decide, by decide, by decide⟩ hlk
  · exact absurd (cx_bl hm (by decide)) h5
