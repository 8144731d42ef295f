/-! the reference's calls that only ask -/

set_option maxHeartbeats 4000000 in
set_option maxRecDepth 100000 in
theorem k_R_port (l : Launch) {D : va_G} {K : Nat → ClassId} {ad : Nat → Nat} {ρ : Nat → Nat → Nat} {μ : Nat → Int64} {lt : Int64} {p w : Nat} (hp0 : p < 4) (hw : w < 5) {cσ : Nat → Nat → Int32} {cτ : Nat → Nat → Int64} {pl : Nat → Nat → List Nat} (hR : rr_R cσ cτ ρ μ lt pl) (hmv : ρ 0 1 + 16 < 2 ^ 31) : Met l yR_port (Cond.code yR_port prog_7_method_22_code 3 (some .int) :: mx_T) { frames := 3, cells := 0, slots := 0, locals := 67 } (va_Pc [.ref (ad 0), .int (nI p), .int (nI w)] (rx_P D K ad (mq_n ρ) (rx_t μ lt))) (rx_Qi D K ad (fun rr u => rr = (match w with | 0 => nI (pl 2 (3 + p)).length | 1 => (if (pl 3 (3 + p)).length = 0 then -1 else nI (ρ 12 p)) | 2 => nI (pl 4 (3 + p)).length | 3 => nI (mq_cnt (fun q => decide (cσ (23 + 6 * p) q ≠ -1)) 4) | _ => nI (ρ 13 p)) ∧ u = (mq_n (mq_up ρ 0 0 0), rx_t μ lt))) 0 0 (gx_A ad 17) := by
  refine gx_met (by decide) rfl (Nat.le_of_ble_eq_true rfl) ?_
  intro pg ev s mid as below mth c ls hx hb hr hml ht hown hlk hnm hargs hB hl
  obtain ⟨hV, hZ⟩ := hB
  have hS : va_S (gx_A ad 17) s.heap s.heap [] := va_S.rf
  have hl : lv_has ls 3 [(0, .ref (ad 0)), (1, .int (nI p)), (2, .int (nI w))] := hl
  have hR1 : rr_R cσ cτ (mq_up ρ 0 0 0) μ lt pl := hR
  have hV0 := hR1.V (show ρ 0 1 < _ by omega)
  have hj1 := (hR1.2.2.1 p hp0).1
  refine lv_aload_n hx hb dR_port_0 rfl (lv_at hl 0 rfl) ?_
  refine lv_iload_n hx hb dR_port_1 rfl (lv_at hl 1 rfl) ?_
  refine lv_iconst (v := nI 4) hx hb dR_port_2 (by decide) ?_
  refine gx_callp (va_runS (As := [.int (nI p), .int (nI 4)]) (rest := [.ref (ad 0)]) ⟨hx, hb, hml, hown, ht⟩ (k_R_in l) (cwS 2 ht (mx_gS mw_543 mw_544 mw_6 mw_545) rfl rfl rfl (by decide +kernel) ⟨Nat.le_of_ble_eq_true rfl, Nat.le_of_ble_eq_true rfl⟩) (gx_preP [.int (nI p), .int (nI 4)]) rfl rfl hl.1 rfl (lv_room (Nat.le_of_ble_eq_true rfl)) dR_port_3 ⟨Nat.le_of_ble_eq_true rfl, Nat.le_of_ble_eq_true rfl⟩) hV hS (fun r1 H locs hp hV hS => ?_)
  subst hp
  refine gx_ifb_ne (q := 0 ≤ nI p ∧ nI p < nI 4) (tgt := 13) hx hb dR_port_6 (by decide) (fun h6 => ?_) (fun h6 => ?_)
  · refine lv_iload_n hx hb dR_port_13 rfl (lv_at hl 2 rfl) ?_
    refine lv_iconst (v := nI 5) hx hb dR_port_14 (by decide) ?_
    refine gx_callp (va_runS (As := [.int (nI w), .int (nI 5)]) (rest := [.ref (ad 0)]) ⟨hx, hb, hml, hown, ht⟩ (k_R_in l) (cwS 2 ht (mx_gS mw_543 mw_544 mw_6 mw_545) rfl rfl rfl (by decide +kernel) ⟨Nat.le_of_ble_eq_true rfl, Nat.le_of_ble_eq_true rfl⟩) (gx_preP [.int (nI w), .int (nI 5)]) rfl rfl hl.1 rfl (lv_room (Nat.le_of_ble_eq_true rfl)) dR_port_15 ⟨Nat.le_of_ble_eq_true rfl, Nat.le_of_ble_eq_true rfl⟩) hV hS (fun r2 H locs hp hV hS => ?_)
    subst hp
    refine gx_ifb_ne (q := 0 ≤ nI w ∧ nI w < nI 5) (tgt := 25) hx hb dR_port_18 (by decide) (fun h18 => ?_) (fun h18 => ?_)
    · refine lv_iconst (v := nI 0) hx hb dR_port_25 (by decide) ?_
      refine gx_put rx_loc (C := mR_R) (T := mT_R) (N' := 20) (ty := .int) (v := .int (nI 0)) hx hb ht mh_R mt_R mk_R mn_R hown hV hS (by decide) rx_E_0 rfl 0 (by decide) (ht _ mw_472) (fun _ h => h) rfl (by decide +kernel) rfl rfl (Nat.le_of_ble_eq_true rfl) dR_port_26 (cx_up (mq_n ρ) 0 0 (nI 0)) (rx_t μ lt) (by rw [rx_E_0]; simp [cx_up]) (fun _ h => cx_up_J h) (fun _ _ => rfl) (fun H locs hV hS => ?_)
      rw [rx_up] at hV
      refine lv_aload_n hx hb dR_port_29 rfl (lv_at hl 0 rfl) ?_
      refine gx_get (C := mR_R) (T := mT_R) (N' := 20) (v := .int (nI ((mq_up ρ 0 0 0) 0 0))) hx hb ht mh_R hown hV (by decide) rx_E_0 rfl 0 (by decide) (ht _ mw_472) (fun _ h => h) rfl dR_port_30 ?_
      refine gx_if_le (a := ((mq_up ρ 0 0 0) 0 0)) (tgt := 38) hx hb dR_port_33 (by decide) (by rw [mq_up_s]; omega) (fun h33 => ?_) (fun h33 => ?_)
      · refine lv_iload_n hx hb dR_port_38 rfl (lv_at hl 2 rfl) ?_
        rcases (show w = 0 ∨ w = 1 ∨ w = 2 ∨ w = 3 ∨ w = 4 by omega) with rfl | rfl | rfl | rfl | rfl
        · refine lv_tableIn (off := 29) (tgt := 68) hx hb dR_port_39 (by decide) (by decide) rfl (by decide) ?_
          refine lv_aload_n hx hb dR_port_68 rfl (lv_at hl 0 rfl) ?_
          refine lv_iconst (v := nI 2) hx hb dR_port_69 (by decide) ?_
          refine lv_iconst (v := -1) hx hb dR_port_70 (by decide) ?_
          refine lv_iload_n hx hb dR_port_71 rfl (lv_at hl 1 rfl) ?_
          refine lv_isub hx hb dR_port_72 ?_
          refine gx_top (y := mq_who (3 + p)) mq_who_hi.symm ?_
          refine gx_calli (va_runV (As := [.int (nI 2), .int (mq_who (3 + p))]) (rest := []) ⟨hx, hb, hml, hown, ht⟩ (k_R_many l (by omega) (by omega) hV0) (cwV 2 ht (mx_gV (C := "MessageCrossbarModel") mw_546 mw_548 ms_16 mw_6 mw_549) rfl rfl rfl (by decide +kernel) ⟨Nat.le_of_ble_eq_true rfl, Nat.le_of_ble_eq_true rfl⟩) (gx_preV rx_ok hV hZ hS (q := (mR_R, mT_R, 20)) (by decide) rx_E_0 rfl [.int (nI 2), .int (mq_who (3 + p))]) rfl rfl hl.1 rfl (lv_room (Nat.le_of_ble_eq_true rfl)) dR_port_73 ⟨Nat.le_of_ble_eq_true rfl, Nat.le_of_ble_eq_true rfl⟩) hV hS (fun r3 σ' τ' H locs hp hV hS => ?_)
          obtain ⟨hp, hu⟩ := hp
          rw [hR1.2.1.many (w := 2) (g := 3 + p) (Or.inr ⟨by simp, by omega, by omega⟩)] at hp
          subst hp
          cases hu
          exact gx_iret hx hb hr hV hS ⟨rfl, rfl⟩ dR_port_76 hlk
        · refine lv_tableIn (off := 38) (tgt := 77) hx hb dR_port_39 (by decide) (by decide) rfl (by decide) ?_
          refine lv_aload_n hx hb dR_port_77 rfl (lv_at hl 0 rfl) ?_
          refine lv_iconst (v := nI 3) hx hb dR_port_78 (by decide) ?_
          refine lv_iconst (v := -1) hx hb dR_port_79 (by decide) ?_
          refine lv_iload_n hx hb dR_port_80 rfl (lv_at hl 1 rfl) ?_
          refine lv_isub hx hb dR_port_81 ?_
          refine gx_top (y := mq_who (3 + p)) mq_who_hi.symm ?_
          refine gx_calli (va_runV (As := [.int (nI 3), .int (mq_who (3 + p))]) (rest := []) ⟨hx, hb, hml, hown, ht⟩ (k_R_many l (by omega) (by omega) hV0) (cwV 2 ht (mx_gV (C := "MessageCrossbarModel") mw_546 mw_548 ms_16 mw_6 mw_549) rfl rfl rfl (by decide +kernel) ⟨Nat.le_of_ble_eq_true rfl, Nat.le_of_ble_eq_true rfl⟩) (gx_preV rx_ok hV hZ hS (q := (mR_R, mT_R, 20)) (by decide) rx_E_0 rfl [.int (nI 3), .int (mq_who (3 + p))]) rfl rfl hl.1 rfl (lv_room (Nat.le_of_ble_eq_true rfl)) dR_port_82 ⟨Nat.le_of_ble_eq_true rfl, Nat.le_of_ble_eq_true rfl⟩) hV hS (fun r4 σ' τ' H locs hp hV hS => ?_)
          obtain ⟨hp, hu⟩ := hp
          rw [hR1.2.1.many (w := 3) (g := 3 + p) (Or.inr ⟨by simp, by omega, by omega⟩)] at hp
          subst hp
          cases hu
          refine gx_if_le (a := (pl 3 (3 + p)).length) (tgt := 97) hx hb dR_port_85 (by decide) (by omega) (fun h85 => ?_) (fun h85 => ?_)
          · refine lv_iconst (v := -1) hx hb dR_port_97 (by decide) ?_
            exact gx_iret hx hb hr hV hS ⟨(if_pos h85).symm, rfl⟩ dR_port_98 hlk
          · refine lv_aload_n hx hb dR_port_88 rfl (lv_at hl 0 rfl) ?_
            refine gx_get (C := mR_R) (T := mT_R) (N' := 20) hx hb ht mh_R hown hV (by decide) rx_E_0 rfl 13 (by decide) (ht _ mw_485) (fun _ h => h) rfl dR_port_89 ?_
            refine lv_iload_n hx hb dR_port_92 rfl (lv_at hl 1 rfl) ?_
            refine gx_ialdv (v := nI (ρ 12 p)) hx hb hV (by decide) 0 rx_E_12 rfl p hp0 (by decide) rfl rfl dR_port_93 ?_
            refine lv_goto (tgt := 98) hx hb dR_port_94 (by decide) ?_
            exact gx_iret hx hb hr hV hS ⟨(if_neg (by omega)).symm, rfl⟩ dR_port_98 hlk
        · refine lv_tableIn (off := 60) (tgt := 99) hx hb dR_port_39 (by decide) (by decide) rfl (by decide) ?_
          refine lv_aload_n hx hb dR_port_99 rfl (lv_at hl 0 rfl) ?_
          refine lv_iconst (v := nI 4) hx hb dR_port_100 (by decide) ?_
          refine lv_iconst (v := -1) hx hb dR_port_101 (by decide) ?_
          refine lv_iload_n hx hb dR_port_102 rfl (lv_at hl 1 rfl) ?_
          refine lv_isub hx hb dR_port_103 ?_
          refine gx_top (y := mq_who (3 + p)) mq_who_hi.symm ?_
          refine gx_calli (va_runV (As := [.int (nI 4), .int (mq_who (3 + p))]) (rest := []) ⟨hx, hb, hml, hown, ht⟩ (k_R_many l (by omega) (by omega) hV0) (cwV 2 ht (mx_gV (C := "MessageCrossbarModel") mw_546 mw_548 ms_16 mw_6 mw_549) rfl rfl rfl (by decide +kernel) ⟨Nat.le_of_ble_eq_true rfl, Nat.le_of_ble_eq_true rfl⟩) (gx_preV rx_ok hV hZ hS (q := (mR_R, mT_R, 20)) (by decide) rx_E_0 rfl [.int (nI 4), .int (mq_who (3 + p))]) rfl rfl hl.1 rfl (lv_room (Nat.le_of_ble_eq_true rfl)) dR_port_104 ⟨Nat.le_of_ble_eq_true rfl, Nat.le_of_ble_eq_true rfl⟩) hV hS (fun r5 σ' τ' H locs hp hV hS => ?_)
          obtain ⟨hp, hu⟩ := hp
          rw [hR1.2.1.many (w := 4) (g := 3 + p) (Or.inr ⟨by simp, by omega, by omega⟩)] at hp
          subst hp
          cases hu
          exact gx_iret hx hb hr hV hS ⟨rfl, rfl⟩ dR_port_107 hlk
        · refine lv_tableIn (off := 69) (tgt := 108) hx hb dR_port_39 (by decide) (by decide) rfl (by decide) ?_
          refine lv_aload_n hx hb dR_port_108 rfl (lv_at hl 0 rfl) ?_
          refine lv_iconst (v := nI 2) hx hb dR_port_109 (by decide) ?_
          refine lv_iconst (v := -1) hx hb dR_port_110 (by decide) ?_
          refine lv_iload_n hx hb dR_port_111 rfl (lv_at hl 1 rfl) ?_
          refine lv_isub hx hb dR_port_112 ?_
          refine gx_top (y := mq_who (3 + p)) mq_who_hi.symm ?_
          refine gx_calli (va_runV (As := [.int (nI 2), .int (mq_who (3 + p))]) (rest := []) ⟨hx, hb, hml, hown, ht⟩ (k_R_many l (by omega) (by omega) hV0) (cwV 2 ht (mx_gV (C := "MessageCrossbarModel") mw_546 mw_548 ms_16 mw_6 mw_549) rfl rfl rfl (by decide +kernel) ⟨Nat.le_of_ble_eq_true rfl, Nat.le_of_ble_eq_true rfl⟩) (gx_preV rx_ok hV hZ hS (q := (mR_R, mT_R, 20)) (by decide) rx_E_0 rfl [.int (nI 2), .int (mq_who (3 + p))]) rfl rfl hl.1 rfl (lv_room (Nat.le_of_ble_eq_true rfl)) dR_port_113 ⟨Nat.le_of_ble_eq_true rfl, Nat.le_of_ble_eq_true rfl⟩) hV hS (fun r6 σ' τ' H locs hp hV hS => ?_)
          obtain ⟨hp, hu⟩ := hp
          rw [hR1.2.1.many (w := 2) (g := 3 + p) (Or.inr ⟨by simp, by omega, by omega⟩)] at hp
          subst hp
          cases hu
          refine lv_aload_n hx hb dR_port_116 rfl (lv_at hl 0 rfl) ?_
          refine lv_iconst (v := nI 3) hx hb dR_port_117 (by decide) ?_
          refine lv_iconst (v := -1) hx hb dR_port_118 (by decide) ?_
          refine lv_iload_n hx hb dR_port_119 rfl (lv_at hl 1 rfl) ?_
          refine lv_isub hx hb dR_port_120 ?_
          refine gx_top (y := mq_who (3 + p)) mq_who_hi.symm ?_
          refine gx_calli (va_runV (As := [.int (nI 3), .int (mq_who (3 + p))]) (rest := [.int (nI (pl 2 (3 + p)).length)]) ⟨hx, hb, hml, hown, ht⟩ (k_R_many l (by omega) (by omega) hV0) (cwV 2 ht (mx_gV (C := "MessageCrossbarModel") mw_546 mw_548 ms_16 mw_6 mw_549) rfl rfl rfl (by decide +kernel) ⟨Nat.le_of_ble_eq_true rfl, Nat.le_of_ble_eq_true rfl⟩) (gx_preV rx_ok hV hZ hS (q := (mR_R, mT_R, 20)) (by decide) rx_E_0 rfl [.int (nI 3), .int (mq_who (3 + p))]) rfl rfl hl.1 rfl (lv_room (Nat.le_of_ble_eq_true rfl)) dR_port_121 ⟨Nat.le_of_ble_eq_true rfl, Nat.le_of_ble_eq_true rfl⟩) hV hS (fun r7 σ' τ' H locs hp hV hS => ?_)
          obtain ⟨hp, hu⟩ := hp
          rw [hR1.2.1.many (w := 3) (g := 3 + p) (Or.inr ⟨by simp, by omega, by omega⟩)] at hp
          subst hp
          cases hu
          refine gx_iadd (a := (pl 2 (3 + p)).length) (b := (pl 3 (3 + p)).length) hx hb dR_port_124 ?_
          refine lv_aload_n hx hb dR_port_125 rfl (lv_at hl 0 rfl) ?_
          refine lv_iconst (v := nI 4) hx hb dR_port_126 (by decide) ?_
          refine lv_iconst (v := -1) hx hb dR_port_127 (by decide) ?_
          refine lv_iload_n hx hb dR_port_128 rfl (lv_at hl 1 rfl) ?_
          refine lv_isub hx hb dR_port_129 ?_
          refine gx_top (y := mq_who (3 + p)) mq_who_hi.symm ?_
          refine gx_calli (va_runV (As := [.int (nI 4), .int (mq_who (3 + p))]) (rest := [.int (nI ((pl 2 (3 + p)).length + (pl 3 (3 + p)).length))]) ⟨hx, hb, hml, hown, ht⟩ (k_R_many l (by omega) (by omega) hV0) (cwV 2 ht (mx_gV (C := "MessageCrossbarModel") mw_546 mw_548 ms_16 mw_6 mw_549) rfl rfl rfl (by decide +kernel) ⟨Nat.le_of_ble_eq_true rfl, Nat.le_of_ble_eq_true rfl⟩) (gx_preV rx_ok hV hZ hS (q := (mR_R, mT_R, 20)) (by decide) rx_E_0 rfl [.int (nI 4), .int (mq_who (3 + p))]) rfl rfl hl.1 rfl (lv_room (Nat.le_of_ble_eq_true rfl)) dR_port_130 ⟨Nat.le_of_ble_eq_true rfl, Nat.le_of_ble_eq_true rfl⟩) hV hS (fun r8 σ' τ' H locs hp hV hS => ?_)
          obtain ⟨hp, hu⟩ := hp
          rw [hR1.2.1.many (w := 4) (g := 3 + p) (Or.inr ⟨by simp, by omega, by omega⟩)] at hp
          subst hp
          cases hu
          refine gx_iadd (a := ((pl 2 (3 + p)).length + (pl 3 (3 + p)).length)) (b := (pl 4 (3 + p)).length) hx hb dR_port_133 ?_
          exact gx_iret hx hb hr hV hS ⟨congrArg nI (rr_ids hR hp0).symm, rfl⟩ dR_port_134 hlk
        · refine lv_tableOut (tgt := 135) hx hb dR_port_39 (by decide) (by decide) ?_
          refine lv_aload_n hx hb dR_port_135 rfl (lv_at hl 0 rfl) ?_
          refine gx_get (C := mR_R) (T := mT_R) (N' := 20) hx hb ht mh_R hown hV (by decide) rx_E_0 rfl 14 (by decide) (ht _ mw_486) (fun _ h => h) rfl dR_port_136 ?_
          refine lv_iload_n hx hb dR_port_139 rfl (lv_at hl 1 rfl) ?_
          refine gx_ialdv (v := nI (ρ 13 p)) hx hb hV (by decide) 0 rx_E_13 rfl p hp0 (by decide) rfl rfl dR_port_140 ?_
          exact gx_iret hx hb hr hV hS ⟨rfl, rfl⟩ dR_port_141 hlk
      · exact absurd h33 (by rw [mq_up_s]; omega)
    · exact absurd (cx_bl hw (by decide)) h18
  · exact absurd (cx_bl hp0 (by decide)) h6

set_option maxHeartbeats 4000000 in
set_option maxRecDepth 100000 in
theorem k_R_portB (l : Launch) {D : va_G} {K : Nat → ClassId} {ad : Nat → Nat} {ρ : Nat → Nat → Nat} {μ : Nat → Int64} {lt : Int64} {p w : Int32} (hb1 : ¬ (0 ≤ p ∧ p < nI 4)) : Met l yR_port (Cond.code yR_port prog_7_method_22_code 3 (some .int) :: mx_T) { frames := 3, cells := 0, slots := 0, locals := 67 } (va_Pc [.ref (ad 0), .int p, .int w] (rx_P D K ad (mq_n ρ) (rx_t μ lt))) (rx_Qi D K ad (fun rr u => rr = nI 0 ∧ u = (mq_n (mq_up ρ 0 0 1), rx_t μ lt))) 0 0 (gx_A ad 17) := by
  refine gx_met (by decide) rfl (Nat.le_of_ble_eq_true rfl) ?_
  intro pg ev s mid as below mth c ls hx hb hr hml ht hown hlk hnm hargs hB hl
  obtain ⟨hV, hZ⟩ := hB
  have hS : va_S (gx_A ad 17) s.heap s.heap [] := va_S.rf
  have hl : lv_has ls 3 [(0, .ref (ad 0)), (1, .int p), (2, .int w)] := hl
  refine lv_aload_n hx hb dR_port_0 rfl (lv_at hl 0 rfl) ?_
  refine lv_iload_n hx hb dR_port_1 rfl (lv_at hl 1 rfl) ?_
  refine lv_iconst (v := nI 4) hx hb dR_port_2 (by decide) ?_
  refine gx_callp (va_runS (As := [.int p, .int (nI 4)]) (rest := [.ref (ad 0)]) ⟨hx, hb, hml, hown, ht⟩ (k_R_in l) (cwS 2 ht (mx_gS mw_543 mw_544 mw_6 mw_545) rfl rfl rfl (by decide +kernel) ⟨Nat.le_of_ble_eq_true rfl, Nat.le_of_ble_eq_true rfl⟩) (gx_preP [.int p, .int (nI 4)]) rfl rfl hl.1 rfl (lv_room (Nat.le_of_ble_eq_true rfl)) dR_port_3 ⟨Nat.le_of_ble_eq_true rfl, Nat.le_of_ble_eq_true rfl⟩) hV hS (fun r1 H locs hp hV hS => ?_)
  subst hp
  refine gx_ifb_ne (q := 0 ≤ p ∧ p < nI 4) (tgt := 13) hx hb dR_port_6 (by decide) (fun h6 => ?_) (fun h6 => ?_)
  · exact absurd h6 hb1
  · refine lv_iconst (v := nI 1) hx hb dR_port_9 (by decide) ?_
    refine lv_goto (tgt := 26) hx hb dR_port_10 (by decide) ?_
    refine gx_put rx_loc (C := mR_R) (T := mT_R) (N' := 20) (ty := .int) (v := .int (nI 1)) hx hb ht mh_R mt_R mk_R mn_R hown hV hS (by decide) rx_E_0 rfl 0 (by decide) (ht _ mw_472) (fun _ h => h) rfl (by decide +kernel) rfl rfl (Nat.le_of_ble_eq_true rfl) dR_port_26 (cx_up (mq_n ρ) 0 0 (nI 1)) (rx_t μ lt) (by rw [rx_E_0]; simp [cx_up]) (fun _ h => cx_up_J h) (fun _ _ => rfl) (fun H locs hV hS => ?_)
    rw [rx_up] at hV
    refine lv_aload_n hx hb dR_port_29 rfl (lv_at hl 0 rfl) ?_
    refine gx_get (C := mR_R) (T := mT_R) (N' := 20) (v := .int (nI ((mq_up ρ 0 0 1) 0 0))) hx hb ht mh_R hown hV (by decide) rx_E_0 rfl 0 (by decide) (ht _ mw_472) (fun _ h => h) rfl dR_port_30 ?_
    refine gx_if_le (a := ((mq_up ρ 0 0 1) 0 0)) (tgt := 38) hx hb dR_port_33 (by decide) (by rw [mq_up_s]; omega) (fun h33 => ?_) (fun h33 => ?_)
    · exact absurd h33 (by rw [mq_up_s]; omega)
    · refine lv_iconst (v := nI 0) hx hb dR_port_36 (by decide) ?_
      exact gx_iret hx hb hr hV hS ⟨rfl, rfl⟩ dR_port_37 hlk

set_option maxHeartbeats 4000000 in
set_option maxRecDepth 100000 in
theorem k_R_portC (l : Launch) {D : va_G} {K : Nat → ClassId} {ad : Nat → Nat} {ρ : Nat → Nat → Nat} {μ : Nat → Int64} {lt : Int64} {p w : Int32} (hb1 : 0 ≤ p ∧ p < nI 4) (hb2 : ¬ (0 ≤ w ∧ w < nI 5)) : Met l yR_port (Cond.code yR_port prog_7_method_22_code 3 (some .int) :: mx_T) { frames := 3, cells := 0, slots := 0, locals := 67 } (va_Pc [.ref (ad 0), .int p, .int w] (rx_P D K ad (mq_n ρ) (rx_t μ lt))) (rx_Qi D K ad (fun rr u => rr = nI 0 ∧ u = (mq_n (mq_up ρ 0 0 2), rx_t μ lt))) 0 0 (gx_A ad 17) := by
  refine gx_met (by decide) rfl (Nat.le_of_ble_eq_true rfl) ?_
  intro pg ev s mid as below mth c ls hx hb hr hml ht hown hlk hnm hargs hB hl
  obtain ⟨hV, hZ⟩ := hB
  have hS : va_S (gx_A ad 17) s.heap s.heap [] := va_S.rf
  have hl : lv_has ls 3 [(0, .ref (ad 0)), (1, .int p), (2, .int w)] := hl
  refine lv_aload_n hx hb dR_port_0 rfl (lv_at hl 0 rfl) ?_
  refine lv_iload_n hx hb dR_port_1 rfl (lv_at hl 1 rfl) ?_
  refine lv_iconst (v := nI 4) hx hb dR_port_2 (by decide) ?_
  refine gx_callp (va_runS (As := [.int p, .int (nI 4)]) (rest := [.ref (ad 0)]) ⟨hx, hb, hml, hown, ht⟩ (k_R_in l) (cwS 2 ht (mx_gS mw_543 mw_544 mw_6 mw_545) rfl rfl rfl (by decide +kernel) ⟨Nat.le_of_ble_eq_true rfl, Nat.le_of_ble_eq_true rfl⟩) (gx_preP [.int p, .int (nI 4)]) rfl rfl hl.1 rfl (lv_room (Nat.le_of_ble_eq_true rfl)) dR_port_3 ⟨Nat.le_of_ble_eq_true rfl, Nat.le_of_ble_eq_true rfl⟩) hV hS (fun r1 H locs hp hV hS => ?_)
  subst hp
  refine gx_ifb_ne (q := 0 ≤ p ∧ p < nI 4) (tgt := 13) hx hb dR_port_6 (by decide) (fun h6 => ?_) (fun h6 => ?_)
  · refine lv_iload_n hx hb dR_port_13 rfl (lv_at hl 2 rfl) ?_
    refine lv_iconst (v := nI 5) hx hb dR_port_14 (by decide) ?_
    refine gx_callp (va_runS (As := [.int w, .int (nI 5)]) (rest := [.ref (ad 0)]) ⟨hx, hb, hml, hown, ht⟩ (k_R_in l) (cwS 2 ht (mx_gS mw_543 mw_544 mw_6 mw_545) rfl rfl rfl (by decide +kernel) ⟨Nat.le_of_ble_eq_true rfl, Nat.le_of_ble_eq_true rfl⟩) (gx_preP [.int w, .int (nI 5)]) rfl rfl hl.1 rfl (lv_room (Nat.le_of_ble_eq_true rfl)) dR_port_15 ⟨Nat.le_of_ble_eq_true rfl, Nat.le_of_ble_eq_true rfl⟩) hV hS (fun r2 H locs hp hV hS => ?_)
    subst hp
    refine gx_ifb_ne (q := 0 ≤ w ∧ w < nI 5) (tgt := 25) hx hb dR_port_18 (by decide) (fun h18 => ?_) (fun h18 => ?_)
    · exact absurd h18 hb2
    · refine lv_iconst (v := nI 2) hx hb dR_port_21 (by decide) ?_
      refine lv_goto (tgt := 26) hx hb dR_port_22 (by decide) ?_
      refine gx_put rx_loc (C := mR_R) (T := mT_R) (N' := 20) (ty := .int) (v := .int (nI 2)) hx hb ht mh_R mt_R mk_R mn_R hown hV hS (by decide) rx_E_0 rfl 0 (by decide) (ht _ mw_472) (fun _ h => h) rfl (by decide +kernel) rfl rfl (Nat.le_of_ble_eq_true rfl) dR_port_26 (cx_up (mq_n ρ) 0 0 (nI 2)) (rx_t μ lt) (by rw [rx_E_0]; simp [cx_up]) (fun _ h => cx_up_J h) (fun _ _ => rfl) (fun H locs hV hS => ?_)
      rw [rx_up] at hV
      refine lv_aload_n hx hb dR_port_29 rfl (lv_at hl 0 rfl) ?_
      refine gx_get (C := mR_R) (T := mT_R) (N' := 20) (v := .int (nI ((mq_up ρ 0 0 2) 0 0))) hx hb ht mh_R hown hV (by decide) rx_E_0 rfl 0 (by decide) (ht _ mw_472) (fun _ h => h) rfl dR_port_30 ?_
      refine gx_if_le (a := ((mq_up ρ 0 0 2) 0 0)) (tgt := 38) hx hb dR_port_33 (by decide) (by rw [mq_up_s]; omega) (fun h33 => ?_) (fun h33 => ?_)
      · exact absurd h33 (by rw [mq_up_s]; omega)
      · refine lv_iconst (v := nI 0) hx hb dR_port_36 (by decide) ?_
        exact gx_iret hx hb hr hV hS ⟨rfl, rfl⟩ dR_port_37 hlk
  · exact absurd hb1 h6

set_option maxHeartbeats 4000000 in
set_option maxRecDepth 100000 in
theorem k_R_owner (l : Launch) {D : va_G} {K : Nat → ClassId} {ad : Nat → Nat} {ρ : Nat → Nat → Nat} {μ : Nat → Int64} {lt : Int64} {p i : Nat} (hp0 : p < 4) (hi : i < 4) {cσ : Nat → Nat → Int32} {cτ : Nat → Nat → Int64} {pl : Nat → Nat → List Nat} (hR : rr_R cσ cτ ρ μ lt pl) (hmv : ρ 0 1 + 16 < 2 ^ 31) : Met l yR_owner (Cond.code yR_owner prog_7_method_23_code 3 (some .int) :: mx_T) { frames := 2, cells := 0, slots := 0, locals := 43 } (va_Pc [.ref (ad 0), .int (nI p), .int (nI i)] (rx_P D K ad (mq_n ρ) (rx_t μ lt))) (rx_Qi D K ad (fun rr u => rr = mq_oI (mq_holder ρ p i) ∧ u = (mq_n (mq_up ρ 0 0 0), rx_t μ lt))) 0 0 (gx_A ad 17) := by
  refine gx_met (by decide) rfl (Nat.le_of_ble_eq_true rfl) ?_
  intro pg ev s mid as below mth c ls hx hb hr hml ht hown hlk hnm hargs hB hl
  obtain ⟨hV, hZ⟩ := hB
  have hS : va_S (gx_A ad 17) s.heap s.heap [] := va_S.rf
  have hl : lv_has ls 3 [(0, .ref (ad 0)), (1, .int (nI p)), (2, .int (nI i))] := hl
  have hR1 : rr_R cσ cτ (mq_up ρ 0 0 0) μ lt pl := hR
  have hV0 := hR1.V (show ρ 0 1 < _ by omega)
  refine lv_aload_n hx hb dR_owner_0 rfl (lv_at hl 0 rfl) ?_
  refine lv_iload_n hx hb dR_owner_1 rfl (lv_at hl 1 rfl) ?_
  refine lv_iconst (v := nI 4) hx hb dR_owner_2 (by decide) ?_
  refine gx_callp (va_runS (As := [.int (nI p), .int (nI 4)]) (rest := [.ref (ad 0)]) ⟨hx, hb, hml, hown, ht⟩ (k_R_in l) (cwS 2 ht (mx_gS mw_543 mw_544 mw_6 mw_545) rfl rfl rfl (by decide +kernel) ⟨Nat.le_of_ble_eq_true rfl, Nat.le_of_ble_eq_true rfl⟩) (gx_preP [.int (nI p), .int (nI 4)]) rfl rfl hl.1 rfl (lv_room (Nat.le_of_ble_eq_true rfl)) dR_owner_3 ⟨Nat.le_of_ble_eq_true rfl, Nat.le_of_ble_eq_true rfl⟩) hV hS (fun r1 H locs hp hV hS => ?_)
  subst hp
  refine gx_ifb_eq (q := 0 ≤ nI p ∧ nI p < nI 4) (tgt := 21) hx hb dR_owner_6 (by decide) (fun h6 => ?_) (fun h6 => ?_)
  · exact absurd (cx_bl hp0 (by decide)) h6
  · refine lv_iload_n hx hb dR_owner_9 rfl (lv_at hl 2 rfl) ?_
    refine lv_iconst (v := nI 4) hx hb dR_owner_10 (by decide) ?_
    refine gx_callp (va_runS (As := [.int (nI i), .int (nI 4)]) (rest := [.ref (ad 0)]) ⟨hx, hb, hml, hown, ht⟩ (k_R_in l) (cwS 2 ht (mx_gS mw_543 mw_544 mw_6 mw_545) rfl rfl rfl (by decide +kernel) ⟨Nat.le_of_ble_eq_true rfl, Nat.le_of_ble_eq_true rfl⟩) (gx_preP [.int (nI i), .int (nI 4)]) rfl rfl hl.1 rfl (lv_room (Nat.le_of_ble_eq_true rfl)) dR_owner_11 ⟨Nat.le_of_ble_eq_true rfl, Nat.le_of_ble_eq_true rfl⟩) hV hS (fun r2 H locs hp hV hS => ?_)
    subst hp
    refine gx_ifb_eq (q := 0 ≤ nI i ∧ nI i < nI 4) (tgt := 21) hx hb dR_owner_14 (by decide) (fun h14 => ?_) (fun h14 => ?_)
    · exact absurd (cx_bl hi (by decide)) h14
    · refine lv_iconst (v := nI 0) hx hb dR_owner_17 (by decide) ?_
      refine lv_goto (tgt := 22) hx hb dR_owner_18 (by decide) ?_
      refine gx_put rx_loc (C := mR_R) (T := mT_R) (N' := 20) (ty := .int) (v := .int (nI 0)) hx hb ht mh_R mt_R mk_R mn_R hown hV hS (by decide) rx_E_0 rfl 0 (by decide) (ht _ mw_472) (fun _ h => h) rfl (by decide +kernel) rfl rfl (Nat.le_of_ble_eq_true rfl) dR_owner_22 (cx_up (mq_n ρ) 0 0 (nI 0)) (rx_t μ lt) (by rw [rx_E_0]; simp [cx_up]) (fun _ h => cx_up_J h) (fun _ _ => rfl) (fun H locs hV hS => ?_)
      rw [rx_up] at hV
      refine lv_aload_n hx hb dR_owner_25 rfl (lv_at hl 0 rfl) ?_
      refine gx_get (C := mR_R) (T := mT_R) (N' := 20) (v := .int (nI ((mq_up ρ 0 0 0) 0 0))) hx hb ht mh_R hown hV (by decide) rx_E_0 rfl 0 (by decide) (ht _ mw_472) (fun _ h => h) rfl dR_owner_26 ?_
      refine gx_if_le (a := ((mq_up ρ 0 0 0) 0 0)) (tgt := 36) hx hb dR_owner_29 (by decide) (by rw [mq_up_s]; omega) (fun h29 => ?_) (fun h29 => ?_)
      · refine lv_aload_n hx hb dR_owner_36 rfl (lv_at hl 0 rfl) ?_
        refine lv_iload_n hx hb dR_owner_37 rfl (lv_at hl 1 rfl) ?_
        refine lv_iload_n hx hb dR_owner_38 rfl (lv_at hl 2 rfl) ?_
        refine gx_calli (va_runV (As := [.int (nI p), .int (nI i)]) (rest := []) ⟨hx, hb, hml, hown, ht⟩ (k_R_holder l hp0 hi hV0) (cwV 2 ht (mx_gV (C := "MessageCrossbarModel") mw_600 mw_602 ms_25 mw_6 mw_603) rfl rfl rfl (by decide +kernel) ⟨Nat.le_of_ble_eq_true rfl, Nat.le_of_ble_eq_true rfl⟩) (gx_preV rx_ok hV hZ hS (q := (mR_R, mT_R, 20)) (by decide) rx_E_0 rfl [.int (nI p), .int (nI i)]) rfl rfl hl.1 rfl (lv_room (Nat.le_of_ble_eq_true rfl)) dR_owner_39 ⟨Nat.le_of_ble_eq_true rfl, Nat.le_of_ble_eq_true rfl⟩) hV hS (fun r3 σ' τ' H locs hp hV hS => ?_)
        obtain ⟨rfl, hu⟩ := hp
        cases hu
        exact gx_iret hx hb hr hV hS ⟨rfl, rfl⟩ dR_owner_42 hlk
      · exact absurd h29 (by rw [mq_up_s]; omega)

set_option maxHeartbeats 4000000 in
set_option maxRecDepth 100000 in
theorem k_R_ownerB (l : Launch) {D : va_G} {K : Nat → ClassId} {ad : Nat → Nat} {ρ : Nat → Nat → Nat} {μ : Nat → Int64} {lt : Int64} {p i : Int32} (hbad : ¬ ((0 ≤ p ∧ p < nI 4) ∧ (0 ≤ i ∧ i < nI 4))) : Met l yR_owner (Cond.code yR_owner prog_7_method_23_code 3 (some .int) :: mx_T) { frames := 2, cells := 0, slots := 0, locals := 43 } (va_Pc [.ref (ad 0), .int p, .int i] (rx_P D K ad (mq_n ρ) (rx_t μ lt))) (rx_Qi D K ad (fun rr u => rr = nI 0 ∧ u = (mq_n (mq_up ρ 0 0 1), rx_t μ lt))) 0 0 (gx_A ad 17) := by
  refine gx_met (by decide) rfl (Nat.le_of_ble_eq_true rfl) ?_
  intro pg ev s mid as below mth c ls hx hb hr hml ht hown hlk hnm hargs hB hl
  obtain ⟨hV, hZ⟩ := hB
  have hS : va_S (gx_A ad 17) s.heap s.heap [] := va_S.rf
  have hl : lv_has ls 3 [(0, .ref (ad 0)), (1, .int p), (2, .int i)] := hl
  refine lv_aload_n hx hb dR_owner_0 rfl (lv_at hl 0 rfl) ?_
  refine lv_iload_n hx hb dR_owner_1 rfl (lv_at hl 1 rfl) ?_
  refine lv_iconst (v := nI 4) hx hb dR_owner_2 (by decide) ?_
  refine gx_callp (va_runS (As := [.int p, .int (nI 4)]) (rest := [.ref (ad 0)]) ⟨hx, hb, hml, hown, ht⟩ (k_R_in l) (cwS 2 ht (mx_gS mw_543 mw_544 mw_6 mw_545) rfl rfl rfl (by decide +kernel) ⟨Nat.le_of_ble_eq_true rfl, Nat.le_of_ble_eq_true rfl⟩) (gx_preP [.int p, .int (nI 4)]) rfl rfl hl.1 rfl (lv_room (Nat.le_of_ble_eq_true rfl)) dR_owner_3 ⟨Nat.le_of_ble_eq_true rfl, Nat.le_of_ble_eq_true rfl⟩) hV hS (fun r1 H locs hp hV hS => ?_)
  subst hp
  refine gx_ifb_eq (q := 0 ≤ p ∧ p < nI 4) (tgt := 21) hx hb dR_owner_6 (by decide) (fun h6 => ?_) (fun h6 => ?_)
  · refine lv_iconst (v := nI 1) hx hb dR_owner_21 (by decide) ?_
    refine gx_put rx_loc (C := mR_R) (T := mT_R) (N' := 20) (ty := .int) (v := .int (nI 1)) hx hb ht mh_R mt_R mk_R mn_R hown hV hS (by decide) rx_E_0 rfl 0 (by decide) (ht _ mw_472) (fun _ h => h) rfl (by decide +kernel) rfl rfl (Nat.le_of_ble_eq_true rfl) dR_owner_22 (cx_up (mq_n ρ) 0 0 (nI 1)) (rx_t μ lt) (by rw [rx_E_0]; simp [cx_up]) (fun _ h => cx_up_J h) (fun _ _ => rfl) (fun H locs hV hS => ?_)
    rw [rx_up] at hV
    refine lv_aload_n hx hb dR_owner_25 rfl (lv_at hl 0 rfl) ?_
    refine gx_get (C := mR_R) (T := mT_R) (N' := 20) (v := .int (nI ((mq_up ρ 0 0 1) 0 0))) hx hb ht mh_R hown hV (by decide) rx_E_0 rfl 0 (by decide) (ht _ mw_472) (fun _ h => h) rfl dR_owner_26 ?_
    refine gx_if_le (a := ((mq_up ρ 0 0 1) 0 0)) (tgt := 36) hx hb dR_owner_29 (by decide) (by rw [mq_up_s]; omega) (fun h29 => ?_) (fun h29 => ?_)
    · exact absurd h29 (by rw [mq_up_s]; omega)
    · refine lv_iconst (v := nI 0) hx hb dR_owner_32 (by decide) ?_
      refine lv_goto (tgt := 42) hx hb dR_owner_33 (by decide) ?_
      exact gx_iret hx hb hr hV hS ⟨rfl, rfl⟩ dR_owner_42 hlk
  · refine lv_iload_n hx hb dR_owner_9 rfl (lv_at hl 2 rfl) ?_
    refine lv_iconst (v := nI 4) hx hb dR_owner_10 (by decide) ?_
    refine gx_callp (va_runS (As := [.int i, .int (nI 4)]) (rest := [.ref (ad 0)]) ⟨hx, hb, hml, hown, ht⟩ (k_R_in l) (cwS 2 ht (mx_gS mw_543 mw_544 mw_6 mw_545) rfl rfl rfl (by decide +kernel) ⟨Nat.le_of_ble_eq_true rfl, Nat.le_of_ble_eq_true rfl⟩) (gx_preP [.int i, .int (nI 4)]) rfl rfl hl.1 rfl (lv_room (Nat.le_of_ble_eq_true rfl)) dR_owner_11 ⟨Nat.le_of_ble_eq_true rfl, Nat.le_of_ble_eq_true rfl⟩) hV hS (fun r2 H locs hp hV hS => ?_)
    subst hp
    refine gx_ifb_eq (q := 0 ≤ i ∧ i < nI 4) (tgt := 21) hx hb dR_owner_14 (by decide) (fun h14 => ?_) (fun h14 => ?_)
    · refine lv_iconst (v := nI 1) hx hb dR_owner_21 (by decide) ?_
      refine gx_put rx_loc (C := mR_R) (T := mT_R) (N' := 20) (ty := .int) (v := .int (nI 1)) hx hb ht mh_R mt_R mk_R mn_R hown hV hS (by decide) rx_E_0 rfl 0 (by decide) (ht _ mw_472) (fun _ h => h) rfl (by decide +kernel) rfl rfl (Nat.le_of_ble_eq_true rfl) dR_owner_22 (cx_up (mq_n ρ) 0 0 (nI 1)) (rx_t μ lt) (by rw [rx_E_0]; simp [cx_up]) (fun _ h => cx_up_J h) (fun _ _ => rfl) (fun H locs hV hS => ?_)
      rw [rx_up] at hV
      refine lv_aload_n hx hb dR_owner_25 rfl (lv_at hl 0 rfl) ?_
      refine gx_get (C := mR_R) (T := mT_R) (N' := 20) (v := .int (nI ((mq_up ρ 0 0 1) 0 0))) hx hb ht mh_R hown hV (by decide) rx_E_0 rfl 0 (by decide) (ht _ mw_472) (fun _ h => h) rfl dR_owner_26 ?_
      refine gx_if_le (a := ((mq_up ρ 0 0 1) 0 0)) (tgt := 36) hx hb dR_owner_29 (by decide) (by rw [mq_up_s]; omega) (fun h29 => ?_) (fun h29 => ?_)
      · exact absurd h29 (by rw [mq_up_s]; omega)
      · refine lv_iconst (v := nI 0) hx hb dR_owner_32 (by decide) ?_
        refine lv_goto (tgt := 42) hx hb dR_owner_33 (by decide) ?_
        exact gx_iret hx hb hr hV hS ⟨rfl, rfl⟩ dR_owner_42 hlk
    · exact absurd ⟨h6, h14⟩ hbad

set_option maxHeartbeats 4000000 in
set_option maxRecDepth 100000 in
theorem k_R_master (l : Launch) {D : va_G} {K : Nat → ClassId} {ad : Nat → Nat} {ρ : Nat → Nat → Nat} {μ : Nat → Int64} {lt : Int64} {m w : Nat} (hm : m < 3) (hw : w < 4) {cσ : Nat → Nat → Int32} {cτ : Nat → Nat → Int64} {pl : Nat → Nat → List Nat} (hR : rr_R cσ cτ ρ μ lt pl) (hmv : ρ 0 1 + 16 < 2 ^ 31) : Met l yR_master (Cond.code yR_master prog_7_method_24_code 5 (some .int) :: mx_T) { frames := 3, cells := 0, slots := 0, locals := 67 } (va_Pc [.ref (ad 0), .int (nI m), .int (nI w)] (rx_P D K ad (mq_n ρ) (rx_t μ lt))) (rx_Qi D K ad (fun rr u => rr = (match w with | 0 => nI (pl 1 m).length | 1 => nI (pl 5 m).length | 2 => cσ (2 + 5 * m) 2 | _ => nI (1 - ρ 9 m)) ∧ u = (mq_n (mq_up ρ 0 0 0), rx_t μ lt))) 0 0 (gx_A ad 17) := by
  refine gx_met (by decide) rfl (Nat.le_of_ble_eq_true rfl) ?_
  intro pg ev s mid as below mth c ls hx hb hr hml ht hown hlk hnm hargs hB hl
  obtain ⟨hV, hZ⟩ := hB
  have hS : va_S (gx_A ad 17) s.heap s.heap [] := va_S.rf
  have hl : lv_has ls 5 [(0, .ref (ad 0)), (1, .int (nI m)), (2, .int (nI w))] := hl
  have hR1 : rr_R cσ cτ (mq_up ρ 0 0 0) μ lt pl := hR
  have hV0 := hR1.V (show ρ 0 1 < _ by omega)
  have h9 : ρ 9 m ≤ 1 := (hV0.2.1 m hm).1
  obtain ⟨-, -, b, hb0, hb1, hb2⟩ := hR1.2.2.2.1 m hm
  refine lv_aload_n hx hb dR_master_0 rfl (lv_at hl 0 rfl) ?_
  refine lv_iload_n hx hb dR_master_1 rfl (lv_at hl 1 rfl) ?_
  refine lv_iconst (v := nI 3) hx hb dR_master_2 (by decide) ?_
  refine gx_callp (va_runS (As := [.int (nI m), .int (nI 3)]) (rest := [.ref (ad 0)]) ⟨hx, hb, hml, hown, ht⟩ (k_R_in l) (cwS 2 ht (mx_gS mw_543 mw_544 mw_6 mw_545) rfl rfl rfl (by decide +kernel) ⟨Nat.le_of_ble_eq_true rfl, Nat.le_of_ble_eq_true rfl⟩) (gx_preP [.int (nI m), .int (nI 3)]) rfl rfl hl.1 rfl (lv_room (Nat.le_of_ble_eq_true rfl)) dR_master_3 ⟨Nat.le_of_ble_eq_true rfl, Nat.le_of_ble_eq_true rfl⟩) hV hS (fun r1 H locs hp hV hS => ?_)
  subst hp
  refine gx_ifb_ne (q := 0 ≤ nI m ∧ nI m < nI 3) (tgt := 13) hx hb dR_master_6 (by decide) (fun h6 => ?_) (fun h6 => ?_)
  · refine lv_iload_n hx hb dR_master_13 rfl (lv_at hl 2 rfl) ?_
    refine lv_iconst (v := nI 4) hx hb dR_master_14 (by decide) ?_
    refine gx_callp (va_runS (As := [.int (nI w), .int (nI 4)]) (rest := [.ref (ad 0)]) ⟨hx, hb, hml, hown, ht⟩ (k_R_in l) (cwS 2 ht (mx_gS mw_543 mw_544 mw_6 mw_545) rfl rfl rfl (by decide +kernel) ⟨Nat.le_of_ble_eq_true rfl, Nat.le_of_ble_eq_true rfl⟩) (gx_preP [.int (nI w), .int (nI 4)]) rfl rfl hl.1 rfl (lv_room (Nat.le_of_ble_eq_true rfl)) dR_master_15 ⟨Nat.le_of_ble_eq_true rfl, Nat.le_of_ble_eq_true rfl⟩) hV hS (fun r2 H locs hp hV hS => ?_)
    subst hp
    refine gx_ifb_ne (q := 0 ≤ nI w ∧ nI w < nI 4) (tgt := 25) hx hb dR_master_18 (by decide) (fun h18 => ?_) (fun h18 => ?_)
    · refine lv_iconst (v := nI 0) hx hb dR_master_25 (by decide) ?_
      refine gx_put rx_loc (C := mR_R) (T := mT_R) (N' := 20) (ty := .int) (v := .int (nI 0)) hx hb ht mh_R mt_R mk_R mn_R hown hV hS (by decide) rx_E_0 rfl 0 (by decide) (ht _ mw_472) (fun _ h => h) rfl (by decide +kernel) rfl rfl (Nat.le_of_ble_eq_true rfl) dR_master_26 (cx_up (mq_n ρ) 0 0 (nI 0)) (rx_t μ lt) (by rw [rx_E_0]; simp [cx_up]) (fun _ h => cx_up_J h) (fun _ _ => rfl) (fun H locs hV hS => ?_)
      rw [rx_up] at hV
      refine lv_aload_n hx hb dR_master_29 rfl (lv_at hl 0 rfl) ?_
      refine gx_get (C := mR_R) (T := mT_R) (N' := 20) (v := .int (nI ((mq_up ρ 0 0 0) 0 0))) hx hb ht mh_R hown hV (by decide) rx_E_0 rfl 0 (by decide) (ht _ mw_472) (fun _ h => h) rfl dR_master_30 ?_
      refine gx_if_le (a := ((mq_up ρ 0 0 0) 0 0)) (tgt := 38) hx hb dR_master_33 (by decide) (by rw [mq_up_s]; omega) (fun h33 => ?_) (fun h33 => ?_)
      · rcases (show w = 0 ∨ w = 1 ∨ w = 2 ∨ w = 3 by omega) with rfl | rfl | rfl | rfl
        · refine lv_iload_n hx hb dR_master_38 rfl (lv_at hl 2 rfl) ?_
          refine gx_if_ne (a := 0) (tgt := 49) hx hb dR_master_39 (by decide) (by omega) (fun h39 => ?_) (fun h39 => ?_)
          · exact absurd h39 (by decide)
          · refine lv_aload_n hx hb dR_master_42 rfl (lv_at hl 0 rfl) ?_
            refine lv_iconst (v := nI 1) hx hb dR_master_43 (by decide) ?_
            refine lv_iload_n hx hb dR_master_44 rfl (lv_at hl 1 rfl) ?_
            refine gx_top (y := mq_who m) (mq_who_lo hm).symm ?_
            refine gx_calli (va_runV (As := [.int (nI 1), .int (mq_who m)]) (rest := []) ⟨hx, hb, hml, hown, ht⟩ (k_R_many l (by omega) (by omega) hV0) (cwV 2 ht (mx_gV (C := "MessageCrossbarModel") mw_546 mw_548 ms_16 mw_6 mw_549) rfl rfl rfl (by decide +kernel) ⟨Nat.le_of_ble_eq_true rfl, Nat.le_of_ble_eq_true rfl⟩) (gx_preV rx_ok hV hZ hS (q := (mR_R, mT_R, 20)) (by decide) rx_E_0 rfl [.int (nI 1), .int (mq_who m)]) rfl rfl hl.1 rfl (lv_room (Nat.le_of_ble_eq_true rfl)) dR_master_45 ⟨Nat.le_of_ble_eq_true rfl, Nat.le_of_ble_eq_true rfl⟩) hV hS (fun r3 σ' τ' H locs hp hV hS => ?_)
            obtain ⟨hp, hu⟩ := hp
            rw [hR1.2.1.many (w := 1) (g := m) (Or.inl ⟨by simp, hm⟩)] at hp
            subst hp
            cases hu
            exact gx_iret hx hb hr hV hS ⟨rfl, rfl⟩ dR_master_48 hlk
        · refine lv_iload_n hx hb dR_master_38 rfl (lv_at hl 2 rfl) ?_
          refine gx_if_ne (a := 1) (tgt := 49) hx hb dR_master_39 (by decide) (by omega) (fun h39 => ?_) (fun h39 => ?_)
          · refine lv_iload_n hx hb dR_master_49 rfl (lv_at hl 2 rfl) ?_
            refine lv_iconst (v := nI 1) hx hb dR_master_50 (by decide) ?_
            refine gx_icmp_ne (a := 1) (b := 1) (tgt := 61) hx hb dR_master_51 (by decide) (by omega) (by omega) (fun h51 => ?_) (fun h51 => ?_)
            · exact absurd h51 (by decide)
            · refine lv_aload_n hx hb dR_master_54 rfl (lv_at hl 0 rfl) ?_
              refine lv_iconst (v := nI 5) hx hb dR_master_55 (by decide) ?_
              refine lv_iload_n hx hb dR_master_56 rfl (lv_at hl 1 rfl) ?_
              refine gx_top (y := mq_who m) (mq_who_lo hm).symm ?_
              refine gx_calli (va_runV (As := [.int (nI 5), .int (mq_who m)]) (rest := []) ⟨hx, hb, hml, hown, ht⟩ (k_R_many l (by omega) (by omega) hV0) (cwV 2 ht (mx_gV (C := "MessageCrossbarModel") mw_546 mw_548 ms_16 mw_6 mw_549) rfl rfl rfl (by decide +kernel) ⟨Nat.le_of_ble_eq_true rfl, Nat.le_of_ble_eq_true rfl⟩) (gx_preV rx_ok hV hZ hS (q := (mR_R, mT_R, 20)) (by decide) rx_E_0 rfl [.int (nI 5), .int (mq_who m)]) rfl rfl hl.1 rfl (lv_room (Nat.le_of_ble_eq_true rfl)) dR_master_57 ⟨Nat.le_of_ble_eq_true rfl, Nat.le_of_ble_eq_true rfl⟩) hV hS (fun r4 σ' τ' H locs hp hV hS => ?_)
              obtain ⟨hp, hu⟩ := hp
              rw [hR1.2.1.many (w := 5) (g := m) (Or.inl ⟨by simp, hm⟩)] at hp
              subst hp
              cases hu
              exact gx_iret hx hb hr hV hS ⟨rfl, rfl⟩ dR_master_60 hlk
          · exact absurd h39 (by decide)
        · refine lv_iload_n hx hb dR_master_38 rfl (lv_at hl 2 rfl) ?_
          refine gx_if_ne (a := 2) (tgt := 49) hx hb dR_master_39 (by decide) (by omega) (fun h39 => ?_) (fun h39 => ?_)
          · refine lv_iload_n hx hb dR_master_49 rfl (lv_at hl 2 rfl) ?_
            refine lv_iconst (v := nI 1) hx hb dR_master_50 (by decide) ?_
            refine gx_icmp_ne (a := 2) (b := 1) (tgt := 61) hx hb dR_master_51 (by decide) (by omega) (by omega) (fun h51 => ?_) (fun h51 => ?_)
            · refine lv_iload_n hx hb dR_master_61 rfl (lv_at hl 2 rfl) ?_
              refine lv_iconst (v := nI 3) hx hb dR_master_62 (by decide) ?_
              refine gx_icmp_ne (a := 2) (b := 3) (tgt := 81) hx hb dR_master_63 (by decide) (by omega) (by omega) (fun h63 => ?_) (fun h63 => ?_)
              · refine lv_iconst (v := nI 0) hx hb dR_master_81 (by decide) ?_
                refine lv_istore_n (lv' := [(3, .int (nI 0)), (0, .ref (ad 0)), (1, .int (nI m)), (2, .int (nI 2))]) hx hb dR_master_82 rfl hl (by decide) rfl (fun ls hl => ?_)
                refine lv_iconst (v := nI 0) hx hb dR_master_83 (by decide) ?_
                refine lv_istore (lv' := [(4, .int (nI 0)), (3, .int (nI 0)), (0, .ref (ad 0)), (1, .int (nI m)), (2, .int (nI 2))]) hx hb dR_master_84 hl (by decide) rfl (fun ls hl => ?_)
                have loop : ∀ (k : Nat) (j : Nat) (H : Heap) (locs : List Loc) (ls : Array Slot), j + k = 8 → gx_V D mx_cl (mx_tys K) (rx_E ad K) ad 17 (mq_n (mq_up ρ 0 0 0)) (rx_t μ lt) s H → va_S (gx_A ad 17) s.heap H locs → lv_has ls 5 [(4, .int (nI j)), (3, .int (nI (b % 2 ^ j))), (0, .ref (ad 0)), (1, .int (nI m)), (2, .int (nI 2))] → W pg l ev (headSpec (Cond.code yR_master prog_7_method_24_code 5 (some .int) :: mx_T) { frames := 3, cells := 0, slots := 0, locals := 67 }).room s mid as below mth c H locs 0 0 (MQ below (rx_Qi D K ad (fun rr u => rr = (match 2 with | 0 => nI (pl 1 m).length | 1 => nI (pl 5 m).length | 2 => cσ (2 + 5 * m) 2 | _ => nI (1 - ρ 9 m)) ∧ u = (mq_n (mq_up ρ 0 0 0), rx_t μ lt))) as s 0 0 (gx_A ad 17)) (F0 mid 86 ls []) := by
                  intro k
                  induction k with
                  | zero =>
                    intro j H locs ls hk hV hS hl
                    refine lv_iload hx hb dR_master_86 (lv_at hl 0 rfl) ?_
                    refine lv_bipush (v := nI 8) hx hb dR_master_88 (by decide) ?_
                    refine gx_icmp_ge (a := j) (b := 8) (tgt := 125) hx hb dR_master_90 (by decide) (by omega) (by omega) (fun h90 => ?_) (fun h90 => ?_)
                    · refine lv_iload_n hx hb dR_master_125 rfl (lv_at hl 1 rfl) ?_
                      exact gx_iret hx hb hr hV hS ⟨by show nI (b % 2 ^ j) = cσ (2 + 5 * m) 2; rw [hb1, show j = 8 by omega, Nat.mod_eq_of_lt hb0], rfl⟩ dR_master_126 hlk
                    · exact absurd h90 (by omega)
                  | succ k ih =>
                    intro j H locs ls hk hV hS hl
                    refine lv_iload hx hb dR_master_86 (lv_at hl 0 rfl) ?_
                    refine lv_bipush (v := nI 8) hx hb dR_master_88 (by decide) ?_
                    refine gx_icmp_ge (a := j) (b := 8) (tgt := 125) hx hb dR_master_90 (by decide) (by omega) (by omega) (fun h90 => ?_) (fun h90 => ?_)
                    · exact absurd h90 (by omega)
                    · refine lv_iload_n hx hb dR_master_93 rfl (lv_at hl 1 rfl) ?_
                      refine lv_aload_n hx hb dR_master_94 rfl (lv_at hl 2 rfl) ?_
                      refine gx_get (C := mR_R) (T := mT_R) (N' := 20) hx hb ht mh_R hown hV (by decide) rx_E_0 rfl 1 (by decide) (ht _ mw_473) (fun _ h => h) rfl dR_master_95 ?_
                      refine lv_bipush (v := nI 8) hx hb dR_master_98 (by decide) ?_
                      refine lv_iload_n hx hb dR_master_100 rfl (lv_at hl 3 rfl) ?_
                      refine gx_imul (a := 8) (b := m) hx hb dR_master_101 ?_
                      refine lv_iload hx hb dR_master_102 (lv_at hl 0 rfl) ?_
                      refine gx_iadd (a := (8 * m)) (b := j) hx hb dR_master_104 ?_
                      refine gx_ialdv (v := nI (ρ 1 (8 * m + j))) hx hb hV (by decide) 0 rx_E_1 rfl (8 * m + j) (by omega) (by decide) rfl rfl dR_master_105 ?_
                      refine gx_if_eq (a := (ρ 1 (8 * m + j))) (tgt := 116) hx hb dR_master_106 (by decide) (by have h1 : ρ 1 (8 * m + j) ≤ 5 := (hV0.1 _ (by omega)).1; omega) (fun h106 => ?_) (fun h106 => ?_)
                      · refine lv_iconst (v := nI 0) hx hb dR_master_116 (by decide) ?_
                        have hbj : b / 2 ^ j % 2 = 0 := by have q1 := hb2 j (by omega); rw [Nat.testBit_eq_decide_div_mod_eq] at q1; have q2 := decide_eq_decide.mp q1; have q3 : ¬ b / 2 ^ j % 2 = 1 := fun z => q2.mp z h106; omega
                        refine gx_top (y := nI (b / 2 ^ j % 2 * 2 ^ j)) (by rw [hbj, Nat.zero_mul]) ?_
                        refine lv_ior hx hb dR_master_117 ?_
                        refine gx_top (y := nI (b % 2 ^ (j + 1))) (mq_bits8 b hb0 j (by omega)) ?_
                        refine lv_istore_n (lv' := [(3, .int (nI (b % 2 ^ (j + 1)))), (4, .int (nI j)), (0, .ref (ad 0)), (1, .int (nI m)), (2, .int (nI 2))]) hx hb dR_master_118 rfl hl (by decide) rfl (fun ls hl => ?_)
                        refine lv_iinc (k := 1) (v := (nI (j + 1))) (lv' := [(4, .int (nI (j + 1))), (3, .int (nI (b % 2 ^ (j + 1)))), (0, .ref (ad 0)), (1, .int (nI m)), (2, .int (nI 2))]) hx hb dR_master_119 hl rfl (nI_succ j).symm (by decide) rfl (fun ls hl => ?_)
                        refine lv_goto (tgt := 86) hx hb dR_master_122 (by decide) ?_
                        exact ih (j + 1) H locs ls (by omega) hV hS (lv_sub hl [0, 1, 2, 3, 4] rfl)
                      · refine lv_iconst (v := nI 1) hx hb dR_master_109 (by decide) ?_
                        refine lv_iload hx hb dR_master_110 (lv_at hl 0 rfl) ?_
                        refine lv_ishl hx hb dR_master_112 ?_
                        refine lv_goto (tgt := 117) hx hb dR_master_113 (by decide) ?_
                        have hbj : b / 2 ^ j % 2 = 1 := by have q1 := hb2 j (by omega); rw [Nat.testBit_eq_decide_div_mod_eq] at q1; have q2 := decide_eq_decide.mp q1; exact q2.mpr h106
                        refine gx_top (y := nI (b / 2 ^ j % 2 * 2 ^ j)) (by rw [hbj, Nat.one_mul]; exact mq_sh8 j (by omega)) ?_
                        refine lv_ior hx hb dR_master_117 ?_
                        refine gx_top (y := nI (b % 2 ^ (j + 1))) (mq_bits8 b hb0 j (by omega)) ?_
                        refine lv_istore_n (lv' := [(3, .int (nI (b % 2 ^ (j + 1)))), (4, .int (nI j)), (0, .ref (ad 0)), (1, .int (nI m)), (2, .int (nI 2))]) hx hb dR_master_118 rfl hl (by decide) rfl (fun ls hl => ?_)
                        refine lv_iinc (k := 1) (v := (nI (j + 1))) (lv' := [(4, .int (nI (j + 1))), (3, .int (nI (b % 2 ^ (j + 1)))), (0, .ref (ad 0)), (1, .int (nI m)), (2, .int (nI 2))]) hx hb dR_master_119 hl rfl (nI_succ j).symm (by decide) rfl (fun ls hl => ?_)
                        refine lv_goto (tgt := 86) hx hb dR_master_122 (by decide) ?_
                        exact ih (j + 1) H locs ls (by omega) hV hS (lv_sub hl [0, 1, 2, 3, 4] rfl)
                exact loop 8 0 _ _ ls (by omega) hV hS (by rw [show nI (b % 2 ^ 0) = nI 0 by rw [Nat.pow_zero, Nat.mod_one]]; exact hl)
              · exact absurd h63 (by decide)
            · exact absurd h51 (by decide)
          · exact absurd h39 (by decide)
        · refine lv_iload_n hx hb dR_master_38 rfl (lv_at hl 2 rfl) ?_
          refine gx_if_ne (a := 3) (tgt := 49) hx hb dR_master_39 (by decide) (by omega) (fun h39 => ?_) (fun h39 => ?_)
          · refine lv_iload_n hx hb dR_master_49 rfl (lv_at hl 2 rfl) ?_
            refine lv_iconst (v := nI 1) hx hb dR_master_50 (by decide) ?_
            refine gx_icmp_ne (a := 3) (b := 1) (tgt := 61) hx hb dR_master_51 (by decide) (by omega) (by omega) (fun h51 => ?_) (fun h51 => ?_)
            · refine lv_iload_n hx hb dR_master_61 rfl (lv_at hl 2 rfl) ?_
              refine lv_iconst (v := nI 3) hx hb dR_master_62 (by decide) ?_
              refine gx_icmp_ne (a := 3) (b := 3) (tgt := 81) hx hb dR_master_63 (by decide) (by omega) (by omega) (fun h63 => ?_) (fun h63 => ?_)
              · exact absurd h63 (by decide)
              · refine lv_aload_n hx hb dR_master_66 rfl (lv_at hl 0 rfl) ?_
                refine gx_get (C := mR_R) (T := mT_R) (N' := 20) hx hb ht mh_R hown hV (by decide) rx_E_0 rfl 10 (by decide) (ht _ mw_482) (fun _ h => h) rfl dR_master_67 ?_
                refine lv_iload_n hx hb dR_master_70 rfl (lv_at hl 1 rfl) ?_
                refine gx_zald hx hb hV (by decide) 2 rx_E_9 rfl m hm (by decide) rfl dR_master_71 ?_
                refine gx_top (y := nI (ρ 9 m)) rfl ?_
                refine gx_if_eq (a := (ρ 9 m)) (tgt := 79) hx hb dR_master_72 (by decide) (by omega) (fun h72 => ?_) (fun h72 => ?_)
                · refine lv_iconst (v := nI 1) hx hb dR_master_79 (by decide) ?_
                  exact gx_iret hx hb hr hV hS ⟨by show _ = nI (1 - ρ 9 m); congr 1; omega, rfl⟩ dR_master_80 hlk
                · refine lv_iconst (v := nI 0) hx hb dR_master_75 (by decide) ?_
                  refine lv_goto (tgt := 80) hx hb dR_master_76 (by decide) ?_
                  exact gx_iret hx hb hr hV hS ⟨by show _ = nI (1 - ρ 9 m); congr 1; omega, rfl⟩ dR_master_80 hlk
            · exact absurd h51 (by decide)
          · exact absurd h39 (by decide)
      · exact absurd h33 (by rw [mq_up_s]; omega)
    · exact absurd (cx_bl hw (by decide)) h18
  · exact absurd (cx_bl hm (by decide)) h6

set_option maxHeartbeats 4000000 in
set_option maxRecDepth 100000 in
theorem k_R_masterB (l : Launch) {D : va_G} {K : Nat → ClassId} {ad : Nat → Nat} {ρ : Nat → Nat → Nat} {μ : Nat → Int64} {lt : Int64} {m w : Int32} (hb1 : ¬ (0 ≤ m ∧ m < nI 3)) : Met l yR_master (Cond.code yR_master prog_7_method_24_code 5 (some .int) :: mx_T) { frames := 3, cells := 0, slots := 0, locals := 67 } (va_Pc [.ref (ad 0), .int m, .int w] (rx_P D K ad (mq_n ρ) (rx_t μ lt))) (rx_Qi D K ad (fun rr u => rr = nI 0 ∧ u = (mq_n (mq_up ρ 0 0 1), rx_t μ lt))) 0 0 (gx_A ad 17) := by
  refine gx_met (by decide) rfl (Nat.le_of_ble_eq_true rfl) ?_
  intro pg ev s mid as below mth c ls hx hb hr hml ht hown hlk hnm hargs hB hl
  obtain ⟨hV, hZ⟩ := hB
  have hS : va_S (gx_A ad 17) s.heap s.heap [] := va_S.rf
  have hl : lv_has ls 5 [(0, .ref (ad 0)), (1, .int m), (2, .int w)] := hl
  refine lv_aload_n hx hb dR_master_0 rfl (lv_at hl 0 rfl) ?_
  refine lv_iload_n hx hb dR_master_1 rfl (lv_at hl 1 rfl) ?_
  refine lv_iconst (v := nI 3) hx hb dR_master_2 (by decide) ?_
  refine gx_callp (va_runS (As := [.int m, .int (nI 3)]) (rest := [.ref (ad 0)]) ⟨hx, hb, hml, hown, ht⟩ (k_R_in l) (cwS 2 ht (mx_gS mw_543 mw_544 mw_6 mw_545) rfl rfl rfl (by decide +kernel) ⟨Nat.le_of_ble_eq_true rfl, Nat.le_of_ble_eq_true rfl⟩) (gx_preP [.int m, .int (nI 3)]) rfl rfl hl.1 rfl (lv_room (Nat.le_of_ble_eq_true rfl)) dR_master_3 ⟨Nat.le_of_ble_eq_true rfl, Nat.le_of_ble_eq_true rfl⟩) hV hS (fun r1 H locs hp hV hS => ?_)
  subst hp
  refine gx_ifb_ne (q := 0 ≤ m ∧ m < nI 3) (tgt := 13) hx hb dR_master_6 (by decide) (fun h6 => ?_) (fun h6 => ?_)
  · exact absurd h6 hb1
  · refine lv_iconst (v := nI 1) hx hb dR_master_9 (by decide) ?_
    refine lv_goto (tgt := 26) hx hb dR_master_10 (by decide) ?_
    refine gx_put rx_loc (C := mR_R) (T := mT_R) (N' := 20) (ty := .int) (v := .int (nI 1)) hx hb ht mh_R mt_R mk_R mn_R hown hV hS (by decide) rx_E_0 rfl 0 (by decide) (ht _ mw_472) (fun _ h => h) rfl (by decide +kernel) rfl rfl (Nat.le_of_ble_eq_true rfl) dR_master_26 (cx_up (mq_n ρ) 0 0 (nI 1)) (rx_t μ lt) (by rw [rx_E_0]; simp [cx_up]) (fun _ h => cx_up_J h) (fun _ _ => rfl) (fun H locs hV hS => ?_)
    rw [rx_up] at hV
    refine lv_aload_n hx hb dR_master_29 rfl (lv_at hl 0 rfl) ?_
    refine gx_get (C := mR_R) (T := mT_R) (N' := 20) (v := .int (nI ((mq_up ρ 0 0 1) 0 0))) hx hb ht mh_R hown hV (by decide) rx_E_0 rfl 0 (by decide) (ht _ mw_472) (fun _ h => h) rfl dR_master_30 ?_
    refine gx_if_le (a := ((mq_up ρ 0 0 1) 0 0)) (tgt := 38) hx hb dR_master_33 (by decide) (by rw [mq_up_s]; omega) (fun h33 => ?_) (fun h33 => ?_)
    · exact absurd h33 (by rw [mq_up_s]; omega)
    · refine lv_iconst (v := nI 0) hx hb dR_master_36 (by decide) ?_
      exact gx_iret hx hb hr hV hS ⟨rfl, rfl⟩ dR_master_37 hlk

set_option maxHeartbeats 4000000 in
set_option maxRecDepth 100000 in
theorem k_R_masterC (l : Launch) {D : va_G} {K : Nat → ClassId} {ad : Nat → Nat} {ρ : Nat → Nat → Nat} {μ : Nat → Int64} {lt : Int64} {m w : Int32} (hb1 : 0 ≤ m ∧ m < nI 3) (hb2 : ¬ (0 ≤ w ∧ w < nI 4)) : Met l yR_master (Cond.code yR_master prog_7_method_24_code 5 (some .int) :: mx_T) { frames := 3, cells := 0, slots := 0, locals := 67 } (va_Pc [.ref (ad 0), .int m, .int w] (rx_P D K ad (mq_n ρ) (rx_t μ lt))) (rx_Qi D K ad (fun rr u => rr = nI 0 ∧ u = (mq_n (mq_up ρ 0 0 2), rx_t μ lt))) 0 0 (gx_A ad 17) := by
  refine gx_met (by decide) rfl (Nat.le_of_ble_eq_true rfl) ?_
  intro pg ev s mid as below mth c ls hx hb hr hml ht hown hlk hnm hargs hB hl
  obtain ⟨hV, hZ⟩ := hB
  have hS : va_S (gx_A ad 17) s.heap s.heap [] := va_S.rf
  have hl : lv_has ls 5 [(0, .ref (ad 0)), (1, .int m), (2, .int w)] := hl
  refine lv_aload_n hx hb dR_master_0 rfl (lv_at hl 0 rfl) ?_
  refine lv_iload_n hx hb dR_master_1 rfl (lv_at hl 1 rfl) ?_
  refine lv_iconst (v := nI 3) hx hb dR_master_2 (by decide) ?_
  refine gx_callp (va_runS (As := [.int m, .int (nI 3)]) (rest := [.ref (ad 0)]) ⟨hx, hb, hml, hown, ht⟩ (k_R_in l) (cwS 2 ht (mx_gS mw_543 mw_544 mw_6 mw_545) rfl rfl rfl (by decide +kernel) ⟨Nat.le_of_ble_eq_true rfl, Nat.le_of_ble_eq_true rfl⟩) (gx_preP [.int m, .int (nI 3)]) rfl rfl hl.1 rfl (lv_room (Nat.le_of_ble_eq_true rfl)) dR_master_3 ⟨Nat.le_of_ble_eq_true rfl, Nat.le_of_ble_eq_true rfl⟩) hV hS (fun r1 H locs hp hV hS => ?_)
  subst hp
  refine gx_ifb_ne (q := 0 ≤ m ∧ m < nI 3) (tgt := 13) hx hb dR_master_6 (by decide) (fun h6 => ?_) (fun h6 => ?_)
  · refine lv_iload_n hx hb dR_master_13 rfl (lv_at hl 2 rfl) ?_
    refine lv_iconst (v := nI 4) hx hb dR_master_14 (by decide) ?_
    refine gx_callp (va_runS (As := [.int w, .int (nI 4)]) (rest := [.ref (ad 0)]) ⟨hx, hb, hml, hown, ht⟩ (k_R_in l) (cwS 2 ht (mx_gS mw_543 mw_544 mw_6 mw_545) rfl rfl rfl (by decide +kernel) ⟨Nat.le_of_ble_eq_true rfl, Nat.le_of_ble_eq_true rfl⟩) (gx_preP [.int w, .int (nI 4)]) rfl rfl hl.1 rfl (lv_room (Nat.le_of_ble_eq_true rfl)) dR_master_15 ⟨Nat.le_of_ble_eq_true rfl, Nat.le_of_ble_eq_true rfl⟩) hV hS (fun r2 H locs hp hV hS => ?_)
    subst hp
    refine gx_ifb_ne (q := 0 ≤ w ∧ w < nI 4) (tgt := 25) hx hb dR_master_18 (by decide) (fun h18 => ?_) (fun h18 => ?_)
    · exact absurd h18 hb2
    · refine lv_iconst (v := nI 2) hx hb dR_master_21 (by decide) ?_
      refine lv_goto (tgt := 26) hx hb dR_master_22 (by decide) ?_
      refine gx_put rx_loc (C := mR_R) (T := mT_R) (N' := 20) (ty := .int) (v := .int (nI 2)) hx hb ht mh_R mt_R mk_R mn_R hown hV hS (by decide) rx_E_0 rfl 0 (by decide) (ht _ mw_472) (fun _ h => h) rfl (by decide +kernel) rfl rfl (Nat.le_of_ble_eq_true rfl) dR_master_26 (cx_up (mq_n ρ) 0 0 (nI 2)) (rx_t μ lt) (by rw [rx_E_0]; simp [cx_up]) (fun _ h => cx_up_J h) (fun _ _ => rfl) (fun H locs hV hS => ?_)
      rw [rx_up] at hV
      refine lv_aload_n hx hb dR_master_29 rfl (lv_at hl 0 rfl) ?_
      refine gx_get (C := mR_R) (T := mT_R) (N' := 20) (v := .int (nI ((mq_up ρ 0 0 2) 0 0))) hx hb ht mh_R hown hV (by decide) rx_E_0 rfl 0 (by decide) (ht _ mw_472) (fun _ h => h) rfl dR_master_30 ?_
      refine gx_if_le (a := ((mq_up ρ 0 0 2) 0 0)) (tgt := 38) hx hb dR_master_33 (by decide) (by rw [mq_up_s]; omega) (fun h33 => ?_) (fun h33 => ?_)
      · exact absurd h33 (by rw [mq_up_s]; omega)
      · refine lv_iconst (v := nI 0) hx hb dR_master_36 (by decide) ?_
        exact gx_iret hx hb hr hV hS ⟨rfl, rfl⟩ dR_master_37 hlk
  · exact absurd hb1 h6

set_option maxHeartbeats 4000000 in
set_option maxRecDepth 100000 in
theorem k_R_memory (l : Launch) {D : va_G} {K : Nat → ClassId} {ad : Nat → Nat} {ρ : Nat → Nat → Nat} {μ : Nat → Int64} {lt : Int64} {a : Nat} (ha : a < 640) : Met l yR_memory (Cond.code yR_memory prog_7_method_25_code 2 (some .int) :: mx_T) { frames := 1, cells := 0, slots := 0, locals := 21 } (va_Pc [.ref (ad 0), .int (nI a)] (rx_P D K ad (mq_n ρ) (rx_t μ lt))) (rx_Qi D K ad (fun rr u => rr = nI (ρ 14 a) ∧ u = (mq_n (mq_up ρ 0 0 0), rx_t μ lt))) 0 0 (gx_A ad 17) := by
  refine gx_met (by decide) rfl (Nat.le_of_ble_eq_true rfl) ?_
  intro pg ev s mid as below mth c ls hx hb hr hml ht hown hlk hnm hargs hB hl
  obtain ⟨hV, hZ⟩ := hB
  have hS : va_S (gx_A ad 17) s.heap s.heap [] := va_S.rf
  have hl : lv_has ls 2 [(0, .ref (ad 0)), (1, .int (nI a))] := hl
  refine lv_aload_n hx hb dR_memory_0 rfl (lv_at hl 0 rfl) ?_
  refine lv_iload_n hx hb dR_memory_1 rfl (lv_at hl 1 rfl) ?_
  refine lv_sipush (v := nI 640) hx hb dR_memory_2 (by decide) ?_
  refine gx_callp (va_runS (As := [.int (nI a), .int (nI 640)]) (rest := [.ref (ad 0)]) ⟨hx, hb, hml, hown, ht⟩ (k_R_in l) (cwS 2 ht (mx_gS mw_543 mw_544 mw_6 mw_545) rfl rfl rfl (by decide +kernel) ⟨Nat.le_of_ble_eq_true rfl, Nat.le_of_ble_eq_true rfl⟩) (gx_preP [.int (nI a), .int (nI 640)]) rfl rfl hl.1 rfl (lv_room (Nat.le_of_ble_eq_true rfl)) dR_memory_5 ⟨Nat.le_of_ble_eq_true rfl, Nat.le_of_ble_eq_true rfl⟩) hV hS (fun r1 H locs hp hV hS => ?_)
  subst hp
  refine gx_ifb_eq (q := 0 ≤ nI a ∧ nI a < nI 640) (tgt := 15) hx hb dR_memory_8 (by decide) (fun h8 => ?_) (fun h8 => ?_)
  · exact absurd (cx_bl ha (by decide)) h8
  · refine lv_iconst (v := nI 0) hx hb dR_memory_11 (by decide) ?_
    refine lv_goto (tgt := 16) hx hb dR_memory_12 (by decide) ?_
    refine gx_put rx_loc (C := mR_R) (T := mT_R) (N' := 20) (ty := .int) (v := .int (nI 0)) hx hb ht mh_R mt_R mk_R mn_R hown hV hS (by decide) rx_E_0 rfl 0 (by decide) (ht _ mw_472) (fun _ h => h) rfl (by decide +kernel) rfl rfl (Nat.le_of_ble_eq_true rfl) dR_memory_16 (cx_up (mq_n ρ) 0 0 (nI 0)) (rx_t μ lt) (by rw [rx_E_0]; simp [cx_up]) (fun _ h => cx_up_J h) (fun _ _ => rfl) (fun H locs hV hS => ?_)
    rw [rx_up] at hV
    refine lv_aload_n hx hb dR_memory_19 rfl (lv_at hl 0 rfl) ?_
    refine gx_get (C := mR_R) (T := mT_R) (N' := 20) (v := .int (nI ((mq_up ρ 0 0 0) 0 0))) hx hb ht mh_R hown hV (by decide) rx_E_0 rfl 0 (by decide) (ht _ mw_472) (fun _ h => h) rfl dR_memory_20 ?_
    refine gx_if_le (a := ((mq_up ρ 0 0 0) 0 0)) (tgt := 30) hx hb dR_memory_23 (by decide) (by rw [mq_up_s]; omega) (fun h23 => ?_) (fun h23 => ?_)
    · refine lv_aload_n hx hb dR_memory_30 rfl (lv_at hl 0 rfl) ?_
      refine gx_get (C := mR_R) (T := mT_R) (N' := 20) hx hb ht mh_R hown hV (by decide) rx_E_0 rfl 15 (by decide) (ht _ mw_487) (fun _ h => h) rfl dR_memory_31 ?_
      refine lv_iload_n hx hb dR_memory_34 rfl (lv_at hl 1 rfl) ?_
      refine gx_ialdv (v := nI (ρ 14 a)) hx hb hV (by decide) 0 rx_E_14 rfl a ha (by decide) rfl rfl dR_memory_35 ?_
      exact gx_iret hx hb hr hV hS ⟨rfl, rfl⟩ dR_memory_36 hlk
    · exact absurd h23 (by rw [mq_up_s]; omega)

set_option maxHeartbeats 4000000 in
set_option maxRecDepth 100000 in
theorem k_R_memoryB (l : Launch) {D : va_G} {K : Nat → ClassId} {ad : Nat → Nat} {ρ : Nat → Nat → Nat} {μ : Nat → Int64} {lt : Int64} {a : Int32} (ha : ¬ (0 ≤ a ∧ a < nI 640)) : Met l yR_memory (Cond.code yR_memory prog_7_method_25_code 2 (some .int) :: mx_T) { frames := 1, cells := 0, slots := 0, locals := 21 } (va_Pc [.ref (ad 0), .int a] (rx_P D K ad (mq_n ρ) (rx_t μ lt))) (rx_Qi D K ad (fun rr u => rr = nI 0 ∧ u = (mq_n (mq_up ρ 0 0 1), rx_t μ lt))) 0 0 (gx_A ad 17) := by
  refine gx_met (by decide) rfl (Nat.le_of_ble_eq_true rfl) ?_
  intro pg ev s mid as below mth c ls hx hb hr hml ht hown hlk hnm hargs hB hl
  obtain ⟨hV, hZ⟩ := hB
  have hS : va_S (gx_A ad 17) s.heap s.heap [] := va_S.rf
  have hl : lv_has ls 2 [(0, .ref (ad 0)), (1, .int a)] := hl
  refine lv_aload_n hx hb dR_memory_0 rfl (lv_at hl 0 rfl) ?_
  refine lv_iload_n hx hb dR_memory_1 rfl (lv_at hl 1 rfl) ?_
  refine lv_sipush (v := nI 640) hx hb dR_memory_2 (by decide) ?_
  refine gx_callp (va_runS (As := [.int a, .int (nI 640)]) (rest := [.ref (ad 0)]) ⟨hx, hb, hml, hown, ht⟩ (k_R_in l) (cwS 2 ht (mx_gS mw_543 mw_544 mw_6 mw_545) rfl rfl rfl (by decide +kernel) ⟨Nat.le_of_ble_eq_true rfl, Nat.le_of_ble_eq_true rfl⟩) (gx_preP [.int a, .int (nI 640)]) rfl rfl hl.1 rfl (lv_room (Nat.le_of_ble_eq_true rfl)) dR_memory_5 ⟨Nat.le_of_ble_eq_true rfl, Nat.le_of_ble_eq_true rfl⟩) hV hS (fun r1 H locs hp hV hS => ?_)
  subst hp
  refine gx_ifb_eq (q := 0 ≤ a ∧ a < nI 640) (tgt := 15) hx hb dR_memory_8 (by decide) (fun h8 => ?_) (fun h8 => ?_)
  · refine lv_iconst (v := nI 1) hx hb dR_memory_15 (by decide) ?_
    refine gx_put rx_loc (C := mR_R) (T := mT_R) (N' := 20) (ty := .int) (v := .int (nI 1)) hx hb ht mh_R mt_R mk_R mn_R hown hV hS (by decide) rx_E_0 rfl 0 (by decide) (ht _ mw_472) (fun _ h => h) rfl (by decide +kernel) rfl rfl (Nat.le_of_ble_eq_true rfl) dR_memory_16 (cx_up (mq_n ρ) 0 0 (nI 1)) (rx_t μ lt) (by rw [rx_E_0]; simp [cx_up]) (fun _ h => cx_up_J h) (fun _ _ => rfl) (fun H locs hV hS => ?_)
    rw [rx_up] at hV
    refine lv_aload_n hx hb dR_memory_19 rfl (lv_at hl 0 rfl) ?_
    refine gx_get (C := mR_R) (T := mT_R) (N' := 20) (v := .int (nI ((mq_up ρ 0 0 1) 0 0))) hx hb ht mh_R hown hV (by decide) rx_E_0 rfl 0 (by decide) (ht _ mw_472) (fun _ h => h) rfl dR_memory_20 ?_
    refine gx_if_le (a := ((mq_up ρ 0 0 1) 0 0)) (tgt := 30) hx hb dR_memory_23 (by decide) (by rw [mq_up_s]; omega) (fun h23 => ?_) (fun h23 => ?_)
    · exact absurd h23 (by rw [mq_up_s]; omega)
    · refine lv_iconst (v := nI 0) hx hb dR_memory_26 (by decide) ?_
      refine lv_goto (tgt := 36) hx hb dR_memory_27 (by decide) ?_
      exact gx_iret hx hb hr hV hS ⟨rfl, rfl⟩ dR_memory_36 hlk
  · exact absurd h8 ha

set_option maxHeartbeats 4000000 in
set_option maxRecDepth 100000 in
theorem k_R_done (l : Launch) {D : va_G} {K : Nat → ClassId} {ad : Nat → Nat} {ρ : Nat → Nat → Nat} {μ : Nat → Int64} {lt : Int64} {k : Nat} (hk : k < 32) {cσ : Nat → Nat → Int32} {cτ : Nat → Nat → Int64} {pl : Nat → Nat → List Nat} (hR : rr_R cσ cτ ρ μ lt pl) (hmv : ρ 0 1 + 16 < 2 ^ 31) : Met l yR_done (Cond.code yR_done prog_7_method_26_code 2 (some .int) :: mx_T) { frames := 1, cells := 0, slots := 0, locals := 21 } (va_Pc [.ref (ad 0), .int (nI k)] (rx_P D K ad (mq_n ρ) (rx_t μ lt))) (rx_Qi D K ad (fun rr u => rr = (if ρ 16 3 ≤ k then -1 else nI (ρ 15 ((ρ 16 3 - 1 - k) % 32))) ∧ u = (mq_n (mq_up ρ 0 0 0), rx_t μ lt))) 0 0 (gx_A ad 17) := by
  refine gx_met (by decide) rfl (Nat.le_of_ble_eq_true rfl) ?_
  intro pg ev s mid as below mth c ls hx hb hr hml ht hown hlk hnm hargs hB hl
  obtain ⟨hV, hZ⟩ := hB
  have hS : va_S (gx_A ad 17) s.heap s.heap [] := va_S.rf
  have hl : lv_has ls 2 [(0, .ref (ad 0)), (1, .int (nI k))] := hl
  have hR1 : rr_R cσ cτ (mq_up ρ 0 0 0) μ lt pl := hR
  have hV0 := hR1.V (show ρ 0 1 < _ by omega)
  have h163 : ρ 16 3 ≤ ρ 0 1 := hV0.2.2.2.2
  refine lv_aload_n hx hb dR_done_0 rfl (lv_at hl 0 rfl) ?_
  refine lv_iconst (v := nI 0) hx hb dR_done_1 (by decide) ?_
  refine gx_put rx_loc (C := mR_R) (T := mT_R) (N' := 20) (ty := .int) (v := .int (nI 0)) hx hb ht mh_R mt_R mk_R mn_R hown hV hS (by decide) rx_E_0 rfl 0 (by decide) (ht _ mw_472) (fun _ h => h) rfl (by decide +kernel) rfl rfl (Nat.le_of_ble_eq_true rfl) dR_done_2 (cx_up (mq_n ρ) 0 0 (nI 0)) (rx_t μ lt) (by rw [rx_E_0]; simp [cx_up]) (fun _ h => cx_up_J h) (fun _ _ => rfl) (fun H locs hV hS => ?_)
  rw [rx_up] at hV
  refine lv_iload_n hx hb dR_done_5 rfl (lv_at hl 1 rfl) ?_
  refine lv_bipush (v := nI 32) hx hb dR_done_6 (by decide) ?_
  refine gx_callp (va_runS (As := [.int (nI k), .int (nI 32)]) (rest := []) ⟨hx, hb, hml, hown, ht⟩ (k_R_in l) (cwS 2 ht (mx_gS mw_543 mw_544 mw_6 mw_545) rfl rfl rfl (by decide +kernel) ⟨Nat.le_of_ble_eq_true rfl, Nat.le_of_ble_eq_true rfl⟩) (gx_preP [.int (nI k), .int (nI 32)]) rfl rfl hl.1 rfl (lv_room (Nat.le_of_ble_eq_true rfl)) dR_done_8 ⟨Nat.le_of_ble_eq_true rfl, Nat.le_of_ble_eq_true rfl⟩) hV hS (fun r1 H locs hp hV hS => ?_)
  subst hp
  refine gx_ifb_eq (q := 0 ≤ nI k ∧ nI k < nI 32) (tgt := 24) hx hb dR_done_11 (by decide) (fun h11 => ?_) (fun h11 => ?_)
  · exact absurd (cx_bl hk (by decide)) h11
  · refine lv_iload_n hx hb dR_done_14 rfl (lv_at hl 1 rfl) ?_
    refine lv_aload_n hx hb dR_done_15 rfl (lv_at hl 0 rfl) ?_
    refine gx_get (C := mR_R) (T := mT_R) (N' := 20) hx hb ht mh_R hown hV (by decide) rx_E_0 rfl 17 (by decide) (ht _ mw_489) (fun _ h => h) rfl dR_done_16 ?_
    refine lv_iconst (v := nI 3) hx hb dR_done_19 (by decide) ?_
    refine gx_ialdv (v := nI (ρ 16 3)) hx hb hV (by decide) 0 rx_E_16 rfl 3 (by decide) (by decide) rfl rfl dR_done_20 ?_
    refine gx_icmp_lt (a := k) (b := (ρ 16 3)) (tgt := 26) hx hb dR_done_21 (by decide) (by omega) (by omega) (fun h21 => ?_) (fun h21 => ?_)
    · refine lv_aload_n hx hb dR_done_26 rfl (lv_at hl 0 rfl) ?_
      refine gx_get (C := mR_R) (T := mT_R) (N' := 20) hx hb ht mh_R hown hV (by decide) rx_E_0 rfl 16 (by decide) (ht _ mw_488) (fun _ h => h) rfl dR_done_27 ?_
      refine lv_aload_n hx hb dR_done_30 rfl (lv_at hl 0 rfl) ?_
      refine gx_get (C := mR_R) (T := mT_R) (N' := 20) hx hb ht mh_R hown hV (by decide) rx_E_0 rfl 17 (by decide) (ht _ mw_489) (fun _ h => h) rfl dR_done_31 ?_
      refine lv_iconst (v := nI 3) hx hb dR_done_34 (by decide) ?_
      refine gx_ialdv (v := nI (ρ 16 3)) hx hb hV (by decide) 0 rx_E_16 rfl 3 (by decide) (by decide) rfl rfl dR_done_35 ?_
      refine lv_iconst (v := nI 1) hx hb dR_done_36 (by decide) ?_
      refine gx_isub (a := (ρ 16 3)) (b := 1) hx hb dR_done_37 (by omega) ?_
      refine lv_iload_n hx hb dR_done_38 rfl (lv_at hl 1 rfl) ?_
      refine gx_isub (a := ((ρ 16 3) - 1)) (b := k) hx hb dR_done_39 (by omega) ?_
      refine lv_bipush (v := nI 32) hx hb dR_done_40 (by decide) ?_
      refine gx_irem (a := (((ρ 16 3) - 1) - k)) (b := 32) hx hb dR_done_42 (by omega) (by omega) (by omega) ?_
      refine gx_ialdv (v := nI (ρ 15 ((ρ 16 3 - 1 - k) % 32))) hx hb hV (by decide) 0 rx_E_15 rfl ((ρ 16 3 - 1 - k) % 32) (Nat.mod_lt _ (by decide)) (by decide) rfl rfl dR_done_43 ?_
      exact gx_iret hx hb hr hV hS ⟨(if_neg (by omega)).symm, rfl⟩ dR_done_44 hlk
    · refine lv_iconst (v := -1) hx hb dR_done_24 (by decide) ?_
      exact gx_iret hx hb hr hV hS ⟨(if_pos (by omega)).symm, rfl⟩ dR_done_25 hlk

set_option maxHeartbeats 4000000 in
set_option maxRecDepth 100000 in
theorem k_R_doneB (l : Launch) {D : va_G} {K : Nat → ClassId} {ad : Nat → Nat} {ρ : Nat → Nat → Nat} {μ : Nat → Int64} {lt : Int64} {kk : Int32} (hk : ¬ (0 ≤ kk ∧ kk < nI 32)) : Met l yR_done (Cond.code yR_done prog_7_method_26_code 2 (some .int) :: mx_T) { frames := 1, cells := 0, slots := 0, locals := 21 } (va_Pc [.ref (ad 0), .int kk] (rx_P D K ad (mq_n ρ) (rx_t μ lt))) (rx_Qi D K ad (fun rr u => rr = -1 ∧ u = (mq_n (mq_up ρ 0 0 0), rx_t μ lt))) 0 0 (gx_A ad 17) := by
  refine gx_met (by decide) rfl (Nat.le_of_ble_eq_true rfl) ?_
  intro pg ev s mid as below mth c ls hx hb hr hml ht hown hlk hnm hargs hB hl
  obtain ⟨hV, hZ⟩ := hB
  have hS : va_S (gx_A ad 17) s.heap s.heap [] := va_S.rf
  have hl : lv_has ls 2 [(0, .ref (ad 0)), (1, .int kk)] := hl
  refine lv_aload_n hx hb dR_done_0 rfl (lv_at hl 0 rfl) ?_
  refine lv_iconst (v := nI 0) hx hb dR_done_1 (by decide) ?_
  refine gx_put rx_loc (C := mR_R) (T := mT_R) (N' := 20) (ty := .int) (v := .int (nI 0)) hx hb ht mh_R mt_R mk_R mn_R hown hV hS (by decide) rx_E_0 rfl 0 (by decide) (ht _ mw_472) (fun _ h => h) rfl (by decide +kernel) rfl rfl (Nat.le_of_ble_eq_true rfl) dR_done_2 (cx_up (mq_n ρ) 0 0 (nI 0)) (rx_t μ lt) (by rw [rx_E_0]; simp [cx_up]) (fun _ h => cx_up_J h) (fun _ _ => rfl) (fun H locs hV hS => ?_)
  rw [rx_up] at hV
  refine lv_iload_n hx hb dR_done_5 rfl (lv_at hl 1 rfl) ?_
  refine lv_bipush (v := nI 32) hx hb dR_done_6 (by decide) ?_
  refine gx_callp (va_runS (As := [.int kk, .int (nI 32)]) (rest := []) ⟨hx, hb, hml, hown, ht⟩ (k_R_in l) (cwS 2 ht (mx_gS mw_543 mw_544 mw_6 mw_545) rfl rfl rfl (by decide +kernel) ⟨Nat.le_of_ble_eq_true rfl, Nat.le_of_ble_eq_true rfl⟩) (gx_preP [.int kk, .int (nI 32)]) rfl rfl hl.1 rfl (lv_room (Nat.le_of_ble_eq_true rfl)) dR_done_8 ⟨Nat.le_of_ble_eq_true rfl, Nat.le_of_ble_eq_true rfl⟩) hV hS (fun r1 H locs hp hV hS => ?_)
  subst hp
  refine gx_ifb_eq (q := 0 ≤ kk ∧ kk < nI 32) (tgt := 24) hx hb dR_done_11 (by decide) (fun h11 => ?_) (fun h11 => ?_)
  · refine lv_iconst (v := -1) hx hb dR_done_24 (by decide) ?_
    exact gx_iret hx hb hr hV hS ⟨rfl, rfl⟩ dR_done_25 hlk
  · exact absurd h11 hk

set_option maxHeartbeats 4000000 in
set_option maxRecDepth 100000 in
theorem k_R_count (l : Launch) {D : va_G} {K : Nat → ClassId} {ad : Nat → Nat} {ρ : Nat → Nat → Nat} {μ : Nat → Int64} {lt : Int64} {k : Nat} (hk : k < 8) : Met l yR_count (Cond.code yR_count prog_7_method_27_code 2 (some .int) :: mx_T) { frames := 1, cells := 0, slots := 0, locals := 21 } (va_Pc [.ref (ad 0), .int (nI k)] (rx_P D K ad (mq_n ρ) (rx_t μ lt))) (rx_Qi D K ad (fun rr u => rr = nI (ρ 16 k) ∧ u = (mq_n (mq_up ρ 0 0 0), rx_t μ lt))) 0 0 (gx_A ad 17) := by
  refine gx_met (by decide) rfl (Nat.le_of_ble_eq_true rfl) ?_
  intro pg ev s mid as below mth c ls hx hb hr hml ht hown hlk hnm hargs hB hl
  obtain ⟨hV, hZ⟩ := hB
  have hS : va_S (gx_A ad 17) s.heap s.heap [] := va_S.rf
  have hl : lv_has ls 2 [(0, .ref (ad 0)), (1, .int (nI k))] := hl
  refine lv_aload_n hx hb dR_count_0 rfl (lv_at hl 0 rfl) ?_
  refine lv_iconst (v := nI 0) hx hb dR_count_1 (by decide) ?_
  refine gx_put rx_loc (C := mR_R) (T := mT_R) (N' := 20) (ty := .int) (v := .int (nI 0)) hx hb ht mh_R mt_R mk_R mn_R hown hV hS (by decide) rx_E_0 rfl 0 (by decide) (ht _ mw_472) (fun _ h => h) rfl (by decide +kernel) rfl rfl (Nat.le_of_ble_eq_true rfl) dR_count_2 (cx_up (mq_n ρ) 0 0 (nI 0)) (rx_t μ lt) (by rw [rx_E_0]; simp [cx_up]) (fun _ h => cx_up_J h) (fun _ _ => rfl) (fun H locs hV hS => ?_)
  rw [rx_up] at hV
  refine lv_iload_n hx hb dR_count_5 rfl (lv_at hl 1 rfl) ?_
  refine lv_bipush (v := nI 8) hx hb dR_count_6 (by decide) ?_
  refine gx_callp (va_runS (As := [.int (nI k), .int (nI 8)]) (rest := []) ⟨hx, hb, hml, hown, ht⟩ (k_R_in l) (cwS 2 ht (mx_gS mw_543 mw_544 mw_6 mw_545) rfl rfl rfl (by decide +kernel) ⟨Nat.le_of_ble_eq_true rfl, Nat.le_of_ble_eq_true rfl⟩) (gx_preP [.int (nI k), .int (nI 8)]) rfl rfl hl.1 rfl (lv_room (Nat.le_of_ble_eq_true rfl)) dR_count_8 ⟨Nat.le_of_ble_eq_true rfl, Nat.le_of_ble_eq_true rfl⟩) hV hS (fun r1 H locs hp hV hS => ?_)
  subst hp
  refine gx_ifb_eq (q := 0 ≤ nI k ∧ nI k < nI 8) (tgt := 23) hx hb dR_count_11 (by decide) (fun h11 => ?_) (fun h11 => ?_)
  · exact absurd (cx_bl hk (by decide)) h11
  · refine lv_aload_n hx hb dR_count_14 rfl (lv_at hl 0 rfl) ?_
    refine gx_get (C := mR_R) (T := mT_R) (N' := 20) hx hb ht mh_R hown hV (by decide) rx_E_0 rfl 17 (by decide) (ht _ mw_489) (fun _ h => h) rfl dR_count_15 ?_
    refine lv_iload_n hx hb dR_count_18 rfl (lv_at hl 1 rfl) ?_
    refine gx_ialdv (v := nI (ρ 16 k)) hx hb hV (by decide) 0 rx_E_16 rfl k hk (by decide) rfl rfl dR_count_19 ?_
    refine lv_goto (tgt := 24) hx hb dR_count_20 (by decide) ?_
    exact gx_iret hx hb hr hV hS ⟨rfl, rfl⟩ dR_count_24 hlk

set_option maxHeartbeats 4000000 in
set_option maxRecDepth 100000 in
theorem k_R_countB (l : Launch) {D : va_G} {K : Nat → ClassId} {ad : Nat → Nat} {ρ : Nat → Nat → Nat} {μ : Nat → Int64} {lt : Int64} {kk : Int32} (hk : ¬ (0 ≤ kk ∧ kk < nI 8)) : Met l yR_count (Cond.code yR_count prog_7_method_27_code 2 (some .int) :: mx_T) { frames := 1, cells := 0, slots := 0, locals := 21 } (va_Pc [.ref (ad 0), .int kk] (rx_P D K ad (mq_n ρ) (rx_t μ lt))) (rx_Qi D K ad (fun rr u => rr = -1 ∧ u = (mq_n (mq_up ρ 0 0 0), rx_t μ lt))) 0 0 (gx_A ad 17) := by
  refine gx_met (by decide) rfl (Nat.le_of_ble_eq_true rfl) ?_
  intro pg ev s mid as below mth c ls hx hb hr hml ht hown hlk hnm hargs hB hl
  obtain ⟨hV, hZ⟩ := hB
  have hS : va_S (gx_A ad 17) s.heap s.heap [] := va_S.rf
  have hl : lv_has ls 2 [(0, .ref (ad 0)), (1, .int kk)] := hl
  refine lv_aload_n hx hb dR_count_0 rfl (lv_at hl 0 rfl) ?_
  refine lv_iconst (v := nI 0) hx hb dR_count_1 (by decide) ?_
  refine gx_put rx_loc (C := mR_R) (T := mT_R) (N' := 20) (ty := .int) (v := .int (nI 0)) hx hb ht mh_R mt_R mk_R mn_R hown hV hS (by decide) rx_E_0 rfl 0 (by decide) (ht _ mw_472) (fun _ h => h) rfl (by decide +kernel) rfl rfl (Nat.le_of_ble_eq_true rfl) dR_count_2 (cx_up (mq_n ρ) 0 0 (nI 0)) (rx_t μ lt) (by rw [rx_E_0]; simp [cx_up]) (fun _ h => cx_up_J h) (fun _ _ => rfl) (fun H locs hV hS => ?_)
  rw [rx_up] at hV
  refine lv_iload_n hx hb dR_count_5 rfl (lv_at hl 1 rfl) ?_
  refine lv_bipush (v := nI 8) hx hb dR_count_6 (by decide) ?_
  refine gx_callp (va_runS (As := [.int kk, .int (nI 8)]) (rest := []) ⟨hx, hb, hml, hown, ht⟩ (k_R_in l) (cwS 2 ht (mx_gS mw_543 mw_544 mw_6 mw_545) rfl rfl rfl (by decide +kernel) ⟨Nat.le_of_ble_eq_true rfl, Nat.le_of_ble_eq_true rfl⟩) (gx_preP [.int kk, .int (nI 8)]) rfl rfl hl.1 rfl (lv_room (Nat.le_of_ble_eq_true rfl)) dR_count_8 ⟨Nat.le_of_ble_eq_true rfl, Nat.le_of_ble_eq_true rfl⟩) hV hS (fun r1 H locs hp hV hS => ?_)
  subst hp
  refine gx_ifb_eq (q := 0 ≤ kk ∧ kk < nI 8) (tgt := 23) hx hb dR_count_11 (by decide) (fun h11 => ?_) (fun h11 => ?_)
  · refine lv_iconst (v := -1) hx hb dR_count_23 (by decide) ?_
    exact gx_iret hx hb hr hV hS ⟨rfl, rfl⟩ dR_count_24 hlk
  · exact absurd h11 hk
