/-! the crossbar's calls that only ask -/
theorem cx_tb {w n : Nat} (h : w < n) (hn : n < 2 ^ 31) : ¬ (nI w).toInt < 0 := by
  rw [nI_toInt (by omega)]
  omega

set_option maxHeartbeats 4000000 in
set_option maxRecDepth 100000 in
theorem k_X_port (l : Launch) {D : va_G} {K : Nat → ClassId} {ad : Nat → Nat} {σ : Nat → Nat → Int32} {τ : Nat → Nat → Int64} {p w : Nat} (hp0 : p < 4) (hw : w < 5) {ρ : Nat → Nat → Nat} {μ : Nat → Int64} {lt : Int64} {pl : Nat → Nat → List Nat} (hR : rr_R σ τ ρ μ lt pl) : Met l yX_port (Cond.code yX_port prog_1_method_7_code 4 (some .int) :: mx_T) { frames := 1, cells := 0, slots := 0, locals := 22 } (va_Pc [.ref (ad 0), .int (nI p), .int (nI w)] (cx_P D K ad σ τ)) (cx_Qi D K ad (fun rr u => rr = (match w with | 0 => nI (pl 2 (3 + p)).length | 1 => (if (pl 3 (3 + p)).length = 0 then -1 else nI (ρ 12 p)) | 2 => nI (pl 4 (3 + p)).length | 3 => nI (mq_cnt (fun q => decide (σ (23 + 6 * p) q ≠ -1)) 4) | _ => nI (ρ 13 p)) ∧ u = (σ, τ))) 0 0 (gx_A ad 70) := by
  refine gx_met (by decide) rfl (Nat.le_of_ble_eq_true rfl) ?_
  intro pg ev s mid as below mth c ls hx hb hr hml ht hown hlk hnm hargs hB hl
  obtain ⟨hV, hZ⟩ := hB
  have hS : va_S (gx_A ad 70) s.heap s.heap [] := va_S.rf
  have hl : lv_has ls 4 [(0, .ref (ad 0)), (1, .int (nI p)), (2, .int (nI w))] := hl
  have hR0 := hR
  obtain ⟨hL, hP, hJ, hM, hO, hG, hBB, hT⟩ := hR
  obtain ⟨j1, j2, j3, j4, j5, j6, -⟩ := hJ p hp0
  have hq2 := hL 2 (3 + p) (Or.inr ⟨by simp, by omega, by omega⟩) (by omega)
  have hq4 := hL 4 (3 + p) (Or.inr ⟨by simp, by omega, by omega⟩) (by omega)
  rw [show rr_ln 2 (3 + p) = 19 + 6 * p by simp [rr_ln]] at hq2
  rw [show rr_ln 4 (3 + p) = 21 + 6 * p by simp [rr_ln]] at hq4
  refine lv_iload_n hx hb dX_port_0 rfl (lv_at hl 1 rfl) ?_
  refine lv_iconst (v := nI 4) hx hb dX_port_1 (by decide) ?_
  refine gx_callp (va_runS (As := [.int (nI p), .int (nI 4)]) (rest := []) ⟨hx, hb, hml, hown, ht⟩ (k_X_isBelow l) (cwS 2 ht (mx_gS mw_160 mw_161 mw_1 mw_162) rfl rfl rfl (by decide +kernel) ⟨Nat.le_of_ble_eq_true rfl, Nat.le_of_ble_eq_true rfl⟩) (gx_preP [.int (nI p), .int (nI 4)]) rfl rfl hl.1 rfl (lv_room (Nat.le_of_ble_eq_true rfl)) dX_port_2 ⟨Nat.le_of_ble_eq_true rfl, Nat.le_of_ble_eq_true rfl⟩) hV hS (fun r1 H locs hp hV hS => ?_)
  subst hp
  refine gx_ifb_ne (q := 0 ≤ nI p ∧ nI p < nI 4) (tgt := 16) hx hb dX_port_5 (by decide) (fun h5 => ?_) (fun h5 => ?_)
  · refine lv_aload_n hx hb dX_port_16 rfl (lv_at hl 0 rfl) ?_
    refine gx_get (C := mR_X) (T := mT_X) (N' := 7) hx hb ht mh_X hown hV (by decide) cx_E_X rfl 1 (by decide) (ht _ mw_130) (fun _ h => h) rfl dX_port_17 ?_
    refine lv_iload_n hx hb dX_port_20 rfl (lv_at hl 1 rfl) ?_
    refine gx_aald hx hb hV (by decide) 5 cx_E_Ps rfl p hp0 (by decide) rfl rfl dX_port_21 ?_
    refine lv_astore_n (lv' := [(3, .ref (ad (18 + 6 * p))), (0, .ref (ad 0)), (1, .int (nI p)), (2, .int (nI w))]) hx hb dX_port_22 rfl hl (by decide) rfl (fun ls hl => ?_)
    refine lv_iload_n hx hb dX_port_23 rfl (lv_at hl 3 rfl) ?_
    rcases (show w = 0 ∨ w = 1 ∨ w = 2 ∨ w = 3 ∨ w = 4 by omega) with rfl | rfl | rfl | rfl | rfl
    · refine lv_tableIn (off := 36) (tgt := 60) hx hb dX_port_24 (by decide) (by decide) rfl (by decide) ?_
      refine lv_aload_n hx hb dX_port_60 rfl (lv_at hl 0 rfl) ?_
      refine gx_get (C := mR_P) (T := mT_P) (N' := 7) hx hb ht mh_P hown hV (show 18 + 6 * p < 70 by omega) (cx_E_P hp0) rfl 0 (by decide) (ht _ mw_75) (fun _ h => h) rfl dX_port_61 ?_
      refine gx_get (C := mR_L) (T := mT_L) (N' := 2) (v := .int (nI (pl 2 (3 + p)).length)) hx hb ht mh_L hown hV ((cx_isL_Q hp0)).lt.1 (cx_E_L (cx_isL_Q hp0)).1 rfl 1 (by decide) (ht _ mw_36) (fun _ h => h) (congrArg (fun z => some (Value.int z)) hq2.1.1) dX_port_64 ?_
      exact gx_iret hx hb hr hV hS ⟨rfl, rfl⟩ dX_port_67 hlk
    · refine lv_tableIn (off := 44) (tgt := 68) hx hb dX_port_24 (by decide) (by decide) rfl (by decide) ?_
      rcases mq_nc (pl 3 (3 + p)) with hh | ⟨x, t, hh⟩
      · have hjn : σ (18 + 6 * p) 3 = -1 := by rw [j2, hh]; rfl
        refine lv_aload_n hx hb dX_port_68 rfl (lv_at hl 0 rfl) ?_
        refine gx_get (C := mR_P) (T := mT_P) (N' := 7) hx hb ht mh_P hown hV (show 18 + 6 * p < 70 by omega) (cx_E_P hp0) rfl 3 (by decide) (ht _ mw_81) (fun _ h => h) rfl dX_port_69 ?_
        refine lv_iconst (v := -1) hx hb dX_port_72 (by decide) ?_
        refine lv_icmp_ne (tgt := 80) hx hb dX_port_73 (by decide) (fun h73 => ?_) (fun h73 => ?_)
        · exact absurd hjn h73
        · refine lv_iconst (v := -1) hx hb dX_port_76 (by decide) ?_
          refine lv_goto (tgt := 84) hx hb dX_port_77 (by decide) ?_
          exact gx_iret hx hb hr hV hS ⟨by rw [hh]; rfl, rfl⟩ dX_port_84 hlk
      · have hx24 := (hP.mem (w := 3) (g := 3 + p) (Or.inr ⟨by simp, by omega, by omega⟩) (x := x) (by rw [hh]; simp)).1
        have hjs : σ (18 + 6 * p) 3 = nI x := by rw [j2, hh]; rfl
        refine lv_aload_n hx hb dX_port_68 rfl (lv_at hl 0 rfl) ?_
        refine gx_get (C := mR_P) (T := mT_P) (N' := 7) hx hb ht mh_P hown hV (show 18 + 6 * p < 70 by omega) (cx_E_P hp0) rfl 3 (by decide) (ht _ mw_81) (fun _ h => h) rfl dX_port_69 ?_
        refine lv_iconst (v := -1) hx hb dX_port_72 (by decide) ?_
        refine lv_icmp_ne (tgt := 80) hx hb dX_port_73 (by decide) (fun h73 => ?_) (fun h73 => ?_)
        · refine lv_aload_n hx hb dX_port_80 rfl (lv_at hl 0 rfl) ?_
          refine gx_get (C := mR_P) (T := mT_P) (N' := 7) (v := .int (nI (ρ 12 p))) hx hb ht mh_P hown hV (show 18 + 6 * p < 70 by omega) (cx_E_P hp0) rfl 4 (by decide) (ht _ mw_83) (fun _ h => h) (congrArg (fun z => some (Value.int z)) j3) dX_port_81 ?_
          exact gx_iret hx hb hr hV hS ⟨by rw [hh]; rfl, rfl⟩ dX_port_84 hlk
        · exact absurd (hjs.symm.trans h73) (rr_m1 hx24)
    · refine lv_tableIn (off := 61) (tgt := 85) hx hb dX_port_24 (by decide) (by decide) rfl (by decide) ?_
      refine lv_aload_n hx hb dX_port_85 rfl (lv_at hl 0 rfl) ?_
      refine gx_get (C := mR_P) (T := mT_P) (N' := 7) hx hb ht mh_P hown hV (show 18 + 6 * p < 70 by omega) (cx_E_P hp0) rfl 1 (by decide) (ht _ mw_77) (fun _ h => h) rfl dX_port_86 ?_
      refine gx_get (C := mR_L) (T := mT_L) (N' := 2) (v := .int (nI (pl 4 (3 + p)).length)) hx hb ht mh_L hown hV ((cx_isL_A hp0)).lt.1 (cx_E_L (cx_isL_A hp0)).1 rfl 1 (by decide) (ht _ mw_36) (fun _ h => h) (congrArg (fun z => some (Value.int z)) hq4.1.1) dX_port_89 ?_
      exact gx_iret hx hb hr hV hS ⟨rfl, rfl⟩ dX_port_92 hlk
    · refine lv_tableIn (off := 69) (tgt := 93) hx hb dX_port_24 (by decide) (by decide) rfl (by decide) ?_
      refine lv_aload_n hx hb dX_port_93 rfl (lv_at hl 0 rfl) ?_
      refine gx_calli (va_runV (As := []) (rest := []) ⟨hx, hb, hml, hown, ht⟩ (k_P_idsInUse l hp0) (cwV 0 ht (mx_gV (C := "MessageCrossbar$Port") mw_444 mw_386 mw_387 mw_4 mw_388) rfl rfl rfl (by decide +kernel) ⟨Nat.le_of_ble_eq_true rfl, Nat.le_of_ble_eq_true rfl⟩) (gx_preV cx_ok hV hZ hS (q := (mR_P, mT_P, 7)) (show 18 + 6 * p < 70 by omega) (cx_E_P hp0) rfl []) rfl rfl hl.1 rfl (lv_room (Nat.le_of_ble_eq_true rfl)) dX_port_94 ⟨Nat.le_of_ble_eq_true rfl, Nat.le_of_ble_eq_true rfl⟩) hV hS (fun r2 σ' τ' H locs hp hV hS => ?_)
      obtain ⟨rfl, hu⟩ := hp
      cases hu
      exact gx_iret hx hb hr hV hS ⟨rfl, rfl⟩ dX_port_97 hlk
    · refine lv_tableIn (off := 74) (tgt := 98) hx hb dX_port_24 (by decide) (by decide) rfl (by decide) ?_
      refine lv_aload_n hx hb dX_port_98 rfl (lv_at hl 0 rfl) ?_
      refine gx_get (C := mR_P) (T := mT_P) (N' := 7) (v := .int (nI (ρ 13 p))) hx hb ht mh_P hown hV (show 18 + 6 * p < 70 by omega) (cx_E_P hp0) rfl 5 (by decide) (ht _ mw_85) (fun _ h => h) (congrArg (fun z => some (Value.int z)) j6) dX_port_99 ?_
      exact gx_iret hx hb hr hV hS ⟨rfl, rfl⟩ dX_port_102 hlk
  · exact absurd (cx_bl hp0 (by decide)) h5

set_option maxHeartbeats 4000000 in
set_option maxRecDepth 100000 in
theorem k_X_owner (l : Launch) {D : va_G} {K : Nat → ClassId} {ad : Nat → Nat} {σ : Nat → Nat → Int32} {τ : Nat → Nat → Int64} {p i : Nat} (hp0 : p < 4) (hi : i < 4) {ρ : Nat → Nat → Nat} {μ : Nat → Int64} {lt : Int64} {pl : Nat → Nat → List Nat} (hR : rr_R σ τ ρ μ lt pl) : Met l yX_owner (Cond.code yX_owner prog_1_method_8_code 3 (some .int) :: mx_T) { frames := 1, cells := 0, slots := 0, locals := 21 } (va_Pc [.ref (ad 0), .int (nI p), .int (nI i)] (cx_P D K ad σ τ)) (cx_Qi D K ad (fun rr u => rr = mq_oI (mq_holder ρ p i) ∧ u = (σ, τ))) 0 0 (gx_A ad 70) := by
  refine gx_met (by decide) rfl (Nat.le_of_ble_eq_true rfl) ?_
  intro pg ev s mid as below mth c ls hx hb hr hml ht hown hlk hnm hargs hB hl
  obtain ⟨hV, hZ⟩ := hB
  have hS : va_S (gx_A ad 70) s.heap s.heap [] := va_S.rf
  have hl : lv_has ls 3 [(0, .ref (ad 0)), (1, .int (nI p)), (2, .int (nI i))] := hl
  refine lv_iload_n hx hb dX_owner_0 rfl (lv_at hl 1 rfl) ?_
  refine lv_iconst (v := nI 4) hx hb dX_owner_1 (by decide) ?_
  refine gx_callp (va_runS (As := [.int (nI p), .int (nI 4)]) (rest := []) ⟨hx, hb, hml, hown, ht⟩ (k_X_isBelow l) (cwS 2 ht (mx_gS mw_160 mw_161 mw_1 mw_162) rfl rfl rfl (by decide +kernel) ⟨Nat.le_of_ble_eq_true rfl, Nat.le_of_ble_eq_true rfl⟩) (gx_preP [.int (nI p), .int (nI 4)]) rfl rfl hl.1 rfl (lv_room (Nat.le_of_ble_eq_true rfl)) dX_owner_2 ⟨Nat.le_of_ble_eq_true rfl, Nat.le_of_ble_eq_true rfl⟩) hV hS (fun r1 H locs hp hV hS => ?_)
  subst hp
  refine gx_ifb_eq (q := 0 ≤ nI p ∧ nI p < nI 4) (tgt := 16) hx hb dX_owner_5 (by decide) (fun h5 => ?_) (fun h5 => ?_)
  · exact absurd (cx_bl hp0 (by decide)) h5
  · refine lv_iload_n hx hb dX_owner_8 rfl (lv_at hl 2 rfl) ?_
    refine lv_iconst (v := nI 4) hx hb dX_owner_9 (by decide) ?_
    refine gx_callp (va_runS (As := [.int (nI i), .int (nI 4)]) (rest := []) ⟨hx, hb, hml, hown, ht⟩ (k_X_isBelow l) (cwS 2 ht (mx_gS mw_160 mw_161 mw_1 mw_162) rfl rfl rfl (by decide +kernel) ⟨Nat.le_of_ble_eq_true rfl, Nat.le_of_ble_eq_true rfl⟩) (gx_preP [.int (nI i), .int (nI 4)]) rfl rfl hl.1 rfl (lv_room (Nat.le_of_ble_eq_true rfl)) dX_owner_10 ⟨Nat.le_of_ble_eq_true rfl, Nat.le_of_ble_eq_true rfl⟩) hV hS (fun r2 H locs hp hV hS => ?_)
    subst hp
    refine gx_ifb_ne (q := 0 ≤ nI i ∧ nI i < nI 4) (tgt := 24) hx hb dX_owner_13 (by decide) (fun h13 => ?_) (fun h13 => ?_)
    · refine lv_aload_n hx hb dX_owner_24 rfl (lv_at hl 0 rfl) ?_
      refine gx_get (C := mR_X) (T := mT_X) (N' := 7) hx hb ht mh_X hown hV (by decide) cx_E_X rfl 1 (by decide) (ht _ mw_130) (fun _ h => h) rfl dX_owner_25 ?_
      refine lv_iload_n hx hb dX_owner_28 rfl (lv_at hl 1 rfl) ?_
      refine gx_aald hx hb hV (by decide) 5 cx_E_Ps rfl p hp0 (by decide) rfl rfl dX_owner_29 ?_
      refine gx_get (C := mR_P) (T := mT_P) (N' := 7) hx hb ht mh_P hown hV (show 18 + 6 * p < 70 by omega) (cx_E_P hp0) rfl 2 (by decide) (ht _ mw_79) (fun _ h => h) rfl dX_owner_30 ?_
      refine lv_iload_n hx hb dX_owner_33 rfl (lv_at hl 2 rfl) ?_
      refine gx_ialdv (v := mq_oI (mq_holder ρ p i)) hx hb hV (show 23 + 6 * p < 70 by omega) 0 (cx_E_O hp0) rfl i hi (by decide) rfl (hR.own hp0 hi) dX_owner_34 ?_
      exact gx_iret hx hb hr hV hS ⟨rfl, rfl⟩ dX_owner_35 hlk
    · exact absurd (cx_bl hi (by decide)) h13

set_option maxHeartbeats 4000000 in
set_option maxRecDepth 100000 in
theorem k_X_master (l : Launch) {D : va_G} {K : Nat → ClassId} {ad : Nat → Nat} {σ : Nat → Nat → Int32} {τ : Nat → Nat → Int64} {m w : Nat} (hm : m < 3) (hw : w < 4) {ρ : Nat → Nat → Nat} {μ : Nat → Int64} {lt : Int64} {pl : Nat → Nat → List Nat} (hR : rr_R σ τ ρ μ lt pl) : Met l yX_master (Cond.code yX_master prog_1_method_9_code 4 (some .int) :: mx_T) { frames := 1, cells := 0, slots := 0, locals := 21 } (va_Pc [.ref (ad 0), .int (nI m), .int (nI w)] (cx_P D K ad σ τ)) (cx_Qi D K ad (fun rr u => rr = (match w with | 0 => nI (pl 1 m).length | 1 => nI (pl 5 m).length | 2 => σ (2 + 5 * m) 2 | _ => nI (1 - ρ 9 m)) ∧ u = (σ, τ))) 0 0 (gx_A ad 70) := by
  refine gx_met (by decide) rfl (Nat.le_of_ble_eq_true rfl) ?_
  intro pg ev s mid as below mth c ls hx hb hr hml ht hown hlk hnm hargs hB hl
  obtain ⟨hV, hZ⟩ := hB
  have hS : va_S (gx_A ad 70) s.heap s.heap [] := va_S.rf
  have hl : lv_has ls 4 [(0, .ref (ad 0)), (1, .int (nI m)), (2, .int (nI w))] := hl
  have hR0 := hR
  obtain ⟨hL, hP, hJ, hM, hO, hG, hBB, hT⟩ := hR
  obtain ⟨-, ⟨h9a, h9b⟩, -⟩ := hM m hm
  have hq1 := hL 1 m (Or.inl ⟨by simp, by omega⟩) (by omega)
  have hq5 := hL 5 m (Or.inl ⟨by simp, by omega⟩) (by omega)
  rw [show rr_ln 1 m = 3 + 5 * m by simp [rr_ln]] at hq1
  rw [show rr_ln 5 m = 5 + 5 * m by simp [rr_ln]] at hq5
  refine lv_iload_n hx hb dX_master_0 rfl (lv_at hl 1 rfl) ?_
  refine lv_iconst (v := nI 3) hx hb dX_master_1 (by decide) ?_
  refine gx_callp (va_runS (As := [.int (nI m), .int (nI 3)]) (rest := []) ⟨hx, hb, hml, hown, ht⟩ (k_X_isBelow l) (cwS 2 ht (mx_gS mw_160 mw_161 mw_1 mw_162) rfl rfl rfl (by decide +kernel) ⟨Nat.le_of_ble_eq_true rfl, Nat.le_of_ble_eq_true rfl⟩) (gx_preP [.int (nI m), .int (nI 3)]) rfl rfl hl.1 rfl (lv_room (Nat.le_of_ble_eq_true rfl)) dX_master_2 ⟨Nat.le_of_ble_eq_true rfl, Nat.le_of_ble_eq_true rfl⟩) hV hS (fun r1 H locs hp hV hS => ?_)
  subst hp
  refine gx_ifb_ne (q := 0 ≤ nI m ∧ nI m < nI 3) (tgt := 16) hx hb dX_master_5 (by decide) (fun h5 => ?_) (fun h5 => ?_)
  · refine lv_aload_n hx hb dX_master_16 rfl (lv_at hl 0 rfl) ?_
    refine gx_get (C := mR_X) (T := mT_X) (N' := 7) hx hb ht mh_X hown hV (by decide) cx_E_X rfl 0 (by decide) (ht _ mw_129) (fun _ h => h) rfl dX_master_17 ?_
    refine lv_iload_n hx hb dX_master_20 rfl (lv_at hl 1 rfl) ?_
    refine gx_aald hx hb hV (by decide) 4 cx_E_Ms rfl m hm (by decide) rfl rfl dX_master_21 ?_
    refine lv_astore_n (lv' := [(3, .ref (ad (2 + 5 * m))), (0, .ref (ad 0)), (1, .int (nI m)), (2, .int (nI w))]) hx hb dX_master_22 rfl hl (by decide) rfl (fun ls hl => ?_)
    refine lv_iload_n hx hb dX_master_23 rfl (lv_at hl 3 rfl) ?_
    rcases (show w = 0 ∨ w = 1 ∨ w = 2 ∨ w = 3 by omega) with rfl | rfl | rfl | rfl
    · refine lv_tableIn (off := 32) (tgt := 56) hx hb dX_master_24 (by decide) (by decide) rfl (by decide) ?_
      refine lv_aload_n hx hb dX_master_56 rfl (lv_at hl 0 rfl) ?_
      refine gx_get (C := mR_M) (T := mT_M) (N' := 5) hx hb ht mh_M hown hV (show 2 + 5 * m < 70 by omega) (cx_E_M hm) rfl 0 (by decide) (ht _ mw_45) (fun _ h => h) rfl dX_master_57 ?_
      refine gx_get (C := mR_L) (T := mT_L) (N' := 2) (v := .int (nI (pl 1 m).length)) hx hb ht mh_L hown hV ((cx_isL_W hm)).lt.1 (cx_E_L (cx_isL_W hm)).1 rfl 1 (by decide) (ht _ mw_36) (fun _ h => h) (congrArg (fun z => some (Value.int z)) hq1.1.1) dX_master_60 ?_
      exact gx_iret hx hb hr hV hS ⟨rfl, rfl⟩ dX_master_63 hlk
    · refine lv_tableIn (off := 40) (tgt := 64) hx hb dX_master_24 (by decide) (by decide) rfl (by decide) ?_
      refine lv_aload_n hx hb dX_master_64 rfl (lv_at hl 0 rfl) ?_
      refine gx_get (C := mR_M) (T := mT_M) (N' := 5) hx hb ht mh_M hown hV (show 2 + 5 * m < 70 by omega) (cx_E_M hm) rfl 1 (by decide) (ht _ mw_47) (fun _ h => h) rfl dX_master_65 ?_
      refine gx_get (C := mR_L) (T := mT_L) (N' := 2) (v := .int (nI (pl 5 m).length)) hx hb ht mh_L hown hV ((cx_isL_B hm)).lt.1 (cx_E_L (cx_isL_B hm)).1 rfl 1 (by decide) (ht _ mw_36) (fun _ h => h) (congrArg (fun z => some (Value.int z)) hq5.1.1) dX_master_68 ?_
      exact gx_iret hx hb hr hV hS ⟨rfl, rfl⟩ dX_master_71 hlk
    · refine lv_tableIn (off := 48) (tgt := 72) hx hb dX_master_24 (by decide) (by decide) rfl (by decide) ?_
      refine lv_aload_n hx hb dX_master_72 rfl (lv_at hl 0 rfl) ?_
      refine gx_get (C := mR_M) (T := mT_M) (N' := 5) hx hb ht mh_M hown hV (show 2 + 5 * m < 70 by omega) (cx_E_M hm) rfl 2 (by decide) (ht _ mw_49) (fun _ h => h) rfl dX_master_73 ?_
      exact gx_iret hx hb hr hV hS ⟨rfl, rfl⟩ dX_master_76 hlk
    · refine lv_tableIn (off := 53) (tgt := 77) hx hb dX_master_24 (by decide) (by decide) rfl (by decide) ?_
      refine lv_aload_n hx hb dX_master_77 rfl (lv_at hl 0 rfl) ?_
      refine gx_get (C := mR_M) (T := mT_M) (N' := 5) (v := .int (nI (1 - ρ 9 m))) hx hb ht mh_M hown hV (show 2 + 5 * m < 70 by omega) (cx_E_M hm) rfl 3 (by decide) (ht _ mw_51) (fun _ h => h) (congrArg (fun z => some (Value.int z)) h9b) dX_master_78 ?_
      refine gx_if_eq (a := (1 - ρ 9 m)) (tgt := 88) hx hb dX_master_81 (by decide) (by omega) (fun h81 => ?_) (fun h81 => ?_)
      · refine lv_iconst (v := nI 0) hx hb dX_master_88 (by decide) ?_
        exact gx_iret hx hb hr hV hS ⟨by show nI 0 = nI (1 - ρ 9 m); congr 1; omega, rfl⟩ dX_master_89 hlk
      · refine lv_iconst (v := nI 1) hx hb dX_master_84 (by decide) ?_
        refine lv_goto (tgt := 89) hx hb dX_master_85 (by decide) ?_
        exact gx_iret hx hb hr hV hS ⟨by show nI 1 = nI (1 - ρ 9 m); congr 1; omega, rfl⟩ dX_master_89 hlk
  · exact absurd (cx_bl hm (by decide)) h5

set_option maxHeartbeats 4000000 in
set_option maxRecDepth 100000 in
theorem k_X_memory (l : Launch) {D : va_G} {K : Nat → ClassId} {ad : Nat → Nat} {σ : Nat → Nat → Int32} {τ : Nat → Nat → Int64} {a : Nat} (ha : a < 640) {ρ : Nat → Nat → Nat} {μ : Nat → Int64} {lt : Int64} {pl : Nat → Nat → List Nat} (hR : rr_R σ τ ρ μ lt pl) : Met l yX_memory (Cond.code yX_memory prog_1_method_10_code 2 (some .int) :: mx_T) { frames := 1, cells := 0, slots := 0, locals := 21 } (va_Pc [.ref (ad 0), .int (nI a)] (cx_P D K ad σ τ)) (cx_Qi D K ad (fun rr u => rr = nI (ρ 14 a) ∧ u = (σ, τ))) 0 0 (gx_A ad 70) := by
  refine gx_met (by decide) rfl (Nat.le_of_ble_eq_true rfl) ?_
  intro pg ev s mid as below mth c ls hx hb hr hml ht hown hlk hnm hargs hB hl
  obtain ⟨hV, hZ⟩ := hB
  have hS : va_S (gx_A ad 70) s.heap s.heap [] := va_S.rf
  have hl : lv_has ls 2 [(0, .ref (ad 0)), (1, .int (nI a))] := hl
  refine lv_iload_n hx hb dX_memory_0 rfl (lv_at hl 1 rfl) ?_
  refine lv_sipush (v := nI 640) hx hb dX_memory_1 (by decide) ?_
  refine gx_callp (va_runS (As := [.int (nI a), .int (nI 640)]) (rest := []) ⟨hx, hb, hml, hown, ht⟩ (k_X_isBelow l) (cwS 2 ht (mx_gS mw_160 mw_161 mw_1 mw_162) rfl rfl rfl (by decide +kernel) ⟨Nat.le_of_ble_eq_true rfl, Nat.le_of_ble_eq_true rfl⟩) (gx_preP [.int (nI a), .int (nI 640)]) rfl rfl hl.1 rfl (lv_room (Nat.le_of_ble_eq_true rfl)) dX_memory_4 ⟨Nat.le_of_ble_eq_true rfl, Nat.le_of_ble_eq_true rfl⟩) hV hS (fun r1 H locs hp hV hS => ?_)
  subst hp
  refine gx_ifb_ne (q := 0 ≤ nI a ∧ nI a < nI 640) (tgt := 18) hx hb dX_memory_7 (by decide) (fun h7 => ?_) (fun h7 => ?_)
  · refine lv_aload_n hx hb dX_memory_18 rfl (lv_at hl 0 rfl) ?_
    refine gx_get (C := mR_X) (T := mT_X) (N' := 7) hx hb ht mh_X hown hV (by decide) cx_E_X rfl 3 (by decide) (ht _ mw_132) (fun _ h => h) rfl dX_memory_19 ?_
    refine lv_iload_n hx hb dX_memory_22 rfl (lv_at hl 1 rfl) ?_
    refine gx_bald hx hb hV (by decide) 1 cx_E_By rfl a ha (by decide) rfl dX_memory_23 ?_
    refine lv_sipush (v := nI 255) hx hb dX_memory_24 (by decide) ?_
    refine lv_iand hx hb dX_memory_27 ?_
    refine gx_top (y := nI (ρ 14 a)) (by rw [(hR.2.2.2.2.2.2.1.1 a ha).2]; exact cx_by _ (hR.2.2.2.2.2.2.1.1 a ha).1) ?_
    exact gx_iret hx hb hr hV hS ⟨rfl, rfl⟩ dX_memory_28 hlk
  · exact absurd (cx_bl ha (by decide)) h7

set_option maxHeartbeats 4000000 in
set_option maxRecDepth 100000 in
theorem k_X_done (l : Launch) {D : va_G} {K : Nat → ClassId} {ad : Nat → Nat} {σ : Nat → Nat → Int32} {τ : Nat → Nat → Int64} {k : Nat} (hk : k < 32) {ρ : Nat → Nat → Nat} {μ : Nat → Int64} {lt : Int64} {pl : Nat → Nat → List Nat} (hR : rr_R σ τ ρ μ lt pl) (hmv : ρ 0 1 < 2 ^ 31) : Met l yX_done (Cond.code yX_done prog_1_method_11_code 2 (some .int) :: mx_T) { frames := 1, cells := 0, slots := 0, locals := 21 } (va_Pc [.ref (ad 0), .int (nI k)] (cx_P D K ad σ τ)) (cx_Qi D K ad (fun rr u => rr = (if ρ 16 3 ≤ k then -1 else nI (ρ 15 ((ρ 16 3 - 1 - k) % 32))) ∧ u = (σ, τ))) 0 0 (gx_A ad 70) := by
  refine gx_met (by decide) rfl (Nat.le_of_ble_eq_true rfl) ?_
  intro pg ev s mid as below mth c ls hx hb hr hml ht hown hlk hnm hargs hB hl
  obtain ⟨hV, hZ⟩ := hB
  have hS : va_S (gx_A ad 70) s.heap s.heap [] := va_S.rf
  have hl : lv_has ls 2 [(0, .ref (ad 0)), (1, .int (nI k))] := hl
  have hR0 := hR
  obtain ⟨hL, hP, hJ, hM, hO, hG, hBB, hT⟩ := hR
  have h163 := hBB.2.2.1 3 (by omega)
  have h164 := hBB.2.2.2
  refine lv_iload_n hx hb dX_done_0 rfl (lv_at hl 1 rfl) ?_
  refine lv_bipush (v := nI 32) hx hb dX_done_1 (by decide) ?_
  refine gx_callp (va_runS (As := [.int (nI k), .int (nI 32)]) (rest := []) ⟨hx, hb, hml, hown, ht⟩ (k_X_isBelow l) (cwS 2 ht (mx_gS mw_160 mw_161 mw_1 mw_162) rfl rfl rfl (by decide +kernel) ⟨Nat.le_of_ble_eq_true rfl, Nat.le_of_ble_eq_true rfl⟩) (gx_preP [.int (nI k), .int (nI 32)]) rfl rfl hl.1 rfl (lv_room (Nat.le_of_ble_eq_true rfl)) dX_done_3 ⟨Nat.le_of_ble_eq_true rfl, Nat.le_of_ble_eq_true rfl⟩) hV hS (fun r1 H locs hp hV hS => ?_)
  subst hp
  refine gx_ifb_eq (q := 0 ≤ nI k ∧ nI k < nI 32) (tgt := 19) hx hb dX_done_6 (by decide) (fun h6 => ?_) (fun h6 => ?_)
  · exact absurd (cx_bl hk (by decide)) h6
  · refine lv_iload_n hx hb dX_done_9 rfl (lv_at hl 1 rfl) ?_
    refine lv_aload_n hx hb dX_done_10 rfl (lv_at hl 0 rfl) ?_
    refine gx_get (C := mR_X) (T := mT_X) (N' := 7) hx hb ht mh_X hown hV (by decide) cx_E_X rfl 5 (by decide) (ht _ mw_134) (fun _ h => h) rfl dX_done_11 ?_
    refine lv_iconst (v := nI 3) hx hb dX_done_14 (by decide) ?_
    refine gx_ialdv (v := nI (ρ 16 3)) hx hb hV (by decide) 0 cx_E_Ct rfl 3 (by decide) (by decide) rfl h163 dX_done_15 ?_
    refine gx_icmp_lt (a := k) (b := (ρ 16 3)) (tgt := 21) hx hb dX_done_16 (by decide) (by omega) (by omega) (fun h16 => ?_) (fun h16 => ?_)
    · refine lv_aload_n hx hb dX_done_21 rfl (lv_at hl 0 rfl) ?_
      refine gx_get (C := mR_X) (T := mT_X) (N' := 7) hx hb ht mh_X hown hV (by decide) cx_E_X rfl 4 (by decide) (ht _ mw_133) (fun _ h => h) rfl dX_done_22 ?_
      refine lv_aload_n hx hb dX_done_25 rfl (lv_at hl 0 rfl) ?_
      refine gx_get (C := mR_X) (T := mT_X) (N' := 7) hx hb ht mh_X hown hV (by decide) cx_E_X rfl 5 (by decide) (ht _ mw_134) (fun _ h => h) rfl dX_done_26 ?_
      refine lv_iconst (v := nI 3) hx hb dX_done_29 (by decide) ?_
      refine gx_ialdv (v := nI (ρ 16 3)) hx hb hV (by decide) 0 cx_E_Ct rfl 3 (by decide) (by decide) rfl h163 dX_done_30 ?_
      refine lv_iconst (v := nI 1) hx hb dX_done_31 (by decide) ?_
      refine gx_isub (a := (ρ 16 3)) (b := 1) hx hb dX_done_32 (by omega) ?_
      refine lv_iload_n hx hb dX_done_33 rfl (lv_at hl 1 rfl) ?_
      refine gx_isub (a := ((ρ 16 3) - 1)) (b := k) hx hb dX_done_34 (by omega) ?_
      refine gx_callp (va_runS (As := [.int (nI (((ρ 16 3) - 1) - k))]) (rest := [.ref (ad 68)]) ⟨hx, hb, hml, hown, ht⟩ (k_X_logPlace l) (cwS 1 ht (mx_gS mw_163 mw_164 mw_1 mw_165) rfl rfl rfl (by decide +kernel) ⟨Nat.le_of_ble_eq_true rfl, Nat.le_of_ble_eq_true rfl⟩) (gx_preP [.int (nI (((ρ 16 3) - 1) - k))]) rfl rfl hl.1 rfl (lv_room (Nat.le_of_ble_eq_true rfl)) dX_done_35 ⟨Nat.le_of_ble_eq_true rfl, Nat.le_of_ble_eq_true rfl⟩) hV hS (fun r2 H locs hp hV hS => ?_)
      rw [cx_m32 (by omega)] at hp
      subst hp
      refine gx_ialdv (v := nI (ρ 15 ((ρ 16 3 - 1 - k) % 32))) hx hb hV (by decide) 0 cx_E_Lg rfl ((ρ 16 3 - 1 - k) % 32) (Nat.mod_lt _ (by decide)) (by decide) rfl (hBB.2.1 _ (Nat.mod_lt _ (by decide))) dX_done_38 ?_
      exact gx_iret hx hb hr hV hS ⟨(if_neg (by omega)).symm, rfl⟩ dX_done_39 hlk
    · refine lv_iconst (v := -1) hx hb dX_done_19 (by decide) ?_
      exact gx_iret hx hb hr hV hS ⟨(if_pos (by omega)).symm, rfl⟩ dX_done_20 hlk

set_option maxHeartbeats 4000000 in
set_option maxRecDepth 100000 in
theorem k_X_doneB (l : Launch) {D : va_G} {K : Nat → ClassId} {ad : Nat → Nat} {σ : Nat → Nat → Int32} {τ : Nat → Nat → Int64} {kk : Int32} (hk : ¬ (0 ≤ kk ∧ kk < nI 32)) : Met l yX_done (Cond.code yX_done prog_1_method_11_code 2 (some .int) :: mx_T) { frames := 1, cells := 0, slots := 0, locals := 21 } (va_Pc [.ref (ad 0), .int kk] (cx_P D K ad σ τ)) (cx_Qi D K ad (fun rr u => rr = -1 ∧ u = (σ, τ))) 0 0 (gx_A ad 70) := by
  refine gx_met (by decide) rfl (Nat.le_of_ble_eq_true rfl) ?_
  intro pg ev s mid as below mth c ls hx hb hr hml ht hown hlk hnm hargs hB hl
  obtain ⟨hV, hZ⟩ := hB
  have hS : va_S (gx_A ad 70) s.heap s.heap [] := va_S.rf
  have hl : lv_has ls 2 [(0, .ref (ad 0)), (1, .int kk)] := hl
  refine lv_iload_n hx hb dX_done_0 rfl (lv_at hl 1 rfl) ?_
  refine lv_bipush (v := nI 32) hx hb dX_done_1 (by decide) ?_
  refine gx_callp (va_runS (As := [.int kk, .int (nI 32)]) (rest := []) ⟨hx, hb, hml, hown, ht⟩ (k_X_isBelow l) (cwS 2 ht (mx_gS mw_160 mw_161 mw_1 mw_162) rfl rfl rfl (by decide +kernel) ⟨Nat.le_of_ble_eq_true rfl, Nat.le_of_ble_eq_true rfl⟩) (gx_preP [.int kk, .int (nI 32)]) rfl rfl hl.1 rfl (lv_room (Nat.le_of_ble_eq_true rfl)) dX_done_3 ⟨Nat.le_of_ble_eq_true rfl, Nat.le_of_ble_eq_true rfl⟩) hV hS (fun r1 H locs hp hV hS => ?_)
  subst hp
  refine gx_ifb_eq (q := 0 ≤ kk ∧ kk < nI 32) (tgt := 19) hx hb dX_done_6 (by decide) (fun h6 => ?_) (fun h6 => ?_)
  · refine lv_iconst (v := -1) hx hb dX_done_19 (by decide) ?_
    exact gx_iret hx hb hr hV hS ⟨rfl, rfl⟩ dX_done_20 hlk
  · exact absurd h6 hk

set_option maxHeartbeats 4000000 in
set_option maxRecDepth 100000 in
theorem k_X_count (l : Launch) {D : va_G} {K : Nat → ClassId} {ad : Nat → Nat} {σ : Nat → Nat → Int32} {τ : Nat → Nat → Int64} {k : Nat} (hk : k < 8) {ρ : Nat → Nat → Nat} {μ : Nat → Int64} {lt : Int64} {pl : Nat → Nat → List Nat} (hR : rr_R σ τ ρ μ lt pl) : Met l yX_count (Cond.code yX_count prog_1_method_12_code 2 (some .int) :: mx_T) { frames := 1, cells := 0, slots := 0, locals := 21 } (va_Pc [.ref (ad 0), .int (nI k)] (cx_P D K ad σ τ)) (cx_Qi D K ad (fun rr u => rr = nI (ρ 16 k) ∧ u = (σ, τ))) 0 0 (gx_A ad 70) := by
  refine gx_met (by decide) rfl (Nat.le_of_ble_eq_true rfl) ?_
  intro pg ev s mid as below mth c ls hx hb hr hml ht hown hlk hnm hargs hB hl
  obtain ⟨hV, hZ⟩ := hB
  have hS : va_S (gx_A ad 70) s.heap s.heap [] := va_S.rf
  have hl : lv_has ls 2 [(0, .ref (ad 0)), (1, .int (nI k))] := hl
  refine lv_iload_n hx hb dX_count_0 rfl (lv_at hl 1 rfl) ?_
  refine lv_bipush (v := nI 8) hx hb dX_count_1 (by decide) ?_
  refine gx_callp (va_runS (As := [.int (nI k), .int (nI 8)]) (rest := []) ⟨hx, hb, hml, hown, ht⟩ (k_X_isBelow l) (cwS 2 ht (mx_gS mw_160 mw_161 mw_1 mw_162) rfl rfl rfl (by decide +kernel) ⟨Nat.le_of_ble_eq_true rfl, Nat.le_of_ble_eq_true rfl⟩) (gx_preP [.int (nI k), .int (nI 8)]) rfl rfl hl.1 rfl (lv_room (Nat.le_of_ble_eq_true rfl)) dX_count_3 ⟨Nat.le_of_ble_eq_true rfl, Nat.le_of_ble_eq_true rfl⟩) hV hS (fun r1 H locs hp hV hS => ?_)
  subst hp
  refine gx_ifb_eq (q := 0 ≤ nI k ∧ nI k < nI 8) (tgt := 18) hx hb dX_count_6 (by decide) (fun h6 => ?_) (fun h6 => ?_)
  · exact absurd (cx_bl hk (by decide)) h6
  · refine lv_aload_n hx hb dX_count_9 rfl (lv_at hl 0 rfl) ?_
    refine gx_get (C := mR_X) (T := mT_X) (N' := 7) hx hb ht mh_X hown hV (by decide) cx_E_X rfl 5 (by decide) (ht _ mw_134) (fun _ h => h) rfl dX_count_10 ?_
    refine lv_iload_n hx hb dX_count_13 rfl (lv_at hl 1 rfl) ?_
    refine gx_ialdv (v := nI (ρ 16 k)) hx hb hV (by decide) 0 cx_E_Ct rfl k hk (by decide) rfl (hR.2.2.2.2.2.2.1.2.2.1 k hk) dX_count_14 ?_
    refine lv_goto (tgt := 19) hx hb dX_count_15 (by decide) ?_
    exact gx_iret hx hb hr hV hS ⟨rfl, rfl⟩ dX_count_19 hlk

set_option maxHeartbeats 4000000 in
set_option maxRecDepth 100000 in
theorem k_X_countB (l : Launch) {D : va_G} {K : Nat → ClassId} {ad : Nat → Nat} {σ : Nat → Nat → Int32} {τ : Nat → Nat → Int64} {kk : Int32} (hk : ¬ (0 ≤ kk ∧ kk < nI 8)) : Met l yX_count (Cond.code yX_count prog_1_method_12_code 2 (some .int) :: mx_T) { frames := 1, cells := 0, slots := 0, locals := 21 } (va_Pc [.ref (ad 0), .int kk] (cx_P D K ad σ τ)) (cx_Qi D K ad (fun rr u => rr = -1 ∧ u = (σ, τ))) 0 0 (gx_A ad 70) := by
  refine gx_met (by decide) rfl (Nat.le_of_ble_eq_true rfl) ?_
  intro pg ev s mid as below mth c ls hx hb hr hml ht hown hlk hnm hargs hB hl
  obtain ⟨hV, hZ⟩ := hB
  have hS : va_S (gx_A ad 70) s.heap s.heap [] := va_S.rf
  have hl : lv_has ls 2 [(0, .ref (ad 0)), (1, .int kk)] := hl
  refine lv_iload_n hx hb dX_count_0 rfl (lv_at hl 1 rfl) ?_
  refine lv_bipush (v := nI 8) hx hb dX_count_1 (by decide) ?_
  refine gx_callp (va_runS (As := [.int kk, .int (nI 8)]) (rest := []) ⟨hx, hb, hml, hown, ht⟩ (k_X_isBelow l) (cwS 2 ht (mx_gS mw_160 mw_161 mw_1 mw_162) rfl rfl rfl (by decide +kernel) ⟨Nat.le_of_ble_eq_true rfl, Nat.le_of_ble_eq_true rfl⟩) (gx_preP [.int kk, .int (nI 8)]) rfl rfl hl.1 rfl (lv_room (Nat.le_of_ble_eq_true rfl)) dX_count_3 ⟨Nat.le_of_ble_eq_true rfl, Nat.le_of_ble_eq_true rfl⟩) hV hS (fun r1 H locs hp hV hS => ?_)
  subst hp
  refine gx_ifb_eq (q := 0 ≤ kk ∧ kk < nI 8) (tgt := 18) hx hb dX_count_6 (by decide) (fun h6 => ?_) (fun h6 => ?_)
  · refine lv_iconst (v := -1) hx hb dX_count_18 (by decide) ?_
    exact gx_iret hx hb hr hV hS ⟨rfl, rfl⟩ dX_count_19 hlk
  · exact absurd h6 hk
