/-! the crossbar's own methods: jobs -/
theorem cx_m32 {c : Nat} (h : c < 2 ^ 31) : nI c &&& nI 31 = nI (c % 32) := pk_andN (by omega) 5 (by decide)
theorem cx_wps_w {p : Nat} (hp : p < 4) : 2 ^ cx_wps p = mq_width p ∧ cx_wps p < 32 := by
  rcases cx_4 hp with rfl | rfl | rfl | rfl <;> decide
theorem cx_dls_d {p : Nat} (hp : p < 4) : cx_dls p = mq_delay p ∧ mq_delay p ≤ 3 := by
  rcases cx_4 hp with rfl | rfl | rfl | rfl <;> decide
theorem cx_max {n : Nat} (hn : n < 2 ^ 31) : (if nI 1 < nI n then nI n else nI 1) = nI (max 1 n) := by
  by_cases h : 1 < n
  · rw [if_pos ((nI_ltI (by omega) hn).mpr h), Nat.max_eq_right (by omega)]
  · rw [if_neg (fun q => h ((nI_ltI (by omega) hn).mp q)), Nat.max_eq_left (by omega)]
theorem cx_sh2 {z w : Nat} (hz : z < 4) (hw : w < 32) : nI (2 ^ z) >>> (nI w &&& 31) = nI (2 ^ z / 2 ^ w) := pk_shrN (by have := cx_p8 hz; omega) (nI w &&& 31) w (mb_s w hw)

set_option maxHeartbeats 4000000 in
set_option maxRecDepth 100000 in
theorem k_X_finishJob (l : Launch) {D : va_G} {K : Nat → ClassId} {ad : Nat → Nat} {σ : Nat → Nat → Int32} {τ : Nat → Nat → Int64} {p na c3 : Nat} (hp0 : p < 4) {x z a : Nat} (hx2 : x < 24) (hz : σ (43 + x) 1 = nI z) (hz4 : z < 4) (ha : σ (43 + x) 2 = nI a) (ha4 : a < 1024) (hae : a < 640 → a + 2 ^ z ≤ 640) {so mk : Nat} (hso : σ (43 + x) 0 = nI so) (hso3 : so < 3) (hmk : σ (43 + x) 4 = nI mk) (hmk2 : mk < 256) {bt : Nat → Nat} (hbt : ∀ q, q < 640 → bt q < 256 ∧ σ 67 q = (nI (bt q)).toInt8.toInt32) (hjb : σ (18 + 6 * p) 3 = nI x) (hna : σ (21 + 6 * p) 1 = nI na) (hna2 : na < 2) (hc3 : σ 69 3 = nI c3) (hc31 : c3 < 2 ^ 31) : Met l yX_finishJob (Cond.code yX_finishJob prog_1_method_20_code 3 none :: mx_T) { frames := 3, cells := 0, slots := 0, locals := 67 } (va_Pc [.ref (ad 0), .int (nI p)] (cx_P D K ad σ τ)) (cx_Qv D K ad (fun u => u = (cx_fin σ p na x so mk a (2 ^ z) c3 (τ (43 + x) 0), gx_upL τ (43 + x) 0 (if 640 ≤ a then 0 else if so = 0 then lN (mq_got bt a (2 ^ z)) else 0)))) 0 0 (gx_A ad 70) := by
  refine gx_met (by decide) rfl (Nat.le_of_ble_eq_true rfl) ?_
  intro pg ev s mid as below mth c ls hx hb hr hml ht hown hlk hnm hargs hB hl
  obtain ⟨hV, hZ⟩ := hB
  have hS : va_S (gx_A ad 70) s.heap s.heap [] := va_S.rf
  have hl : lv_has ls 3 [(0, .ref (ad 0)), (1, .int (nI p))] := hl
  refine lv_aload_n hx hb dX_finishJob_0 rfl (lv_at hl 0 rfl) ?_
  refine gx_get (C := mR_X) (T := mT_X) (N' := 7) hx hb ht mh_X hown hV (by decide) cx_E_X rfl 1 (by decide) (ht _ mw_130) (fun _ h => h) rfl dX_finishJob_1 ?_
  refine lv_iload_n hx hb dX_finishJob_4 rfl (lv_at hl 1 rfl) ?_
  refine gx_aald hx hb hV (by decide) 5 cx_E_Ps rfl p hp0 (by decide) rfl rfl dX_finishJob_5 ?_
  refine gx_calli (va_runV (As := []) (rest := []) ⟨hx, hb, hml, hown, ht⟩ (k_P_finishJob l hp0 hx2 hjb hna hna2) (cwV 0 ht (mx_gV (C := "MessageCrossbar$Port") mw_329 mw_330 mw_331 mw_4 mw_332) rfl rfl rfl (by decide +kernel) ⟨Nat.le_of_ble_eq_true rfl, Nat.le_of_ble_eq_true rfl⟩) (gx_preV cx_ok hV hZ hS (q := (mR_P, mT_P, 7)) (show 18 + 6 * p < 70 by omega) (cx_E_P hp0) rfl []) rfl rfl hl.1 rfl (lv_room (Nat.le_of_ble_eq_true rfl)) dX_finishJob_6 ⟨Nat.le_of_ble_eq_true rfl, Nat.le_of_ble_eq_true rfl⟩) hV hS (fun r1 σ' τ' H locs hp hV hS => ?_)
  obtain ⟨rfl, hu⟩ := hp
  cases hu
  refine lv_istore_n (lv' := [(2, .int (nI x)), (0, .ref (ad 0)), (1, .int (nI p))]) hx hb dX_finishJob_9 rfl hl (by decide) rfl (fun ls hl => ?_)
  refine lv_iload_n hx hb dX_finishJob_10 rfl (lv_at hl 0 rfl) ?_
  refine lv_iconst (v := -1) hx hb dX_finishJob_11 (by decide) ?_
  refine lv_icmp_ne (tgt := 16) hx hb dX_finishJob_12 (by decide) (fun h12 => ?_) (fun h12 => ?_)
  · refine lv_aload_n hx hb dX_finishJob_16 rfl (lv_at hl 1 rfl) ?_
    refine lv_aload_n hx hb dX_finishJob_17 rfl (lv_at hl 1 rfl) ?_
    refine gx_get (C := mR_X) (T := mT_X) (N' := 7) hx hb ht mh_X hown hV (by decide) cx_E_X rfl 2 (by decide) (ht _ mw_131) (fun _ h => h) rfl dX_finishJob_18 ?_
    refine lv_iload_n hx hb dX_finishJob_21 rfl (lv_at hl 0 rfl) ?_
    refine gx_aald hx hb hV (by decide) 6 cx_E_Gs rfl x hx2 (by decide) rfl rfl dX_finishJob_22 ?_
    refine gx_callv (va_runV (As := [.ref (ad (43 + x))]) (rest := []) ⟨hx, hb, hml, hown, ht⟩ (k_X_carryOut l (σ := (cx_up (cx_up (cx_app σ (21 + 6 * p) na (nI x)) (18 + 6 * p) 3 (-1)) (18 + 6 * p) 5 (σ (18 + 6 * p) 5 + 1))) hx2 (by rw [cx_up_J (by omega), cx_up_J (by omega), cx_app_n (by omega) (by omega)]; exact hz) hz4 (by rw [cx_up_J (by omega), cx_up_J (by omega), cx_app_n (by omega) (by omega)]; exact ha) ha4 hae (by rw [cx_up_J (by omega), cx_up_J (by omega), cx_app_n (by omega) (by omega)]; exact hso) hso3 (by rw [cx_up_J (by omega), cx_up_J (by omega), cx_app_n (by omega) (by omega)]; exact hmk) hmk2 (fun q hq => (by rw [cx_up_J (by omega), cx_up_J (by omega), cx_app_n (by omega) (by omega)]; exact hbt q hq))) (cwV 1 ht (mx_gV (C := "MessageCrossbar") mw_334 mw_336 ms_7 mw_1 mw_337) rfl rfl rfl (by decide +kernel) ⟨Nat.le_of_ble_eq_true rfl, Nat.le_of_ble_eq_true rfl⟩) (gx_preV cx_ok hV hZ hS (q := (mR_X, mT_X, 7)) (by decide) cx_E_X rfl [.ref (ad (43 + x))]) rfl rfl hl.1 rfl (lv_room (Nat.le_of_ble_eq_true rfl)) dX_finishJob_23 ⟨Nat.le_of_ble_eq_true rfl, Nat.le_of_ble_eq_true rfl⟩) hV hS (fun σ' τ' H locs hp hV hS => ?_)
    cases hp
    refine lv_aload_n hx hb dX_finishJob_26 rfl (lv_at hl 1 rfl) ?_
    refine gx_get (C := mR_X) (T := mT_X) (N' := 7) hx hb ht mh_X hown hV (by decide) cx_E_X rfl 4 (by decide) (ht _ mw_133) (fun _ h => h) rfl dX_finishJob_27 ?_
    refine lv_aload_n hx hb dX_finishJob_30 rfl (lv_at hl 1 rfl) ?_
    refine gx_get (C := mR_X) (T := mT_X) (N' := 7) hx hb ht mh_X hown hV (by decide) cx_E_X rfl 5 (by decide) (ht _ mw_134) (fun _ h => h) rfl dX_finishJob_31 ?_
    refine lv_iconst (v := nI 3) hx hb dX_finishJob_34 (by decide) ?_
    refine gx_ialdv (v := nI c3) hx hb hV (by decide) 0 cx_E_Ct rfl 3 (by decide) (by decide) rfl (by rw [cx_car_n (by omega), cx_up_J (by omega), cx_up_J (by omega), cx_app_n (by omega) (by omega)]; exact hc3) dX_finishJob_35 ?_
    refine gx_callp (va_runS (As := [.int (nI c3)]) (rest := [.ref (ad 68)]) ⟨hx, hb, hml, hown, ht⟩ (k_X_logPlace l) (cwS 1 ht (mx_gS mw_163 mw_164 mw_1 mw_165) rfl rfl rfl (by decide +kernel) ⟨Nat.le_of_ble_eq_true rfl, Nat.le_of_ble_eq_true rfl⟩) (gx_preP [.int (nI c3)]) rfl rfl hl.1 rfl (lv_room (Nat.le_of_ble_eq_true rfl)) dX_finishJob_36 ⟨Nat.le_of_ble_eq_true rfl, Nat.le_of_ble_eq_true rfl⟩) hV hS (fun r3 H locs hp hV hS => ?_)
    rw [cx_m32 hc31] at hp
    subst hp
    refine lv_bipush (v := nI 64) hx hb dX_finishJob_39 (by decide) ?_
    refine lv_iload_n hx hb dX_finishJob_41 rfl (lv_at hl 2 rfl) ?_
    refine gx_imul (a := 64) (b := p) hx hb dX_finishJob_42 ?_
    refine lv_iload_n hx hb dX_finishJob_43 rfl (lv_at hl 0 rfl) ?_
    refine gx_iadd (a := (64 * p)) (b := x) hx hb dX_finishJob_44 ?_
    refine gx_iast cx_loc hx hb hV hS (by decide) 0 cx_E_Lg rfl (c3 % 32) (Nat.mod_lt _ (by decide)) (by decide) rfl dX_finishJob_45 (cx_up (cx_car (cx_up (cx_up (cx_app σ (21 + 6 * p) na (nI x)) (18 + 6 * p) 3 (-1)) (18 + 6 * p) 5 (σ (18 + 6 * p) 5 + 1)) so mk a (2 ^ z) (τ (43 + x) 0)) 68 (c3 % 32) (nI ((64 * p) + x))) (by rw [cx_E_Lg, cx_up_upd]) (fun _ h => cx_up_J h) (fun H locs hV hS => ?_)
    refine lv_aload_n hx hb dX_finishJob_46 rfl (lv_at hl 1 rfl) ?_
    refine gx_get (C := mR_X) (T := mT_X) (N' := 7) hx hb ht mh_X hown hV (by decide) cx_E_X rfl 5 (by decide) (ht _ mw_134) (fun _ h => h) rfl dX_finishJob_47 ?_
    refine lv_iconst (v := nI 3) hx hb dX_finishJob_50 (by decide) ?_
    refine lv_dup2_11 hx hb dX_finishJob_51 rfl rfl ?_
    refine gx_ialdv (v := σ 69 3) hx hb hV (by decide) 0 cx_E_Ct rfl 3 (by decide) (by decide) rfl (by rw [cx_up_J (by omega), cx_car_n (by omega), cx_up_J (by omega), cx_up_J (by omega), cx_app_n (by omega) (by omega)]) dX_finishJob_52 ?_
    refine lv_iconst (v := nI 1) hx hb dX_finishJob_53 (by decide) ?_
    refine lv_iadd hx hb dX_finishJob_54 ?_
    refine gx_iast cx_loc hx hb hV hS (by decide) 0 cx_E_Ct rfl 3 (by decide) (by decide) rfl dX_finishJob_55 (cx_up (cx_up (cx_car (cx_up (cx_up (cx_app σ (21 + 6 * p) na (nI x)) (18 + 6 * p) 3 (-1)) (18 + 6 * p) 5 (σ (18 + 6 * p) 5 + 1)) so mk a (2 ^ z) (τ (43 + x) 0)) 68 (c3 % 32) (nI ((64 * p) + x))) 69 3 (σ 69 3 + (nI 1))) (by rw [cx_E_Ct, cx_up_upd]) (fun _ h => cx_up_J h) (fun H locs hV hS => ?_)
    exact gx_vret hx hb hr hV hS rfl dX_finishJob_56 hlk
  · exact absurd h12 (rr_m1 hx2)

set_option maxHeartbeats 4000000 in
set_option maxRecDepth 100000 in
theorem k_X_beginJob (l : Launch) {D : va_G} {K : Nat → ClassId} {ad : Nat → Nat} {σ : Nat → Nat → Int32} {τ : Nat → Nat → Int64} {p x z : Nat} {t : List Nat} (hp0 : p < 4) (hx2 : x < 24) (hz : σ (43 + x) 1 = nI z) (hz4 : z < 4) (hA : cx_ln σ (19 + 6 * p) (x :: t)) (hl2 : t.length + 1 ≤ 2) : Met l yX_beginJob (Cond.code yX_beginJob prog_1_method_21_code 3 none :: mx_T) { frames := 1, cells := 0, slots := 0, locals := 40 } (va_Pc [.ref (ad 0), .int (nI p)] (cx_P D K ad σ τ)) (cx_Qv D K ad (fun u => u = (cx_beg σ p t.length x (mq_delay p + max 1 (2 ^ z / mq_width p)), τ))) 0 0 (gx_A ad 70) := by
  refine gx_met (by decide) rfl (Nat.le_of_ble_eq_true rfl) ?_
  intro pg ev s mid as below mth c ls hx hb hr hml ht hown hlk hnm hargs hB hl
  obtain ⟨hV, hZ⟩ := hB
  have hS : va_S (gx_A ad 70) s.heap s.heap [] := va_S.rf
  have hl : lv_has ls 3 [(0, .ref (ad 0)), (1, .int (nI p))] := hl
  obtain ⟨t2, hz2, ht2⟩ := hZ.2.1
  obtain ⟨t3, hz3, ht3⟩ := hZ.2.2.1
  have hz8 := cx_p8 hz4
  have hdv : 2 ^ z / mq_width p ≤ 2 ^ z := Nat.div_le_self _ _
  refine lv_aload_n hx hb dX_beginJob_0 rfl (lv_at hl 0 rfl) ?_
  refine gx_get (C := mR_X) (T := mT_X) (N' := 7) hx hb ht mh_X hown hV (by decide) cx_E_X rfl 1 (by decide) (ht _ mw_130) (fun _ h => h) rfl dX_beginJob_1 ?_
  refine lv_iload_n hx hb dX_beginJob_4 rfl (lv_at hl 1 rfl) ?_
  refine gx_aald hx hb hV (by decide) 5 cx_E_Ps rfl p hp0 (by decide) rfl rfl dX_beginJob_5 ?_
  refine gx_get (C := mR_P) (T := mT_P) (N' := 7) hx hb ht mh_P hown hV (show 18 + 6 * p < 70 by omega) (cx_E_P hp0) rfl 0 (by decide) (ht _ mw_75) (fun _ h => h) rfl dX_beginJob_6 ?_
  refine gx_calli (va_runV (As := []) (rest := []) ⟨hx, hb, hml, hown, ht⟩ (k_L_removeFirst l (t := t.length) (cx_isL_Q hp0) hA.1 hl2) (cwV 0 ht (mx_gV (C := "MessageCrossbar$Line") mw_304 mw_305 mw_306 mw_3 mw_307) rfl rfl rfl (by decide +kernel) ⟨Nat.le_of_ble_eq_true rfl, Nat.le_of_ble_eq_true rfl⟩) (gx_preV cx_ok hV hZ hS (q := (mR_L, mT_L, 2)) ((cx_isL_Q hp0)).lt.1 (cx_E_L (cx_isL_Q hp0)).1 rfl []) rfl rfl hl.1 rfl (lv_room (Nat.le_of_ble_eq_true rfl)) dX_beginJob_9 ⟨Nat.le_of_ble_eq_true rfl, Nat.le_of_ble_eq_true rfl⟩) hV hS (fun r1 σ' τ' H locs hp hV hS => ?_)
  obtain ⟨h9, hu⟩ := hp
  rw [hA.first] at h9
  subst h9
  cases hu
  refine lv_istore_n (lv' := [(2, .int (nI x)), (0, .ref (ad 0)), (1, .int (nI p))]) hx hb dX_beginJob_12 rfl hl (by decide) rfl (fun ls hl => ?_)
  refine lv_iload_n hx hb dX_beginJob_13 rfl (lv_at hl 0 rfl) ?_
  refine lv_iconst (v := -1) hx hb dX_beginJob_14 (by decide) ?_
  refine lv_icmp_ne (tgt := 19) hx hb dX_beginJob_15 (by decide) (fun h15 => ?_) (fun h15 => ?_)
  · refine lv_aload_n hx hb dX_beginJob_19 rfl (lv_at hl 1 rfl) ?_
    refine gx_get (C := mR_X) (T := mT_X) (N' := 7) hx hb ht mh_X hown hV (by decide) cx_E_X rfl 1 (by decide) (ht _ mw_130) (fun _ h => h) rfl dX_beginJob_20 ?_
    refine lv_iload_n hx hb dX_beginJob_23 rfl (lv_at hl 2 rfl) ?_
    refine gx_aald hx hb hV (by decide) 5 cx_E_Ps rfl p hp0 (by decide) rfl rfl dX_beginJob_24 ?_
    refine lv_iload_n hx hb dX_beginJob_25 rfl (lv_at hl 0 rfl) ?_
    refine gx_put cx_loc (C := mR_P) (T := mT_P) (N' := 7) (ty := .int) (v := .int (nI x)) hx hb ht mh_P mt_P mk_P mn_P hown hV hS (show 18 + 6 * p < 70 by omega) (cx_E_P hp0) rfl 3 (by decide) (ht _ mw_81) (fun _ h => h) rfl (by decide +kernel) rfl rfl (Nat.le_of_ble_eq_true rfl) dX_beginJob_26 (cx_up (cx_rem σ (19 + 6 * p) t.length) (18 + 6 * p) 3 (nI x)) τ (by rw [cx_E_P hp0]; simp [cx_up, gx_upL]) (fun _ h => cx_up_J h) (fun _ _ => rfl) (fun H locs hV hS => ?_)
    refine lv_aload_n hx hb dX_beginJob_29 rfl (lv_at hl 1 rfl) ?_
    refine gx_get (C := mR_X) (T := mT_X) (N' := 7) hx hb ht mh_X hown hV (by decide) cx_E_X rfl 1 (by decide) (ht _ mw_130) (fun _ h => h) rfl dX_beginJob_30 ?_
    refine lv_iload_n hx hb dX_beginJob_33 rfl (lv_at hl 2 rfl) ?_
    refine gx_aald hx hb hV (by decide) 5 cx_E_Ps rfl p hp0 (by decide) rfl rfl dX_beginJob_34 ?_
    refine va_gets hx hb hz3 hS hown (ht _ mw_366) (fun _ h => h) dX_beginJob_35 ?_
    refine lv_iload_n hx hb dX_beginJob_38 rfl (lv_at hl 2 rfl) ?_
    refine va_ti hx hb ht3 hS (v := .int (nI (cx_dls p))) (gx_ia (k := p) (n := 4) hp0 (by omega) rfl).1 (by rw [(gx_ia (k := p) (n := 4) hp0 (by omega) rfl).2]) dX_beginJob_39 ?_
    refine lv_iconst (v := nI 1) hx hb dX_beginJob_40 (by decide) ?_
    refine lv_aload_n hx hb dX_beginJob_41 rfl (lv_at hl 1 rfl) ?_
    refine gx_get (C := mR_X) (T := mT_X) (N' := 7) hx hb ht mh_X hown hV (by decide) cx_E_X rfl 2 (by decide) (ht _ mw_131) (fun _ h => h) rfl dX_beginJob_42 ?_
    refine lv_iload_n hx hb dX_beginJob_45 rfl (lv_at hl 0 rfl) ?_
    refine gx_aald hx hb hV (by decide) 6 cx_E_Gs rfl x hx2 (by decide) rfl rfl dX_beginJob_46 ?_
    refine gx_calli (va_runV (As := []) (rest := [.int (nI 1), .int (nI (cx_dls p)), .ref (ad (18 + 6 * p))]) ⟨hx, hb, hml, hown, ht⟩ (k_G_size l hx2 (by rw [cx_up_J (by omega), cx_rem_n (by omega) (by omega)]; exact hz) hz4) (cwV 0 ht (mx_gV (C := "MessageCrossbar$Message") mw_346 mw_347 mw_348 mw_5 mw_349) rfl rfl rfl (by decide +kernel) ⟨Nat.le_of_ble_eq_true rfl, Nat.le_of_ble_eq_true rfl⟩) (gx_preV cx_ok hV hZ hS (q := (mR_G, mT_G, 5)) (show 43 + x < 70 by omega) (cx_E_G hx2) rfl []) rfl rfl hl.1 rfl (lv_room (Nat.le_of_ble_eq_true rfl)) dX_beginJob_47 ⟨Nat.le_of_ble_eq_true rfl, Nat.le_of_ble_eq_true rfl⟩) hV hS (fun r2 σ' τ' H locs hp hV hS => ?_)
    obtain ⟨rfl, hu⟩ := hp
    cases hu
    refine va_gets hx hb hz2 hS hown (ht _ mw_368) (fun _ h => h) dX_beginJob_50 ?_
    refine lv_iload_n hx hb dX_beginJob_53 rfl (lv_at hl 2 rfl) ?_
    refine va_ti hx hb ht2 hS (v := .int (nI (cx_wps p))) (gx_ia (k := p) (n := 4) hp0 (by omega) rfl).1 (by rw [(gx_ia (k := p) (n := 4) hp0 (by omega) rfl).2]) dX_beginJob_54 ?_
    refine lv_ishr hx hb dX_beginJob_55 ?_
    refine gx_top (by rw [cx_sh2 hz4 (cx_wps_w hp0).2, (cx_wps_w hp0).1]) ?_
    refine va_mmax hx hb (by rw [hml]; exact hl.1.symm) hown (ht _ mw_370) (ht _ mw_371) (ht _ mw_11) (ht _ mw_372) (Nat.le_of_ble_eq_true rfl) (Nat.le_of_ble_eq_true rfl) (Nat.le_refl _) (Nat.le_refl _) dX_beginJob_56 ?_
    refine gx_top (cx_max (by omega)) ?_
    refine gx_iadd (a := (cx_dls p)) (b := (max 1 (2 ^ z / mq_width p))) hx hb dX_beginJob_59 ?_
    refine gx_top (by rw [(cx_dls_d hp0).1]) ?_
    refine gx_put cx_loc (C := mR_P) (T := mT_P) (N' := 7) (ty := .int) (v := .int (nI (mq_delay p + max 1 (2 ^ z / mq_width p)))) hx hb ht mh_P mt_P mk_P mn_P hown hV hS (show 18 + 6 * p < 70 by omega) (cx_E_P hp0) rfl 4 (by decide) (ht _ mw_83) (fun _ h => h) rfl (by decide +kernel) rfl rfl (Nat.le_of_ble_eq_true rfl) dX_beginJob_60 (cx_up (cx_up (cx_rem σ (19 + 6 * p) t.length) (18 + 6 * p) 3 (nI x)) (18 + 6 * p) 4 (nI (mq_delay p + max 1 (2 ^ z / mq_width p)))) τ (by rw [cx_E_P hp0]; simp [cx_up, gx_upL]) (fun _ h => cx_up_J h) (fun _ _ => rfl) (fun H locs hV hS => ?_)
    exact gx_vret hx hb hr hV hS rfl dX_beginJob_63 hlk
  · exact absurd h15 (rr_m1 hx2)
