/-! the crossbar's other calls -/
theorem cx_fb1 {f : Nat} (h : f ≤ 1) : fits .boolean (.int (nI f)) = true := by
  have : f = 0 ∨ f = 1 := by omega
  rcases this with rfl | rfl <;> rfl
theorem cx_tk0 {σ : Nat → Nat → Int32} {m n b q : Nat} (hm : m < 3) : cx_tk σ m n b q 0 = cx_up (cx_up (cx_rem σ (5 + 5 * m) n) (2 + 5 * m) 2 (nI (b ^^^ 2 ^ q))) 69 5 (σ 69 5 + 1) := by
  unfold cx_tk
  apply cx_up_same
  rw [cx_up_k (by omega), cx_up_J (by omega), cx_rem_n (by omega) (by omega)]
  show σ 69 6 = σ 69 6 + 0
  rw [Int32.add_zero]

set_option maxHeartbeats 4000000 in
set_option maxRecDepth 100000 in
theorem k_X_request (l : Launch) {D : va_G} {K : Nat → ClassId} {ad : Nat → Nat} {σ : Nat → Nat → Int32} {τ : Nat → Nat → Int64} {m q so z a mk : Nat} {d : Int64} (hm : m < 3) (hq : q < 8) (hso : so < 3) (hz : z < 4) (ha : a < 1024) (hal : a % 2 ^ z = 0) (hmk : mk < 256) {ρ : Nat → Nat → Nat} {μ : Nat → Int64} {lt : Int64} {pl : Nat → Nat → List Nat} (hR : rr_R σ τ ρ μ lt pl) : Met l yX_request (Cond.code yX_request prog_1_method_2_code 11 (some .int) :: mx_T) { frames := 2, cells := 0, slots := 0, locals := 42 } (va_Pc [.ref (ad 0), .int (nI m), .int (nI q), .int (nI so), .int (nI z), .int (nI a), .long d, .int (nI mk)] (cx_P D K ad σ τ)) (cx_Qi D K ad (fun rr u => (ρ 1 (8 * m + q) ≠ 0 ∨ 8 ≤ (pl 1 m).length → rr = -1 ∧ u = (σ, τ)) ∧ (ρ 1 (8 * m + q) = 0 → (pl 1 m).length < 8 → rr = nI ((pl 1 m).length + 1) ∧ rr_R u.1 u.2 (mq_rq ρ (8 * m + q) so z a mk) (mq_upL μ (8 * m + q) d) lt (mq_set pl 1 m (pl 1 m ++ [8 * m + q]))))) 0 0 (gx_A ad 70) := by
  refine gx_met (by decide) rfl (Nat.le_of_ble_eq_true rfl) ?_
  intro pg ev s mid as below mth c ls hx hb hr hml ht hown hlk hnm hargs hB hl
  obtain ⟨hV, hZ⟩ := hB
  have hS : va_S (gx_A ad 70) s.heap s.heap [] := va_S.rf
  have hl : lv_has ls 11 [(0, .ref (ad 0)), (1, .int (nI m)), (2, .int (nI q)), (3, .int (nI so)), (4, .int (nI z)), (5, .int (nI a)), (6, .long d), (8, .int (nI mk))] := hl
  have hR0 := hR
  obtain ⟨hL, hP, hJ, hM, hO, hG, hBB, hT⟩ := hR
  have hx24 : 8 * m + q < 24 := by omega
  obtain ⟨-, -, b, hb0, hb1, hb2⟩ := hM m hm
  have hw := hL 1 m (Or.inl ⟨by simp, hm⟩) (by omega)
  rw [show rr_ln 1 m = 3 + 5 * m by simp [rr_ln], show rr_room 1 = 8 from rfl] at hw
  have hbq : b / 2 ^ q % 2 = 1 ↔ ρ 1 (8 * m + q) ≠ 0 := by have := hb2 q hq; rw [Nat.testBit_eq_decide_div_mod_eq] at this; exact decide_eq_decide.mp this
  refine lv_iload_n hx hb dX_request_0 rfl (lv_at hl 1 rfl) ?_
  refine lv_iconst (v := nI 3) hx hb dX_request_1 (by decide) ?_
  refine gx_callp (va_runS (As := [.int (nI m), .int (nI 3)]) (rest := []) ⟨hx, hb, hml, hown, ht⟩ (k_X_isBelow l) (cwS 2 ht (mx_gS mw_160 mw_161 mw_1 mw_162) rfl rfl rfl (by decide +kernel) ⟨Nat.le_of_ble_eq_true rfl, Nat.le_of_ble_eq_true rfl⟩) (gx_preP [.int (nI m), .int (nI 3)]) rfl rfl hl.1 rfl (lv_room (Nat.le_of_ble_eq_true rfl)) dX_request_2 ⟨Nat.le_of_ble_eq_true rfl, Nat.le_of_ble_eq_true rfl⟩) hV hS (fun r1 H locs hp hV hS => ?_)
  subst hp
  refine gx_ifb_eq (q := 0 ≤ nI m ∧ nI m < nI 3) (tgt := 46) hx hb dX_request_5 (by decide) (fun h5 => ?_) (fun h5 => ?_)
  · exact absurd (cx_bl hm (by decide)) h5
  · refine lv_iload_n hx hb dX_request_8 rfl (lv_at hl 2 rfl) ?_
    refine lv_bipush (v := nI 8) hx hb dX_request_9 (by decide) ?_
    refine gx_callp (va_runS (As := [.int (nI q), .int (nI 8)]) (rest := []) ⟨hx, hb, hml, hown, ht⟩ (k_X_isBelow l) (cwS 2 ht (mx_gS mw_160 mw_161 mw_1 mw_162) rfl rfl rfl (by decide +kernel) ⟨Nat.le_of_ble_eq_true rfl, Nat.le_of_ble_eq_true rfl⟩) (gx_preP [.int (nI q), .int (nI 8)]) rfl rfl hl.1 rfl (lv_room (Nat.le_of_ble_eq_true rfl)) dX_request_11 ⟨Nat.le_of_ble_eq_true rfl, Nat.le_of_ble_eq_true rfl⟩) hV hS (fun r2 H locs hp hV hS => ?_)
    subst hp
    refine gx_ifb_eq (q := 0 ≤ nI q ∧ nI q < nI 8) (tgt := 46) hx hb dX_request_14 (by decide) (fun h14 => ?_) (fun h14 => ?_)
    · exact absurd (cx_bl hq (by decide)) h14
    · refine lv_iload_n hx hb dX_request_17 rfl (lv_at hl 3 rfl) ?_
      refine lv_iconst (v := nI 3) hx hb dX_request_18 (by decide) ?_
      refine gx_callp (va_runS (As := [.int (nI so), .int (nI 3)]) (rest := []) ⟨hx, hb, hml, hown, ht⟩ (k_X_isBelow l) (cwS 2 ht (mx_gS mw_160 mw_161 mw_1 mw_162) rfl rfl rfl (by decide +kernel) ⟨Nat.le_of_ble_eq_true rfl, Nat.le_of_ble_eq_true rfl⟩) (gx_preP [.int (nI so), .int (nI 3)]) rfl rfl hl.1 rfl (lv_room (Nat.le_of_ble_eq_true rfl)) dX_request_19 ⟨Nat.le_of_ble_eq_true rfl, Nat.le_of_ble_eq_true rfl⟩) hV hS (fun r3 H locs hp hV hS => ?_)
      subst hp
      refine gx_ifb_eq (q := 0 ≤ nI so ∧ nI so < nI 3) (tgt := 46) hx hb dX_request_22 (by decide) (fun h22 => ?_) (fun h22 => ?_)
      · exact absurd (cx_bl hso (by decide)) h22
      · refine lv_iload hx hb dX_request_25 (lv_at hl 5 rfl) ?_
        refine lv_iload hx hb dX_request_27 (lv_at hl 4 rfl) ?_
        refine gx_callp (va_runS (As := [.int (nI a), .int (nI z)]) (rest := []) ⟨hx, hb, hml, hown, ht⟩ (k_X_isAligned l) (cwS 2 ht (mx_gS mw_178 mw_179 mw_1 mw_180) rfl rfl rfl (by decide +kernel) ⟨Nat.le_of_ble_eq_true rfl, Nat.le_of_ble_eq_true rfl⟩) (gx_preP [.int (nI a), .int (nI z)]) rfl rfl hl.1 rfl (lv_room (Nat.le_of_ble_eq_true rfl)) dX_request_29 ⟨Nat.le_of_ble_eq_true rfl, Nat.le_of_ble_eq_true rfl⟩) hV hS (fun r4 H locs hp hV hS => ?_)
        subst hp
        refine gx_ifb_eq (q := (0 ≤ nI z ∧ nI z < nI 4) ∧ (0 ≤ nI a ∧ nI a < nI 1024) ∧ nI a &&& ((nI 1 <<< (nI z &&& 31)) - nI 1) = 0) (tgt := 46) hx hb dX_request_32 (by decide) (fun h32 => ?_) (fun h32 => ?_)
        · exact absurd ⟨cx_bl hz (by decide), cx_bl ha (by decide), by rw [cx_algn ha hz, hal]; rfl⟩ h32
        · refine lv_iload hx hb dX_request_35 (lv_at hl 7 rfl) ?_
          refine lv_sipush (v := nI 256) hx hb dX_request_37 (by decide) ?_
          refine gx_callp (va_runS (As := [.int (nI mk), .int (nI 256)]) (rest := []) ⟨hx, hb, hml, hown, ht⟩ (k_X_isBelow l) (cwS 2 ht (mx_gS mw_160 mw_161 mw_1 mw_162) rfl rfl rfl (by decide +kernel) ⟨Nat.le_of_ble_eq_true rfl, Nat.le_of_ble_eq_true rfl⟩) (gx_preP [.int (nI mk), .int (nI 256)]) rfl rfl hl.1 rfl (lv_room (Nat.le_of_ble_eq_true rfl)) dX_request_40 ⟨Nat.le_of_ble_eq_true rfl, Nat.le_of_ble_eq_true rfl⟩) hV hS (fun r5 H locs hp hV hS => ?_)
          subst hp
          refine gx_ifb_ne (q := 0 ≤ nI mk ∧ nI mk < nI 256) (tgt := 54) hx hb dX_request_43 (by decide) (fun h43 => ?_) (fun h43 => ?_)
          · refine lv_aload_n hx hb dX_request_54 rfl (lv_at hl 0 rfl) ?_
            refine gx_get (C := mR_X) (T := mT_X) (N' := 7) hx hb ht mh_X hown hV (by decide) cx_E_X rfl 0 (by decide) (ht _ mw_129) (fun _ h => h) rfl dX_request_55 ?_
            refine lv_iload_n hx hb dX_request_58 rfl (lv_at hl 1 rfl) ?_
            refine gx_aald hx hb hV (by decide) 4 cx_E_Ms rfl m hm (by decide) rfl rfl dX_request_59 ?_
            refine lv_astore (lv' := [(9, .ref (ad (2 + 5 * m))), (0, .ref (ad 0)), (1, .int (nI m)), (2, .int (nI q)), (3, .int (nI so)), (4, .int (nI z)), (5, .int (nI a)), (6, .long d), (8, .int (nI mk))]) hx hb dX_request_60 hl (by decide) rfl (fun ls hl => ?_)
            refine lv_aload hx hb dX_request_62 (lv_at hl 0 rfl) ?_
            refine lv_iload_n hx hb dX_request_64 rfl (lv_at hl 3 rfl) ?_
            refine gx_calli (va_runV (As := [.int (nI q)]) (rest := []) ⟨hx, hb, hml, hown, ht⟩ (k_M_hasInFlight l hm hb1 hb0 hq) (cwV 1 ht (mx_gV (C := "MessageCrossbar$Master") mw_243 mw_244 mw_245 mw_2 mw_246) rfl rfl rfl (by decide +kernel) ⟨Nat.le_of_ble_eq_true rfl, Nat.le_of_ble_eq_true rfl⟩) (gx_preV cx_ok hV hZ hS (q := (mR_M, mT_M, 5)) (show 2 + 5 * m < 70 by omega) (cx_E_M hm) rfl [.int (nI q)]) rfl rfl hl.1 rfl (lv_room (Nat.le_of_ble_eq_true rfl)) dX_request_65 ⟨Nat.le_of_ble_eq_true rfl, Nat.le_of_ble_eq_true rfl⟩) hV hS (fun r6 σ' τ' H locs hp hV hS => ?_)
            obtain ⟨rfl, hu⟩ := hp
            cases hu
            refine gx_ifb_ne (q := b / 2 ^ q % 2 = 1) (tgt := 82) hx hb dX_request_68 (by decide) (fun h68 => ?_) (fun h68 => ?_)
            · refine lv_iconst (v := -1) hx hb dX_request_82 (by decide) ?_
              exact gx_iret hx hb hr hV hS ⟨fun _ => ⟨rfl, rfl⟩, fun q0 _ => absurd q0 (hbq.mp h68)⟩ dX_request_83 hlk
            · refine lv_aload hx hb dX_request_71 (lv_at hl 0 rfl) ?_
              refine gx_get (C := mR_M) (T := mT_M) (N' := 5) hx hb ht mh_M hown hV (show 2 + 5 * m < 70 by omega) (cx_E_M hm) rfl 0 (by decide) (ht _ mw_45) (fun _ h => h) rfl dX_request_73 ?_
              refine gx_calli (va_runV (As := []) (rest := []) ⟨hx, hb, hml, hown, ht⟩ (k_L_isFull l (cx_isL_W hm) hw.1.1 hw.2) (cwV 0 ht (mx_gV (C := "MessageCrossbar$Line") mw_247 mw_248 mw_249 mw_3 mw_250) rfl rfl rfl (by decide +kernel) ⟨Nat.le_of_ble_eq_true rfl, Nat.le_of_ble_eq_true rfl⟩) (gx_preV cx_ok hV hZ hS (q := (mR_L, mT_L, 2)) ((cx_isL_W hm)).lt.1 (cx_E_L (cx_isL_W hm)).1 rfl []) rfl rfl hl.1 rfl (lv_room (Nat.le_of_ble_eq_true rfl)) dX_request_76 ⟨Nat.le_of_ble_eq_true rfl, Nat.le_of_ble_eq_true rfl⟩) hV hS (fun r7 σ' τ' H locs hp hV hS => ?_)
              obtain ⟨rfl, hu⟩ := hp
              cases hu
              refine gx_ifb_eq (q := 8 ≤ (pl 1 m).length) (tgt := 84) hx hb dX_request_79 (by decide) (fun h79 => ?_) (fun h79 => ?_)
              · refine lv_iload_n hx hb dX_request_84 rfl (lv_at hl 2 rfl) ?_
                refine lv_iconst (v := nI 3) hx hb dX_request_85 (by decide) ?_
                refine lv_ishl hx hb dX_request_86 ?_
                refine gx_top (cx_shl3 hm) ?_
                refine lv_iload_n hx hb dX_request_87 rfl (lv_at hl 3 rfl) ?_
                refine gx_iadd (a := (m * 2 ^ 3)) (b := q) hx hb dX_request_88 ?_
                refine gx_top (by rw [show m * 2 ^ 3 + q = 8 * m + q by omega]) ?_
                refine lv_istore (lv' := [(10, .int (nI (8 * m + q))), (9, .ref (ad (2 + 5 * m))), (0, .ref (ad 0)), (1, .int (nI m)), (2, .int (nI q)), (3, .int (nI so)), (4, .int (nI z)), (5, .int (nI a)), (6, .long d), (8, .int (nI mk))]) hx hb dX_request_89 hl (by decide) rfl (fun ls hl => ?_)
                refine lv_aload_n hx hb dX_request_91 rfl (lv_at hl 2 rfl) ?_
                refine gx_get (C := mR_X) (T := mT_X) (N' := 7) hx hb ht mh_X hown hV (by decide) cx_E_X rfl 2 (by decide) (ht _ mw_131) (fun _ h => h) rfl dX_request_92 ?_
                refine lv_iload hx hb dX_request_95 (lv_at hl 0 rfl) ?_
                refine gx_aald hx hb hV (by decide) 6 cx_E_Gs rfl (8 * m + q) hx24 (by decide) rfl rfl dX_request_97 ?_
                refine lv_iload_n hx hb dX_request_98 rfl (lv_at hl 5 rfl) ?_
                refine lv_iload hx hb dX_request_99 (lv_at hl 6 rfl) ?_
                refine lv_iload hx hb dX_request_101 (lv_at hl 7 rfl) ?_
                refine lv_lload hx hb dX_request_103 (lv_at hl 8 rfl) ?_
                refine lv_iload hx hb dX_request_105 (lv_at hl 9 rfl) ?_
                refine gx_callv (va_runV (As := [.int (nI so), .int (nI z), .int (nI a), .long d, .int (nI mk)]) (rest := []) ⟨hx, hb, hml, hown, ht⟩ (k_G_become l hx24) (cwV 5 ht (mx_gV (C := "MessageCrossbar$Message") mw_251 mw_252 mw_253 mw_5 mw_254) rfl rfl rfl (by decide +kernel) ⟨Nat.le_of_ble_eq_true rfl, Nat.le_of_ble_eq_true rfl⟩) (gx_preV cx_ok hV hZ hS (q := (mR_G, mT_G, 5)) (show 43 + (8 * m + q) < 70 by omega) (cx_E_G hx24) rfl [.int (nI so), .int (nI z), .int (nI a), .long d, .int (nI mk)]) rfl rfl hl.1 rfl (lv_room (Nat.le_of_ble_eq_true rfl)) dX_request_107 ⟨Nat.le_of_ble_eq_true rfl, Nat.le_of_ble_eq_true rfl⟩) hV hS (fun σ' τ' H locs hp hV hS => ?_)
                cases hp
                refine lv_aload hx hb dX_request_110 (lv_at hl 1 rfl) ?_
                refine gx_get (C := mR_M) (T := mT_M) (N' := 5) hx hb ht mh_M hown hV (show 2 + 5 * m < 70 by omega) (cx_E_M hm) rfl 0 (by decide) (ht _ mw_45) (fun _ h => h) rfl dX_request_112 ?_
                refine lv_iload hx hb dX_request_115 (lv_at hl 0 rfl) ?_
                refine gx_callv (va_runV (As := [.int (nI (8 * m + q))]) (rest := []) ⟨hx, hb, hml, hown, ht⟩ (k_L_append l (cx_isL_W hm) (by rw [cx_up_J (by omega), cx_up_J (by omega), cx_up_J (by omega), cx_up_J (by omega)]; exact hw.1.1) (show (pl 1 m).length < 8 by omega)) (cwV 1 ht (mx_gV (C := "MessageCrossbar$Line") mw_255 mw_256 mw_257 mw_3 mw_258) rfl rfl rfl (by decide +kernel) ⟨Nat.le_of_ble_eq_true rfl, Nat.le_of_ble_eq_true rfl⟩) (gx_preV cx_ok hV hZ hS (q := (mR_L, mT_L, 2)) ((cx_isL_W hm)).lt.1 (cx_E_L (cx_isL_W hm)).1 rfl [.int (nI (8 * m + q))]) rfl rfl hl.1 rfl (lv_room (Nat.le_of_ble_eq_true rfl)) dX_request_117 ⟨Nat.le_of_ble_eq_true rfl, Nat.le_of_ble_eq_true rfl⟩) hV hS (fun σ' τ' H locs hp hV hS => ?_)
                cases hp
                refine lv_aload hx hb dX_request_120 (lv_at hl 1 rfl) ?_
                refine lv_dup hx hb dX_request_122 rfl ?_
                refine gx_get (C := mR_M) (T := mT_M) (N' := 5) (v := .int (nI b)) hx hb ht mh_M hown hV (show 2 + 5 * m < 70 by omega) (cx_E_M hm) rfl 2 (by decide) (ht _ mw_49) (fun _ h => h) (congrArg (fun z => some (Value.int z)) (by rw [cx_app_n (by omega) (by omega), cx_up_J (by omega), cx_up_J (by omega), cx_up_J (by omega), cx_up_J (by omega)]; exact hb1)) dX_request_123 ?_
                refine lv_iconst (v := nI 1) hx hb dX_request_126 (by decide) ?_
                refine lv_iload_n hx hb dX_request_127 rfl (lv_at hl 4 rfl) ?_
                refine lv_ishl hx hb dX_request_128 ?_
                refine lv_ior hx hb dX_request_129 ?_
                refine gx_top (cx_orb b hb0 q hq) ?_
                refine gx_put cx_loc (C := mR_M) (T := mT_M) (N' := 5) (ty := .int) (v := .int (nI (b ||| 2 ^ q))) hx hb ht mh_M mt_M mk_M mn_M hown hV hS (show 2 + 5 * m < 70 by omega) (cx_E_M hm) rfl 2 (by decide) (ht _ mw_49) (fun _ h => h) rfl (by decide +kernel) rfl rfl (Nat.le_of_ble_eq_true rfl) dX_request_130 (cx_up (cx_app (cx_up (cx_up (cx_up (cx_up σ (43 + (8 * m + q)) 0 (nI so)) (43 + (8 * m + q)) 1 (nI z)) (43 + (8 * m + q)) 2 (nI a)) (43 + (8 * m + q)) 4 (nI mk)) (3 + 5 * m) (pl 1 m).length (nI (8 * m + q))) (2 + 5 * m) 2 (nI (b ||| 2 ^ q))) (gx_upL τ (43 + (8 * m + q)) 0 d) (by rw [cx_E_M hm]; simp [cx_up, gx_upL]) (fun _ h => cx_up_J h) (fun _ _ => rfl) (fun H locs hV hS => ?_)
                refine lv_aload_n hx hb dX_request_133 rfl (lv_at hl 2 rfl) ?_
                refine gx_get (C := mR_X) (T := mT_X) (N' := 7) hx hb ht mh_X hown hV (by decide) cx_E_X rfl 5 (by decide) (ht _ mw_134) (fun _ h => h) rfl dX_request_134 ?_
                refine lv_iconst (v := nI 1) hx hb dX_request_137 (by decide) ?_
                refine lv_dup2_11 hx hb dX_request_138 rfl rfl ?_
                refine gx_ialdv (v := σ 69 1) hx hb hV (by decide) 0 cx_E_Ct rfl 1 (by decide) (by decide) rfl (by simp (disch := omega) only [cx_up_J, cx_app_n, cx_rel_n, cx_rem_n]) dX_request_139 ?_
                refine lv_iconst (v := nI 1) hx hb dX_request_140 (by decide) ?_
                refine lv_iadd hx hb dX_request_141 ?_
                refine gx_iast cx_loc hx hb hV hS (by decide) 0 cx_E_Ct rfl 1 (by decide) (by decide) rfl dX_request_142 (cx_up (cx_up (cx_app (cx_up (cx_up (cx_up (cx_up σ (43 + (8 * m + q)) 0 (nI so)) (43 + (8 * m + q)) 1 (nI z)) (43 + (8 * m + q)) 2 (nI a)) (43 + (8 * m + q)) 4 (nI mk)) (3 + 5 * m) (pl 1 m).length (nI (8 * m + q))) (2 + 5 * m) 2 (nI (b ||| 2 ^ q))) 69 1 (σ 69 1 + (nI 1))) (by rw [cx_E_Ct, cx_up_upd]) (fun _ h => cx_up_J h) (fun H locs hV hS => ?_)
                refine lv_aload hx hb dX_request_143 (lv_at hl 1 rfl) ?_
                refine gx_get (C := mR_M) (T := mT_M) (N' := 5) hx hb ht mh_M hown hV (show 2 + 5 * m < 70 by omega) (cx_E_M hm) rfl 0 (by decide) (ht _ mw_45) (fun _ h => h) rfl dX_request_145 ?_
                refine gx_get (C := mR_L) (T := mT_L) (N' := 2) (v := .int (nI ((pl 1 m).length + 1))) hx hb ht mh_L hown hV ((cx_isL_W hm)).lt.1 (cx_E_L (cx_isL_W hm)).1 rfl 1 (by decide) (ht _ mw_36) (fun _ h => h) (congrArg (fun z => some (Value.int z)) (by rw [cx_up_J (by omega), cx_up_J (by omega)]; exact cx_up_s)) dX_request_148 ?_
                exact gx_iret hx hb hr hV hS ⟨fun q0 => q0.elim (fun z0 => absurd (hbq.mpr z0) h68) (fun z0 => absurd z0 h79), fun q0 q1 => ⟨rfl, hR0.rq hm hq hso hz ha hal hmk q0 q1 hb0 hb1 hb2⟩⟩ dX_request_151 hlk
              · refine lv_iconst (v := -1) hx hb dX_request_82 (by decide) ?_
                exact gx_iret hx hb hr hV hS ⟨fun _ => ⟨rfl, rfl⟩, fun _ q0 => absurd q0 (by omega)⟩ dX_request_83 hlk
          · exact absurd (cx_bl hmk (by decide)) h43

set_option maxHeartbeats 4000000 in
set_option maxRecDepth 100000 in
theorem k_X_accept (l : Launch) {D : va_G} {K : Nat → ClassId} {ad : Nat → Nat} {σ : Nat → Nat → Int32} {τ : Nat → Nat → Int64} {m y : Nat} (hm : m < 3) (hy : y ≤ 1) {ρ : Nat → Nat → Nat} {μ : Nat → Int64} {lt : Int64} {pl : Nat → Nat → List Nat} (hR : rr_R σ τ ρ μ lt pl) : Met l yX_accept (Cond.code yX_accept prog_1_method_3_code 4 (some .boolean) :: mx_T) { frames := 1, cells := 0, slots := 0, locals := 21 } (va_Pc [.ref (ad 0), .int (nI m), .int (nI y)] (cx_P D K ad σ τ)) (cx_Qi D K ad (fun rr u => rr = nI (1 - ρ 9 m) ∧ rr_R u.1 u.2 (mq_up ρ 9 m (1 - y)) μ lt pl)) 0 0 (gx_A ad 70) := by
  refine gx_met (by decide) rfl (Nat.le_of_ble_eq_true rfl) ?_
  intro pg ev s mid as below mth c ls hx hb hr hml ht hown hlk hnm hargs hB hl
  obtain ⟨hV, hZ⟩ := hB
  have hS : va_S (gx_A ad 70) s.heap s.heap [] := va_S.rf
  have hl : lv_has ls 4 [(0, .ref (ad 0)), (1, .int (nI m)), (2, .int (nI y))] := hl
  have hR0 := hR
  obtain ⟨hL, hP, hJ, hM, hO, hG, hBB, hT⟩ := hR
  obtain ⟨-, ⟨h9a, h9b⟩, -⟩ := hM m hm
  refine lv_iload_n hx hb dX_accept_0 rfl (lv_at hl 1 rfl) ?_
  refine lv_iconst (v := nI 3) hx hb dX_accept_1 (by decide) ?_
  refine gx_callp (va_runS (As := [.int (nI m), .int (nI 3)]) (rest := []) ⟨hx, hb, hml, hown, ht⟩ (k_X_isBelow l) (cwS 2 ht (mx_gS mw_160 mw_161 mw_1 mw_162) rfl rfl rfl (by decide +kernel) ⟨Nat.le_of_ble_eq_true rfl, Nat.le_of_ble_eq_true rfl⟩) (gx_preP [.int (nI m), .int (nI 3)]) rfl rfl hl.1 rfl (lv_room (Nat.le_of_ble_eq_true rfl)) dX_accept_2 ⟨Nat.le_of_ble_eq_true rfl, Nat.le_of_ble_eq_true rfl⟩) hV hS (fun r1 H locs hp hV hS => ?_)
  subst hp
  refine gx_ifb_ne (q := 0 ≤ nI m ∧ nI m < nI 3) (tgt := 16) hx hb dX_accept_5 (by decide) (fun h5 => ?_) (fun h5 => ?_)
  · refine lv_aload_n hx hb dX_accept_16 rfl (lv_at hl 0 rfl) ?_
    refine gx_get (C := mR_X) (T := mT_X) (N' := 7) hx hb ht mh_X hown hV (by decide) cx_E_X rfl 0 (by decide) (ht _ mw_129) (fun _ h => h) rfl dX_accept_17 ?_
    refine lv_iload_n hx hb dX_accept_20 rfl (lv_at hl 1 rfl) ?_
    refine gx_aald hx hb hV (by decide) 4 cx_E_Ms rfl m hm (by decide) rfl rfl dX_accept_21 ?_
    refine gx_get (C := mR_M) (T := mT_M) (N' := 5) (v := .int (nI (1 - ρ 9 m))) hx hb ht mh_M hown hV (show 2 + 5 * m < 70 by omega) (cx_E_M hm) rfl 3 (by decide) (ht _ mw_51) (fun _ h => h) (congrArg (fun z => some (Value.int z)) h9b) dX_accept_22 ?_
    refine lv_istore_n (lv' := [(3, .int (nI (1 - ρ 9 m))), (0, .ref (ad 0)), (1, .int (nI m)), (2, .int (nI y))]) hx hb dX_accept_25 rfl hl (by decide) rfl (fun ls hl => ?_)
    refine lv_aload_n hx hb dX_accept_26 rfl (lv_at hl 1 rfl) ?_
    refine gx_get (C := mR_X) (T := mT_X) (N' := 7) hx hb ht mh_X hown hV (by decide) cx_E_X rfl 0 (by decide) (ht _ mw_129) (fun _ h => h) rfl dX_accept_27 ?_
    refine lv_iload_n hx hb dX_accept_30 rfl (lv_at hl 2 rfl) ?_
    refine gx_aald hx hb hV (by decide) 4 cx_E_Ms rfl m hm (by decide) rfl rfl dX_accept_31 ?_
    refine lv_iload_n hx hb dX_accept_32 rfl (lv_at hl 3 rfl) ?_
    refine gx_put cx_loc (C := mR_M) (T := mT_M) (N' := 5) (ty := .boolean) (v := .int (nI y)) hx hb ht mh_M mt_M mk_M mn_M hown hV hS (show 2 + 5 * m < 70 by omega) (cx_E_M hm) rfl 3 (by decide) (ht _ mw_51) (fun _ h => h) rfl (by decide +kernel) (cx_nb1 hy) (cx_fb1 hy) (Nat.le_of_ble_eq_true rfl) dX_accept_33 (cx_up σ (2 + 5 * m) 3 (nI y)) τ (by rw [cx_E_M hm]; simp [cx_up, gx_upL]) (fun _ h => cx_up_J h) (fun _ _ => rfl) (fun H locs hV hS => ?_)
    refine lv_iload_n hx hb dX_accept_36 rfl (lv_at hl 0 rfl) ?_
    exact gx_zret hx hb hr (cx_nb1 (by omega)) hV hS ⟨rfl, hR0.acc hm hy⟩ dX_accept_37 hlk
  · exact absurd (cx_bl hm (by decide)) h5

set_option maxHeartbeats 4000000 in
set_option maxRecDepth 100000 in
theorem k_X_take (l : Launch) {D : va_G} {K : Nat → ClassId} {ad : Nat → Nat} {σ : Nat → Nat → Int32} {τ : Nat → Nat → Int64} {m : Nat} (hm : m < 3) {ρ : Nat → Nat → Nat} {μ : Nat → Int64} {lt : Int64} {pl : Nat → Nat → List Nat} (hR : rr_R σ τ ρ μ lt pl) : Met l yX_take (Cond.code yX_take prog_1_method_5_code 7 (some .int) :: mx_T) { frames := 1, cells := 0, slots := 0, locals := 22 } (va_Pc [.ref (ad 0), .int (nI m)] (cx_P D K ad σ τ)) (cx_Qi D K ad (fun rr u => (pl 5 m = [] → rr = -1 ∧ u = (σ, τ)) ∧ ∀ x t, pl 5 m = x :: t → rr = nI (x % 8 + 8 * ρ 3 x + (if 640 ≤ ρ 5 x then 32 else 0)) ∧ rr_R u.1 u.2 (mq_tk ρ x) μ (τ (43 + x) 0) (mq_set pl 5 m t))) 0 0 (gx_A ad 70) := by
  refine gx_met (by decide) rfl (Nat.le_of_ble_eq_true rfl) ?_
  intro pg ev s mid as below mth c ls hx hb hr hml ht hown hlk hnm hargs hB hl
  obtain ⟨hV, hZ⟩ := hB
  have hS : va_S (gx_A ad 70) s.heap s.heap [] := va_S.rf
  have hl : lv_has ls 7 [(0, .ref (ad 0)), (1, .int (nI m))] := hl
  have hR0 := hR
  obtain ⟨hL, hP, hJ, hM, hO, hG, hBB, hT⟩ := hR
  have ok5 : mq_ok 5 m := Or.inl ⟨by simp, hm⟩
  obtain ⟨-, -, b, hb0, hb1, hb2⟩ := hM m hm
  have hw := hL 5 m ok5 (by omega)
  rw [show rr_ln 5 m = 5 + 5 * m by simp [rr_ln], show rr_room 5 = 4 from rfl] at hw
  refine lv_iload_n hx hb dX_take_0 rfl (lv_at hl 1 rfl) ?_
  refine lv_iconst (v := nI 3) hx hb dX_take_1 (by decide) ?_
  refine gx_callp (va_runS (As := [.int (nI m), .int (nI 3)]) (rest := []) ⟨hx, hb, hml, hown, ht⟩ (k_X_isBelow l) (cwS 2 ht (mx_gS mw_160 mw_161 mw_1 mw_162) rfl rfl rfl (by decide +kernel) ⟨Nat.le_of_ble_eq_true rfl, Nat.le_of_ble_eq_true rfl⟩) (gx_preP [.int (nI m), .int (nI 3)]) rfl rfl hl.1 rfl (lv_room (Nat.le_of_ble_eq_true rfl)) dX_take_2 ⟨Nat.le_of_ble_eq_true rfl, Nat.le_of_ble_eq_true rfl⟩) hV hS (fun r1 H locs hp hV hS => ?_)
  subst hp
  refine gx_ifb_ne (q := 0 ≤ nI m ∧ nI m < nI 3) (tgt := 16) hx hb dX_take_5 (by decide) (fun h5 => ?_) (fun h5 => ?_)
  · refine lv_aload_n hx hb dX_take_16 rfl (lv_at hl 0 rfl) ?_
    refine gx_get (C := mR_X) (T := mT_X) (N' := 7) hx hb ht mh_X hown hV (by decide) cx_E_X rfl 0 (by decide) (ht _ mw_129) (fun _ h => h) rfl dX_take_17 ?_
    refine lv_iload_n hx hb dX_take_20 rfl (lv_at hl 1 rfl) ?_
    refine gx_aald hx hb hV (by decide) 4 cx_E_Ms rfl m hm (by decide) rfl rfl dX_take_21 ?_
    refine lv_astore_n (lv' := [(2, .ref (ad (2 + 5 * m))), (0, .ref (ad 0)), (1, .int (nI m))]) hx hb dX_take_22 rfl hl (by decide) rfl (fun ls hl => ?_)
    refine lv_aload_n hx hb dX_take_23 rfl (lv_at hl 0 rfl) ?_
    refine gx_get (C := mR_M) (T := mT_M) (N' := 5) hx hb ht mh_M hown hV (show 2 + 5 * m < 70 by omega) (cx_E_M hm) rfl 1 (by decide) (ht _ mw_47) (fun _ h => h) rfl dX_take_24 ?_
    rcases mq_nc (pl 5 m) with hh | ⟨x, t, hh⟩
    · refine gx_calli (va_runV (As := []) (rest := []) ⟨hx, hb, hml, hown, ht⟩ (k_L_removeNone l (cx_isL_B hm) (by have := hw.1.1; rw [hh] at this; exact this)) (cwV 0 ht (mx_gV (C := "MessageCrossbar$Line") mw_304 mw_305 mw_306 mw_3 mw_307) rfl rfl rfl (by decide +kernel) ⟨Nat.le_of_ble_eq_true rfl, Nat.le_of_ble_eq_true rfl⟩) (gx_preV cx_ok hV hZ hS (q := (mR_L, mT_L, 2)) ((cx_isL_B hm)).lt.1 (cx_E_L (cx_isL_B hm)).1 rfl []) rfl rfl hl.1 rfl (lv_room (Nat.le_of_ble_eq_true rfl)) dX_take_27 ⟨Nat.le_of_ble_eq_true rfl, Nat.le_of_ble_eq_true rfl⟩) hV hS (fun r2 σ' τ' H locs hp hV hS => ?_)
      obtain ⟨rfl, hu⟩ := hp
      cases hu
      refine lv_istore_n (lv' := [(3, .int (-1)), (2, .ref (ad (2 + 5 * m))), (0, .ref (ad 0)), (1, .int (nI m))]) hx hb dX_take_30 rfl hl (by decide) rfl (fun ls hl => ?_)
      refine lv_iload_n hx hb dX_take_31 rfl (lv_at hl 0 rfl) ?_
      refine lv_iconst (v := -1) hx hb dX_take_32 (by decide) ?_
      refine lv_icmp_ne (tgt := 38) hx hb dX_take_33 (by decide) (fun h33 => ?_) (fun h33 => ?_)
      · exact absurd rfl h33
      · refine lv_iconst (v := -1) hx hb dX_take_36 (by decide) ?_
        exact gx_iret hx hb hr hV hS ⟨fun _ => ⟨rfl, rfl⟩, fun x t q0 => (by rw [hh] at q0; cases q0)⟩ dX_take_37 hlk
    · rw [hh] at hw
      obtain ⟨hx24, hx5, hx8⟩ := hP.mem ok5 (x := x) (by rw [hh]; simp)
      have hxm : x / 8 = m := by unfold mq_in at hx8; rw [if_pos hm] at hx8; exact hx8
      have hbt : b.testBit (x % 8) = true := by rw [hb2 (x % 8) (by omega), show 8 * m + x % 8 = x by omega, hx5]; decide
      obtain ⟨⟨hso, hso3⟩, -, ⟨had, had4, -⟩, -, hdt⟩ := hG x hx24 (by rw [hx5]; decide)
      refine gx_calli (va_runV (As := []) (rest := []) ⟨hx, hb, hml, hown, ht⟩ (k_L_removeFirst l (t := t.length) (cx_isL_B hm) hw.1.1 hw.2) (cwV 0 ht (mx_gV (C := "MessageCrossbar$Line") mw_304 mw_305 mw_306 mw_3 mw_307) rfl rfl rfl (by decide +kernel) ⟨Nat.le_of_ble_eq_true rfl, Nat.le_of_ble_eq_true rfl⟩) (gx_preV cx_ok hV hZ hS (q := (mR_L, mT_L, 2)) ((cx_isL_B hm)).lt.1 (cx_E_L (cx_isL_B hm)).1 rfl []) rfl rfl hl.1 rfl (lv_room (Nat.le_of_ble_eq_true rfl)) dX_take_27 ⟨Nat.le_of_ble_eq_true rfl, Nat.le_of_ble_eq_true rfl⟩) hV hS (fun r3 σ' τ' H locs hp hV hS => ?_)
      obtain ⟨h9, hu⟩ := hp
      rw [hw.1.first] at h9
      subst h9
      cases hu
      refine lv_istore_n (lv' := [(3, .int (nI x)), (2, .ref (ad (2 + 5 * m))), (0, .ref (ad 0)), (1, .int (nI m))]) hx hb dX_take_30 rfl hl (by decide) rfl (fun ls hl => ?_)
      refine lv_iload_n hx hb dX_take_31 rfl (lv_at hl 0 rfl) ?_
      refine lv_iconst (v := -1) hx hb dX_take_32 (by decide) ?_
      refine lv_icmp_ne (tgt := 38) hx hb dX_take_33 (by decide) (fun h33 => ?_) (fun h33 => ?_)
      · refine lv_iload_n hx hb dX_take_38 rfl (lv_at hl 0 rfl) ?_
        refine gx_callp (va_runS (As := [.int (nI x)]) (rest := []) ⟨hx, hb, hml, hown, ht⟩ (k_X_sourceOf l) (cwS 1 ht (mx_gS mw_418 mw_419 mw_1 mw_420) rfl rfl rfl (by decide +kernel) ⟨Nat.le_of_ble_eq_true rfl, Nat.le_of_ble_eq_true rfl⟩) (gx_preP [.int (nI x)]) rfl rfl hl.1 rfl (lv_room (Nat.le_of_ble_eq_true rfl)) dX_take_39 ⟨Nat.le_of_ble_eq_true rfl, Nat.le_of_ble_eq_true rfl⟩) hV hS (fun r4 H locs hp hV hS => ?_)
        rw [cx_and7 hx24] at hp
        subst hp
        refine lv_istore (lv' := [(4, .int (nI (x % 8))), (3, .int (nI x)), (2, .ref (ad (2 + 5 * m))), (0, .ref (ad 0)), (1, .int (nI m))]) hx hb dX_take_42 hl (by decide) rfl (fun ls hl => ?_)
        refine lv_aload_n hx hb dX_take_44 rfl (lv_at hl 3 rfl) ?_
        refine gx_get (C := mR_X) (T := mT_X) (N' := 7) hx hb ht mh_X hown hV (by decide) cx_E_X rfl 2 (by decide) (ht _ mw_131) (fun _ h => h) rfl dX_take_45 ?_
        refine lv_iload_n hx hb dX_take_48 rfl (lv_at hl 1 rfl) ?_
        refine gx_aald hx hb hV (by decide) 6 cx_E_Gs rfl x hx24 (by decide) rfl rfl dX_take_49 ?_
        refine lv_astore (lv' := [(5, .ref (ad (43 + x))), (4, .int (nI (x % 8))), (3, .int (nI x)), (2, .ref (ad (2 + 5 * m))), (0, .ref (ad 0)), (1, .int (nI m))]) hx hb dX_take_50 hl (by decide) rfl (fun ls hl => ?_)
        refine lv_aload_n hx hb dX_take_52 rfl (lv_at hl 3 rfl) ?_
        refine lv_dup hx hb dX_take_53 rfl ?_
        refine gx_get (C := mR_M) (T := mT_M) (N' := 5) (v := .int (nI b)) hx hb ht mh_M hown hV (show 2 + 5 * m < 70 by omega) (cx_E_M hm) rfl 2 (by decide) (ht _ mw_49) (fun _ h => h) (congrArg (fun z => some (Value.int z)) (by rw [cx_rem_n (by omega) (by omega)]; exact hb1)) dX_take_54 ?_
        refine lv_iconst (v := nI 1) hx hb dX_take_57 (by decide) ?_
        refine lv_iload hx hb dX_take_58 (lv_at hl 1 rfl) ?_
        refine lv_ishl hx hb dX_take_60 ?_
        refine lv_iconst (v := -1) hx hb dX_take_61 (by decide) ?_
        refine lv_ixor hx hb dX_take_62 ?_
        refine lv_iand hx hb dX_take_63 ?_
        refine gx_top (cx_xorb b hb0 (x % 8) (by omega) hbt) ?_
        refine gx_put cx_loc (C := mR_M) (T := mT_M) (N' := 5) (ty := .int) (v := .int (nI (b ^^^ 2 ^ (x % 8)))) hx hb ht mh_M mt_M mk_M mn_M hown hV hS (show 2 + 5 * m < 70 by omega) (cx_E_M hm) rfl 2 (by decide) (ht _ mw_49) (fun _ h => h) rfl (by decide +kernel) rfl rfl (Nat.le_of_ble_eq_true rfl) dX_take_64 (cx_up (cx_rem σ (5 + 5 * m) t.length) (2 + 5 * m) 2 (nI (b ^^^ 2 ^ (x % 8)))) τ (by rw [cx_E_M hm]; simp [cx_up, gx_upL]) (fun _ h => cx_up_J h) (fun _ _ => rfl) (fun H locs hV hS => ?_)
        refine lv_aload_n hx hb dX_take_67 rfl (lv_at hl 4 rfl) ?_
        refine lv_aload hx hb dX_take_68 (lv_at hl 0 rfl) ?_
        refine gx_get (C := mR_G) (T := mT_G) (N' := 5) hx hb ht mh_G hown hV (show 43 + x < 70 by omega) (cx_E_G hx24) rfl 3 (by decide) (ht _ mw_116) (fun _ h => h) rfl dX_take_70 ?_
        refine gx_put cx_loc (C := mR_X) (T := mT_X) (N' := 7) (ty := .long) (v := .long (τ (43 + x) 0)) hx hb ht mh_X mt_X mk_X mn_X hown hV hS (by decide) cx_E_X rfl 6 (by decide) (ht _ mw_135) (fun _ h => h) rfl (by decide +kernel) rfl rfl (Nat.le_of_ble_eq_true rfl) dX_take_73 (cx_up (cx_rem σ (5 + 5 * m) t.length) (2 + 5 * m) 2 (nI (b ^^^ 2 ^ (x % 8)))) (gx_upL τ 0 0 (τ (43 + x) 0)) (by rw [cx_E_X]; simp [cx_up, gx_upL]) (fun _ _ => rfl) (fun _ h => gx_upL_J h) (fun H locs hV hS => ?_)
        refine lv_aload_n hx hb dX_take_76 rfl (lv_at hl 4 rfl) ?_
        refine gx_get (C := mR_X) (T := mT_X) (N' := 7) hx hb ht mh_X hown hV (by decide) cx_E_X rfl 5 (by decide) (ht _ mw_134) (fun _ h => h) rfl dX_take_77 ?_
        refine lv_iconst (v := nI 5) hx hb dX_take_80 (by decide) ?_
        refine lv_dup2_11 hx hb dX_take_81 rfl rfl ?_
        refine gx_ialdv (v := σ 69 5) hx hb hV (by decide) 0 cx_E_Ct rfl 5 (by decide) (by decide) rfl (by simp (disch := omega) only [cx_up_J, cx_app_n, cx_rel_n, cx_rem_n]) dX_take_82 ?_
        refine lv_iconst (v := nI 1) hx hb dX_take_83 (by decide) ?_
        refine lv_iadd hx hb dX_take_84 ?_
        refine gx_iast cx_loc hx hb hV hS (by decide) 0 cx_E_Ct rfl 5 (by decide) (by decide) rfl dX_take_85 (cx_up (cx_up (cx_rem σ (5 + 5 * m) t.length) (2 + 5 * m) 2 (nI (b ^^^ 2 ^ (x % 8)))) 69 5 (σ 69 5 + (nI 1))) (by rw [cx_E_Ct, cx_up_upd]) (fun _ h => cx_up_J h) (fun H locs hV hS => ?_)
        refine lv_iload hx hb dX_take_86 (lv_at hl 1 rfl) ?_
        refine lv_bipush (v := nI 8) hx hb dX_take_88 (by decide) ?_
        refine lv_aload hx hb dX_take_90 (lv_at hl 0 rfl) ?_
        refine gx_get (C := mR_G) (T := mT_G) (N' := 5) (v := .int (nI (ρ 3 x))) hx hb ht mh_G hown hV (show 43 + x < 70 by omega) (cx_E_G hx24) rfl 0 (by decide) (ht _ mw_111) (fun _ h => h) (congrArg (fun z => some (Value.int z)) (by rw [cx_up_J (by omega), cx_up_J (by omega), cx_rem_n (by omega) (by omega)]; exact hso)) dX_take_92 ?_
        refine gx_imul (a := 8) (b := (ρ 3 x)) hx hb dX_take_95 ?_
        refine gx_iadd (a := (x % 8)) (b := (8 * (ρ 3 x))) hx hb dX_take_96 ?_
        refine lv_istore (lv' := [(6, .int (nI ((x % 8) + (8 * (ρ 3 x))))), (5, .ref (ad (43 + x))), (4, .int (nI (x % 8))), (3, .int (nI x)), (2, .ref (ad (2 + 5 * m))), (0, .ref (ad 0)), (1, .int (nI m))]) hx hb dX_take_97 hl (by decide) rfl (fun ls hl => ?_)
        refine lv_aload hx hb dX_take_99 (lv_at hl 1 rfl) ?_
        refine gx_calli (va_runV (As := []) (rest := []) ⟨hx, hb, hml, hown, ht⟩ (k_G_isDenied l hx24 (a := ρ 5 x) (by rw [cx_up_J (by omega), cx_up_J (by omega), cx_rem_n (by omega) (by omega)]; exact had) had4) (cwV 0 ht (mx_gV (C := "MessageCrossbar$Message") mw_338 mw_339 mw_340 mw_5 mw_341) rfl rfl rfl (by decide +kernel) ⟨Nat.le_of_ble_eq_true rfl, Nat.le_of_ble_eq_true rfl⟩) (gx_preV cx_ok hV hZ hS (q := (mR_G, mT_G, 5)) (show 43 + x < 70 by omega) (cx_E_G hx24) rfl []) rfl rfl hl.1 rfl (lv_room (Nat.le_of_ble_eq_true rfl)) dX_take_101 ⟨Nat.le_of_ble_eq_true rfl, Nat.le_of_ble_eq_true rfl⟩) hV hS (fun r5 σ' τ' H locs hp hV hS => ?_)
        obtain ⟨rfl, hu⟩ := hp
        cases hu
        refine gx_ifb_ne (q := 640 ≤ ρ 5 x) (tgt := 110) hx hb dX_take_104 (by decide) (fun h104 => ?_) (fun h104 => ?_)
        · refine lv_aload_n hx hb dX_take_110 rfl (lv_at hl 5 rfl) ?_
          refine gx_get (C := mR_X) (T := mT_X) (N' := 7) hx hb ht mh_X hown hV (by decide) cx_E_X rfl 5 (by decide) (ht _ mw_134) (fun _ h => h) rfl dX_take_111 ?_
          refine lv_bipush (v := nI 6) hx hb dX_take_114 (by decide) ?_
          refine lv_dup2_11 hx hb dX_take_116 rfl rfl ?_
          refine gx_ialdv (v := σ 69 6) hx hb hV (by decide) 0 cx_E_Ct rfl 6 (by decide) (by decide) rfl (by rw [cx_up_k (by omega), cx_up_J (by omega), cx_rem_n (by omega) (by omega)]) dX_take_117 ?_
          refine lv_iconst (v := nI 1) hx hb dX_take_118 (by decide) ?_
          refine lv_iadd hx hb dX_take_119 ?_
          refine gx_iast cx_loc hx hb hV hS (by decide) 0 cx_E_Ct rfl 6 (by decide) (by decide) rfl dX_take_120 (cx_up (cx_up (cx_up (cx_rem σ (5 + 5 * m) t.length) (2 + 5 * m) 2 (nI (b ^^^ 2 ^ (x % 8)))) 69 5 (σ 69 5 + (nI 1))) 69 6 (σ 69 6 + (nI 1))) (by rw [cx_E_Ct, cx_up_upd]) (fun _ h => cx_up_J h) (fun H locs hV hS => ?_)
          refine lv_iload hx hb dX_take_121 (lv_at hl 0 rfl) ?_
          refine lv_bipush (v := nI 32) hx hb dX_take_123 (by decide) ?_
          refine gx_iadd (a := ((x % 8) + (8 * (ρ 3 x)))) (b := 32) hx hb dX_take_125 ?_
          exact gx_iret hx hb hr hV hS ⟨fun q0 => (by rw [hh] at q0; cases q0), fun x' t' q0 => (by rw [hh] at q0; cases q0; exact ⟨by rw [if_pos h104], by have := hR0.tk hm hh hb0 hb1 hb2; rw [← hdt] at this; rw [if_pos h104] at this; exact this⟩)⟩ dX_take_126 hlk
        · refine lv_iload hx hb dX_take_107 (lv_at hl 0 rfl) ?_
          exact gx_iret hx hb hr hV hS ⟨fun q0 => (by rw [hh] at q0; cases q0), fun x' t' q0 => (by rw [hh] at q0; cases q0; exact ⟨by rw [if_neg h104]; rfl, by have := hR0.tk hm hh hb0 hb1 hb2; rw [← hdt] at this; rw [if_neg h104, cx_tk0 hm] at this; exact this⟩)⟩ dX_take_109 hlk
      · exact absurd h33 (rr_m1 hx24)
  · exact absurd (cx_bl hm (by decide)) h5

set_option maxHeartbeats 4000000 in
set_option maxRecDepth 100000 in
theorem k_X_data (l : Launch) {D : va_G} {K : Nat → ClassId} {ad : Nat → Nat} {σ : Nat → Nat → Int32} {τ : Nat → Nat → Int64} {ρ : Nat → Nat → Nat} {μ : Nat → Int64} {lt : Int64} {pl : Nat → Nat → List Nat} (hR : rr_R σ τ ρ μ lt pl) : Met l yX_data (Cond.code yX_data prog_1_method_6_code 1 (some .long) :: mx_T) { frames := 0, cells := 0, slots := 0, locals := 0 } (va_Pc [.ref (ad 0)] (cx_P D K ad σ τ)) (cx_Ql D K ad (fun rr u => rr = lt ∧ u = (σ, τ))) 0 0 (gx_A ad 70) := by
  refine gx_met (by decide) rfl (Nat.le_of_ble_eq_true rfl) ?_
  intro pg ev s mid as below mth c ls hx hb hr hml ht hown hlk hnm hargs hB hl
  obtain ⟨hV, hZ⟩ := hB
  have hS : va_S (gx_A ad 70) s.heap s.heap [] := va_S.rf
  have hl : lv_has ls 1 [(0, .ref (ad 0))] := hl
  refine lv_aload_n hx hb dX_data_0 rfl (lv_at hl 0 rfl) ?_
  refine gx_get (C := mR_X) (T := mT_X) (N' := 7) hx hb ht mh_X hown hV (by decide) cx_E_X rfl 6 (by decide) (ht _ mw_135) (fun _ h => h) rfl dX_data_1 ?_
  exact gx_lret hx hb hr hV hS ⟨hR.2.2.2.2.2.2.2, rfl⟩ dX_data_4 hlk
