/-! the reference: answers, work, serve, fetch -/
theorem mq_many_lt (ρ : Nat → Nat → Nat) (w g : Nat) : mq_many ρ w g < 2 ^ 31 := by
  have := mq_cnt_le (mq_is ρ w g) 24
  unfold mq_many
  omega
theorem mq_ans_some {ρ : Nat → Nat → Nat} {m i x : Nat} (hd : mq_ansD ρ m = some i) (hx : mq_first ρ 4 (3 + (ρ 10 m + i) % 4) = some x) : mq_answers ρ m = mq_ansM ρ m ((ρ 10 m + i) % 4) x := by
  unfold mq_answers
  rw [hd]
  show mq_ansM ρ m ((ρ 10 m + i) % 4) ((mq_first ρ 4 (3 + (ρ 10 m + i) % 4)).getD 0) = _
  rw [hx]
  rfl
theorem mq_ftc_some {ρ : Nat → Nat → Nat} {p i x j : Nat} (hd : mq_reqD ρ p = some i) (hx : mq_first ρ 1 ((ρ 11 p + i) % 3) = some x) (hj : mq_free ρ p = some j) : mq_fetch ρ p = mq_reqM ρ p ((ρ 11 p + i) % 3) x j := by
  unfold mq_fetch
  rw [hd]
  show mq_reqM ρ p ((ρ 11 p + i) % 3) ((mq_first ρ 1 ((ρ 11 p + i) % 3)).getD 0) ((mq_free ρ p).getD 0) = _
  rw [hx, hj]
  rfl
theorem mq_gotS {g b i : Nat} (hb : b < 256) (hi : i < 8) (hg : g < 256 ^ i) : lN g ||| ((nI b).toInt64 <<< ((nI (8 * i)).toInt64 &&& 63)) = lN (g + b * 256 ^ i) := by
  rw [nI_l (by omega), wb_shl b (by omega)]
  have hp : 2 ^ (8 * i) = 256 ^ i := by rw [show (256 : Nat) = 2 ^ 8 from rfl, ← Nat.pow_mul]
  rw [hp]
  refine g_or' (k := 8 * i) hp hg ?_
  have h1 : b * 256 ^ i ≤ 255 * 256 ^ i := Nat.mul_le_mul_right _ (by omega)
  have h2 : 256 ^ (i + 1) ≤ 256 ^ 8 := Nat.pow_le_pow_right (by omega) (by omega)
  rw [Nat.pow_succ] at h2
  have h3 : (256 : Nat) ^ 8 = 2 ^ 64 := rfl
  omega

set_option maxHeartbeats 4000000 in
set_option maxRecDepth 100000 in
theorem k_R_answers (l : Launch) {D : va_G} {K : Nat → ClassId} {ad : Nat → Nat} {ρ : Nat → Nat → Nat} {μ : Nat → Int64} {lt : Int64} {m : Nat} (hm : m < 3) {cσ : Nat → Nat → Int32} {cτ : Nat → Nat → Int64} {pl : Nat → Nat → List Nat} (hR : rr_R cσ cτ ρ μ lt pl) (hmv : ρ 0 1 + 16 < 2 ^ 31) : Met l yR_answers (Cond.code yR_answers prog_7_method_15_code 5 none :: mx_T) { frames := 3, cells := 0, slots := 0, locals := 67 } (va_Pc [.ref (ad 0), .int (nI m)] (rx_P D K ad (mq_n ρ) (rx_t μ lt))) (rx_Qv D K ad (fun u => u = (mq_n (mq_answers ρ m), rx_t μ lt))) 0 0 (gx_A ad 17) := by
  refine gx_met (by decide) rfl (Nat.le_of_ble_eq_true rfl) ?_
  intro pg ev s mid as below mth c ls hx hb hr hml ht hown hlk hnm hargs hB hl
  obtain ⟨hV, hZ⟩ := hB
  have hS : va_S (gx_A ad 17) s.heap s.heap [] := va_S.rf
  have hl : lv_has ls 5 [(0, .ref (ad 0)), (1, .int (nI m))] := hl
  have hV0 := hR.V (by omega)
  refine lv_aload_n hx hb dR_answers_0 rfl (lv_at hl 0 rfl) ?_
  refine gx_get (C := mR_R) (T := mT_R) (N' := 20) hx hb ht mh_R hown hV (by decide) rx_E_0 rfl 10 (by decide) (ht _ mw_482) (fun _ h => h) rfl dR_answers_1 ?_
  refine lv_iload_n hx hb dR_answers_4 rfl (lv_at hl 1 rfl) ?_
  refine gx_zald hx hb hV (by decide) 2 rx_E_9 rfl m hm (by decide) rfl dR_answers_5 ?_
  refine gx_top (y := nI (ρ 9 m)) rfl ?_
  refine gx_if_ne (a := (ρ 9 m)) (tgt := 19) hx hb dR_answers_6 (by decide) (by have := (hV0.2.1 m hm).1; omega) (fun h6 => ?_) (fun h6 => ?_)
  · exact gx_vret hx hb hr hV hS (by rw [rr_ansN (show mq_ansD ρ m = none from if_pos (Or.inl h6))]) dR_answers_19 hlk
  · refine lv_aload_n hx hb dR_answers_9 rfl (lv_at hl 0 rfl) ?_
    refine lv_iconst (v := nI 5) hx hb dR_answers_10 (by decide) ?_
    refine lv_iload_n hx hb dR_answers_11 rfl (lv_at hl 1 rfl) ?_
    refine gx_top (y := mq_who m) (mq_who_lo hm).symm ?_
    refine gx_calli (va_runV (As := [.int (nI 5), .int (mq_who m)]) (rest := []) ⟨hx, hb, hml, hown, ht⟩ (k_R_many l (by omega) (by omega) hV0) (cwV 2 ht (mx_gV (C := "MessageCrossbarModel") mw_546 mw_548 ms_16 mw_6 mw_549) rfl rfl rfl (by decide +kernel) ⟨Nat.le_of_ble_eq_true rfl, Nat.le_of_ble_eq_true rfl⟩) (gx_preV rx_ok hV hZ hS (q := (mR_R, mT_R, 20)) (by decide) rx_E_0 rfl [.int (nI 5), .int (mq_who m)]) rfl rfl hl.1 rfl (lv_room (Nat.le_of_ble_eq_true rfl)) dR_answers_12 ⟨Nat.le_of_ble_eq_true rfl, Nat.le_of_ble_eq_true rfl⟩) hV hS (fun r1 σ' τ' H locs hp hV hS => ?_)
    obtain ⟨rfl, hu⟩ := hp
    cases hu
    refine lv_iconst (v := nI 3) hx hb dR_answers_15 (by decide) ?_
    refine gx_icmp_le (a := (mq_many ρ 5 m)) (b := 3) (tgt := 20) hx hb dR_answers_16 (by decide) (mq_many_lt _ _ _) (by omega) (fun h16 => ?_) (fun h16 => ?_)
    · refine lv_iconst (v := nI 0) hx hb dR_answers_20 (by decide) ?_
      refine lv_istore_n (lv' := [(2, .int (nI 0)), (0, .ref (ad 0)), (1, .int (nI m))]) hx hb dR_answers_21 rfl hl (by decide) rfl (fun ls hl => ?_)
      have loop : ∀ (k : Nat) (i : Nat) (H : Heap) (locs : List Loc) (ls : Array Slot), i + k = 4 → mq_fnd (mq_ansK ρ m) 0 4 = mq_fnd (mq_ansK ρ m) i k → gx_V D mx_cl (mx_tys K) (rx_E ad K) ad 17 (mq_n ρ) (rx_t μ lt) s H → va_S (gx_A ad 17) s.heap H locs → lv_has ls 5 [(2, .int (nI i)), (0, .ref (ad 0)), (1, .int (nI m))] → W pg l ev (headSpec (Cond.code yR_answers prog_7_method_15_code 5 none :: mx_T) { frames := 3, cells := 0, slots := 0, locals := 67 }).room s mid as below mth c H locs 0 0 (MQ below (rx_Qv D K ad (fun u => u = (mq_n (mq_answers ρ m), rx_t μ lt))) as s 0 0 (gx_A ad 17)) (F0 mid 22 ls []) := by
        intro k
        induction k with
        | zero =>
          intro i H locs ls hk hf hV hS hl
          refine lv_iload_n hx hb dR_answers_22 rfl (lv_at hl 0 rfl) ?_
          refine lv_iconst (v := nI 4) hx hb dR_answers_23 (by decide) ?_
          refine gx_icmp_ge (a := i) (b := 4) (tgt := 100) hx hb dR_answers_24 (by decide) (by omega) (by omega) (fun h24 => ?_) (fun h24 => ?_)
          · exact gx_vret hx hb hr hV hS (by rw [rr_ansN (show mq_ansD ρ m = none from (if_neg (by omega)).trans hf)]) dR_answers_100 hlk
          · exact absurd h24 (by omega)
        | succ k ih =>
          intro i H locs ls hk hf hV hS hl
          refine lv_iload_n hx hb dR_answers_22 rfl (lv_at hl 0 rfl) ?_
          refine lv_iconst (v := nI 4) hx hb dR_answers_23 (by decide) ?_
          refine gx_icmp_ge (a := i) (b := 4) (tgt := 100) hx hb dR_answers_24 (by decide) (by omega) (by omega) (fun h24 => ?_) (fun h24 => ?_)
          · exact absurd h24 (by omega)
          · refine lv_aload_n hx hb dR_answers_27 rfl (lv_at hl 1 rfl) ?_
            refine gx_get (C := mR_R) (T := mT_R) (N' := 20) hx hb ht mh_R hown hV (by decide) rx_E_0 rfl 11 (by decide) (ht _ mw_483) (fun _ h => h) rfl dR_answers_28 ?_
            refine lv_iload_n hx hb dR_answers_31 rfl (lv_at hl 2 rfl) ?_
            refine gx_ialdv (v := nI (ρ 10 m)) hx hb hV (by decide) 0 rx_E_10 rfl m hm (by decide) rfl rfl dR_answers_32 ?_
            refine lv_iload_n hx hb dR_answers_33 rfl (lv_at hl 0 rfl) ?_
            refine gx_iadd (a := (ρ 10 m)) (b := i) hx hb dR_answers_34 ?_
            refine lv_iconst (v := nI 4) hx hb dR_answers_35 (by decide) ?_
            refine gx_irem (a := ((ρ 10 m) + i)) (b := 4) hx hb dR_answers_36 (by have := (hV0.2.1 m hm).2; omega) (by omega) (by omega) ?_
            refine lv_istore_n (lv' := [(3, .int (nI (((ρ 10 m) + i) % 4))), (2, .int (nI i)), (0, .ref (ad 0)), (1, .int (nI m))]) hx hb dR_answers_37 rfl hl (by decide) rfl (fun ls hl => ?_)
            refine lv_aload_n hx hb dR_answers_38 rfl (lv_at hl 2 rfl) ?_
            refine lv_iconst (v := nI 4) hx hb dR_answers_39 (by decide) ?_
            refine lv_iconst (v := -1) hx hb dR_answers_40 (by decide) ?_
            refine lv_iload_n hx hb dR_answers_41 rfl (lv_at hl 0 rfl) ?_
            refine lv_isub hx hb dR_answers_42 ?_
            refine gx_top (y := mq_who (3 + (ρ 10 m + i) % 4)) mq_who_hi.symm ?_
            refine gx_calli (va_runV (As := [.int (nI 4), .int (mq_who (3 + (ρ 10 m + i) % 4))]) (rest := []) ⟨hx, hb, hml, hown, ht⟩ (k_R_first l (by omega) (by omega) hV0) (cwV 2 ht (mx_gV (C := "MessageCrossbarModel") mw_573 mw_575 ms_20 mw_6 mw_576) rfl rfl rfl (by decide +kernel) ⟨Nat.le_of_ble_eq_true rfl, Nat.le_of_ble_eq_true rfl⟩) (gx_preV rx_ok hV hZ hS (q := (mR_R, mT_R, 20)) (by decide) rx_E_0 rfl [.int (nI 4), .int (mq_who (3 + (ρ 10 m + i) % 4))]) rfl rfl hl.1 rfl (lv_room (Nat.le_of_ble_eq_true rfl)) dR_answers_43 ⟨Nat.le_of_ble_eq_true rfl, Nat.le_of_ble_eq_true rfl⟩) hV hS (fun r2 σ' τ' H locs hp hV hS => ?_)
            obtain ⟨rfl, hu⟩ := hp
            cases hu
            cases hq : mq_first ρ 4 (3 + (ρ 10 m + i) % 4) with
            | none =>
              refine lv_istore (lv' := [(4, .int (-1)), (3, .int (nI (((ρ 10 m) + i) % 4))), (2, .int (nI i)), (0, .ref (ad 0)), (1, .int (nI m))]) hx hb dR_answers_46 hl (by decide) rfl (fun ls hl => ?_)
              refine lv_iload hx hb dR_answers_48 (lv_at hl 0 rfl) ?_
              refine lv_if_lt (tgt := 94) hx hb dR_answers_50 (by decide) (fun h50 => ?_) (fun h50 => ?_)
              · refine lv_iinc (k := 2) (v := (nI (i + 1))) (lv' := [(2, .int (nI (i + 1))), (4, .int (-1)), (3, .int (nI (((ρ 10 m) + i) % 4))), (0, .ref (ad 0)), (1, .int (nI m))]) hx hb dR_answers_94 hl rfl (nI_succ i).symm (by decide) rfl (fun ls hl => ?_)
                refine lv_goto (tgt := 22) hx hb dR_answers_97 (by decide) ?_
                exact ih (i + 1) H locs ls (by omega) (by rw [hf, mq_fnd_f (by simp [mq_ansK, hq])]) hV hS (lv_sub hl [0, 3, 4] rfl)
              · exact absurd (show (-1 : Int32) < 0 by decide) h50
            | some x =>
              have hx24 := rr_first_lt hR.2.1 (w := 4) (g := 3 + (ρ 10 m + i) % 4) (Or.inr ⟨by simp, by omega, by omega⟩) hq
              refine lv_istore (lv' := [(4, .int (nI x)), (3, .int (nI (((ρ 10 m) + i) % 4))), (2, .int (nI i)), (0, .ref (ad 0)), (1, .int (nI m))]) hx hb dR_answers_46 hl (by decide) rfl (fun ls hl => ?_)
              refine lv_iload hx hb dR_answers_48 (lv_at hl 0 rfl) ?_
              refine lv_if_lt (tgt := 94) hx hb dR_answers_50 (by decide) (fun h50 => ?_) (fun h50 => ?_)
              · exact absurd h50 (nI_pos (by omega))
              · refine lv_iload hx hb dR_answers_53 (lv_at hl 0 rfl) ?_
                refine lv_bipush (v := nI 8) hx hb dR_answers_55 (by decide) ?_
                refine gx_idiv (a := x) (b := 8) hx hb dR_answers_57 (by omega) (by omega) (by omega) ?_
                refine lv_iload_n hx hb dR_answers_58 rfl (lv_at hl 4 rfl) ?_
                refine gx_icmp_eq (a := (x / 8)) (b := m) (tgt := 65) hx hb dR_answers_59 (by decide) (by omega) (by omega) (fun h59 => ?_) (fun h59 => ?_)
                · refine lv_aload_n hx hb dR_answers_65 rfl (lv_at hl 3 rfl) ?_
                  refine gx_get (C := mR_R) (T := mT_R) (N' := 20) hx hb ht mh_R hown hV (by decide) rx_E_0 rfl 11 (by decide) (ht _ mw_483) (fun _ h => h) rfl dR_answers_66 ?_
                  refine lv_iload_n hx hb dR_answers_69 rfl (lv_at hl 4 rfl) ?_
                  refine lv_iload_n hx hb dR_answers_70 rfl (lv_at hl 1 rfl) ?_
                  refine lv_iconst (v := nI 1) hx hb dR_answers_71 (by decide) ?_
                  refine gx_iadd (a := (((ρ 10 m) + i) % 4)) (b := 1) hx hb dR_answers_72 ?_
                  refine lv_iconst (v := nI 4) hx hb dR_answers_73 (by decide) ?_
                  refine gx_irem (a := ((((ρ 10 m) + i) % 4) + 1)) (b := 4) hx hb dR_answers_74 (by omega) (by omega) (by omega) ?_
                  refine gx_iast rx_loc hx hb hV hS (by decide) 0 rx_E_10 rfl m hm (by decide) rfl dR_answers_75 (cx_up (mq_n ρ) 10 m (nI (((((ρ 10 m) + i) % 4) + 1) % 4))) (by rw [rx_E_10, cx_up_upd]) (fun _ h => cx_up_J h) (fun H locs hV hS => ?_)
                  rw [rx_up] at hV
                  refine lv_aload_n hx hb dR_answers_76 rfl (lv_at hl 3 rfl) ?_
                  refine lv_iload hx hb dR_answers_77 (lv_at hl 0 rfl) ?_
                  refine lv_iconst (v := nI 5) hx hb dR_answers_79 (by decide) ?_
                  refine gx_callv (va_runV (As := [.int (nI x), .int (nI 5)]) (rest := []) ⟨hx, hb, hml, hown, ht⟩ (k_R_go l hx24) (cwV 2 ht (mx_gV (C := "MessageCrossbarModel") mw_557 mw_559 ms_18 mw_6 mw_560) rfl rfl rfl (by decide +kernel) ⟨Nat.le_of_ble_eq_true rfl, Nat.le_of_ble_eq_true rfl⟩) (gx_preV rx_ok hV hZ hS (q := (mR_R, mT_R, 20)) (by decide) rx_E_0 rfl [.int (nI x), .int (nI 5)]) rfl rfl hl.1 rfl (lv_room (Nat.le_of_ble_eq_true rfl)) dR_answers_80 ⟨Nat.le_of_ble_eq_true rfl, Nat.le_of_ble_eq_true rfl⟩) hV hS (fun σ' τ' H locs hp hV hS => ?_)
                  cases hp
                  refine lv_aload_n hx hb dR_answers_83 rfl (lv_at hl 3 rfl) ?_
                  refine gx_get (C := mR_R) (T := mT_R) (N' := 20) hx hb ht mh_R hown hV (by decide) rx_E_0 rfl 17 (by decide) (ht _ mw_489) (fun _ h => h) rfl dR_answers_84 ?_
                  refine lv_iconst (v := nI 4) hx hb dR_answers_87 (by decide) ?_
                  refine lv_dup2_11 hx hb dR_answers_88 rfl rfl ?_
                  refine gx_ialdv (v := nI ((mq_go (mq_up ρ 10 m (((ρ 10 m + i) % 4 + 1) % 4)) x 5) 16 4)) hx hb hV (by decide) 0 rx_E_16 rfl 4 (by decide) (by decide) rfl rfl dR_answers_89 ?_
                  refine lv_iconst (v := nI 1) hx hb dR_answers_90 (by decide) ?_
                  refine gx_iadd (a := ((mq_go (mq_up ρ 10 m (((ρ 10 m + i) % 4 + 1) % 4)) x 5) 16 4)) (b := 1) hx hb dR_answers_91 ?_
                  refine gx_iast rx_loc hx hb hV hS (by decide) 0 rx_E_16 rfl 4 (by decide) (by decide) rfl dR_answers_92 (cx_up (mq_n (mq_go (mq_up ρ 10 m (((ρ 10 m + i) % 4 + 1) % 4)) x 5)) 16 4 (nI (((mq_go (mq_up ρ 10 m (((ρ 10 m + i) % 4 + 1) % 4)) x 5) 16 4) + 1))) (by rw [rx_E_16, cx_up_upd]) (fun _ h => cx_up_J h) (fun H locs hV hS => ?_)
                  rw [rx_up] at hV
                  exact gx_vret hx hb hr hV hS (by rw [mq_ans_some (show mq_ansD ρ m = some i from (if_neg (by omega)).trans (hf.trans (mq_fnd_t (by simp [mq_ansK, hq, h59])))) hq]; rfl) dR_answers_93 hlk
                · refine lv_goto (tgt := 94) hx hb dR_answers_62 (by decide) ?_
                  refine lv_iinc (k := 2) (v := (nI (i + 1))) (lv' := [(2, .int (nI (i + 1))), (4, .int (nI x)), (3, .int (nI (((ρ 10 m) + i) % 4))), (0, .ref (ad 0)), (1, .int (nI m))]) hx hb dR_answers_94 hl rfl (nI_succ i).symm (by decide) rfl (fun ls hl => ?_)
                  refine lv_goto (tgt := 22) hx hb dR_answers_97 (by decide) ?_
                  exact ih (i + 1) H locs ls (by omega) (by rw [hf, mq_fnd_f (by simp [mq_ansK, hq, h59])]) hV hS (lv_sub hl [0, 3, 4] rfl)
      exact loop 4 0 _ _ ls (by omega) rfl hV hS hl
    · exact gx_vret hx hb hr hV hS (by rw [rr_ansN (show mq_ansD ρ m = none from if_pos (Or.inr (by omega)))]) dR_answers_19 hlk

set_option maxHeartbeats 4000000 in
set_option maxRecDepth 100000 in
theorem k_R_workA (l : Launch) {D : va_G} {K : Nat → ClassId} {ad : Nat → Nat} {ρ : Nat → Nat → Nat} {μ : Nat → Int64} {lt : Int64} {x z : Nat} (hx2 : x < 24) (hz4 : z < 4) (hz : ρ 4 x = 2 ^ z) (ha : 640 ≤ ρ 5 x) (ha4 : ρ 5 x < 1024) : Met l yR_work (Cond.code yR_work prog_7_method_16_code 6 none :: mx_T) { frames := 0, cells := 0, slots := 0, locals := 0 } (va_Pc [.ref (ad 0), .int (nI x)] (rx_P D K ad (mq_n ρ) (rx_t μ lt))) (rx_Qv D K ad (fun u => u = (mq_n ρ, rx_t (mq_upL μ x 0) lt))) 0 0 (gx_A ad 17) := by
  refine gx_met (by decide) rfl (Nat.le_of_ble_eq_true rfl) ?_
  intro pg ev s mid as below mth c ls hx hb hr hml ht hown hlk hnm hargs hB hl
  obtain ⟨hV, hZ⟩ := hB
  have hS : va_S (gx_A ad 17) s.heap s.heap [] := va_S.rf
  have hl : lv_has ls 6 [(0, .ref (ad 0)), (1, .int (nI x))] := hl
  have hz8 := cx_p8 hz4
  refine lv_lconst (v := 0) hx hb dR_work_0 (by decide) ?_
  refine lv_lstore_n (lv' := [(2, .long 0), (0, .ref (ad 0)), (1, .int (nI x))]) hx hb dR_work_1 rfl hl (by decide) rfl (fun ls hl => ?_)
  refine lv_iconst (v := nI 0) hx hb dR_work_2 (by decide) ?_
  refine lv_istore (lv' := [(4, .int (nI 0)), (2, .long 0), (0, .ref (ad 0)), (1, .int (nI x))]) hx hb dR_work_3 hl (by decide) rfl (fun ls hl => ?_)
  refine lv_iload hx hb dR_work_5 (lv_at hl 0 rfl) ?_
  refine lv_aload_n hx hb dR_work_7 rfl (lv_at hl 2 rfl) ?_
  refine gx_get (C := mR_R) (T := mT_R) (N' := 20) hx hb ht mh_R hown hV (by decide) rx_E_0 rfl 4 (by decide) (ht _ mw_476) (fun _ h => h) rfl dR_work_8 ?_
  refine lv_iload_n hx hb dR_work_11 rfl (lv_at hl 3 rfl) ?_
  refine gx_ialdv (v := nI (ρ 4 x)) hx hb hV (by decide) 0 rx_E_4 rfl x hx2 (by decide) rfl rfl dR_work_12 ?_
  refine gx_icmp_ge (a := 0) (b := (ρ 4 x)) (tgt := 123) hx hb dR_work_13 (by decide) (by omega) (by omega) (fun h13 => ?_) (fun h13 => ?_)
  · exact absurd h13 (by omega)
  · refine lv_aload_n hx hb dR_work_16 rfl (lv_at hl 2 rfl) ?_
    refine gx_get (C := mR_R) (T := mT_R) (N' := 20) hx hb ht mh_R hown hV (by decide) rx_E_0 rfl 5 (by decide) (ht _ mw_477) (fun _ h => h) rfl dR_work_17 ?_
    refine lv_iload_n hx hb dR_work_20 rfl (lv_at hl 3 rfl) ?_
    refine gx_ialdv (v := nI (ρ 5 x)) hx hb hV (by decide) 0 rx_E_5 rfl x hx2 (by decide) rfl rfl dR_work_21 ?_
    refine lv_sipush (v := nI 640) hx hb dR_work_22 (by decide) ?_
    refine gx_icmp_ge (a := (ρ 5 x)) (b := 640) (tgt := 123) hx hb dR_work_25 (by decide) (by omega) (by omega) (fun h25 => ?_) (fun h25 => ?_)
    · refine lv_aload_n hx hb dR_work_123 rfl (lv_at hl 2 rfl) ?_
      refine gx_get (C := mR_R) (T := mT_R) (N' := 20) hx hb ht mh_R hown hV (by decide) rx_E_0 rfl 6 (by decide) (ht _ mw_478) (fun _ h => h) rfl dR_work_124 ?_
      refine lv_iload_n hx hb dR_work_127 rfl (lv_at hl 3 rfl) ?_
      refine lv_lload_n hx hb dR_work_128 rfl (lv_at hl 1 rfl) ?_
      refine gx_last rx_loc hx hb hV hS (by decide) 3 rx_E_6 rfl x hx2 (by decide) rfl dR_work_129 (gx_upL (rx_t μ lt) 6 x 0) (by rw [rx_E_6, gx_upL_upd]) (fun _ h => gx_upL_J h) (fun H locs hV hS => ?_)
      rw [rx_t6] at hV
      exact gx_vret hx hb hr hV hS rfl dR_work_130 hlk
    · exact absurd h25 (by omega)

theorem mq_got_lt' {bt : Nat → Nat} {a n : Nat} (h : ∀ k, k < n → bt (a + k) < 256) : mq_got bt a n < 256 ^ n := by
  induction n with
  | zero => simp [mq_got]
  | succ n ih =>
    show mq_got bt a n + bt (a + n) * 256 ^ n < 256 ^ (n + 1)
    have h1 := h n (by omega)
    have h0 := ih (fun k hk => h k (by omega))
    have h2 : bt (a + n) * 256 ^ n ≤ 255 * 256 ^ n := Nat.mul_le_mul_right _ (by omega)
    rw [Nat.pow_succ]
    omega

set_option maxHeartbeats 4000000 in
set_option maxRecDepth 100000 in
theorem k_R_workB (l : Launch) {D : va_G} {K : Nat → ClassId} {ad : Nat → Nat} {ρ : Nat → Nat → Nat} {μ : Nat → Int64} {lt : Int64} {x z : Nat} (hx2 : x < 24) (hz4 : z < 4) (hz : ρ 4 x = 2 ^ z) (hae : ρ 5 x + 2 ^ z ≤ 640) (hso : ρ 3 x = 0) (hmem : ∀ q, q < 640 → ρ 14 q < 256) : Met l yR_work (Cond.code yR_work prog_7_method_16_code 6 none :: mx_T) { frames := 0, cells := 0, slots := 0, locals := 0 } (va_Pc [.ref (ad 0), .int (nI x)] (rx_P D K ad (mq_n ρ) (rx_t μ lt))) (rx_Qv D K ad (fun u => u = (mq_n ρ, rx_t (mq_upL μ x (lN (mq_got (ρ 14) (ρ 5 x) (ρ 4 x)))) lt))) 0 0 (gx_A ad 17) := by
  refine gx_met (by decide) rfl (Nat.le_of_ble_eq_true rfl) ?_
  intro pg ev s mid as below mth c ls hx hb hr hml ht hown hlk hnm hargs hB hl
  obtain ⟨hV, hZ⟩ := hB
  have hS : va_S (gx_A ad 17) s.heap s.heap [] := va_S.rf
  have hl : lv_has ls 6 [(0, .ref (ad 0)), (1, .int (nI x))] := hl
  have hz8 := cx_p8 hz4
  refine lv_lconst (v := 0) hx hb dR_work_0 (by decide) ?_
  refine lv_lstore_n (lv' := [(2, .long 0), (0, .ref (ad 0)), (1, .int (nI x))]) hx hb dR_work_1 rfl hl (by decide) rfl (fun ls hl => ?_)
  refine lv_iconst (v := nI 0) hx hb dR_work_2 (by decide) ?_
  refine lv_istore (lv' := [(4, .int (nI 0)), (2, .long 0), (0, .ref (ad 0)), (1, .int (nI x))]) hx hb dR_work_3 hl (by decide) rfl (fun ls hl => ?_)
  have loop : ∀ (k : Nat) (i : Nat) (H : Heap) (locs : List Loc) (ls : Array Slot), i + k = 2 ^ z → gx_V D mx_cl (mx_tys K) (rx_E ad K) ad 17 (mq_n ρ) (rx_t μ lt) s H → va_S (gx_A ad 17) s.heap H locs → lv_has ls 6 [(4, .int (nI i)), (2, .long (lN (mq_got (ρ 14) (ρ 5 x) i))), (0, .ref (ad 0)), (1, .int (nI x))] → W pg l ev (headSpec (Cond.code yR_work prog_7_method_16_code 6 none :: mx_T) { frames := 0, cells := 0, slots := 0, locals := 0 }).room s mid as below mth c H locs 0 0 (MQ below (rx_Qv D K ad (fun u => u = (mq_n ρ, rx_t (mq_upL μ x (lN (mq_got (ρ 14) (ρ 5 x) (ρ 4 x)))) lt))) as s 0 0 (gx_A ad 17)) (F0 mid 5 ls []) := by
    intro k
    induction k with
    | zero =>
      intro i H locs ls hk hV hS hl
      refine lv_iload hx hb dR_work_5 (lv_at hl 0 rfl) ?_
      refine lv_aload_n hx hb dR_work_7 rfl (lv_at hl 2 rfl) ?_
      refine gx_get (C := mR_R) (T := mT_R) (N' := 20) hx hb ht mh_R hown hV (by decide) rx_E_0 rfl 4 (by decide) (ht _ mw_476) (fun _ h => h) rfl dR_work_8 ?_
      refine lv_iload_n hx hb dR_work_11 rfl (lv_at hl 3 rfl) ?_
      refine gx_ialdv (v := nI (ρ 4 x)) hx hb hV (by decide) 0 rx_E_4 rfl x hx2 (by decide) rfl rfl dR_work_12 ?_
      refine gx_icmp_ge (a := i) (b := (ρ 4 x)) (tgt := 123) hx hb dR_work_13 (by decide) (by omega) (by omega) (fun h13 => ?_) (fun h13 => ?_)
      · refine lv_aload_n hx hb dR_work_123 rfl (lv_at hl 2 rfl) ?_
        refine gx_get (C := mR_R) (T := mT_R) (N' := 20) hx hb ht mh_R hown hV (by decide) rx_E_0 rfl 6 (by decide) (ht _ mw_478) (fun _ h => h) rfl dR_work_124 ?_
        refine lv_iload_n hx hb dR_work_127 rfl (lv_at hl 3 rfl) ?_
        refine lv_lload_n hx hb dR_work_128 rfl (lv_at hl 1 rfl) ?_
        refine gx_last rx_loc hx hb hV hS (by decide) 3 rx_E_6 rfl x hx2 (by decide) rfl dR_work_129 (gx_upL (rx_t μ lt) 6 x (lN (mq_got (ρ 14) (ρ 5 x) i))) (by rw [rx_E_6, gx_upL_upd]) (fun _ h => gx_upL_J h) (fun H locs hV hS => ?_)
        rw [rx_t6] at hV
        exact gx_vret hx hb hr hV hS (by rw [show i = ρ 4 x by omega]) dR_work_130 hlk
      · exact absurd h13 (by omega)
    | succ k ih =>
      intro i H locs ls hk hV hS hl
      refine lv_iload hx hb dR_work_5 (lv_at hl 0 rfl) ?_
      refine lv_aload_n hx hb dR_work_7 rfl (lv_at hl 2 rfl) ?_
      refine gx_get (C := mR_R) (T := mT_R) (N' := 20) hx hb ht mh_R hown hV (by decide) rx_E_0 rfl 4 (by decide) (ht _ mw_476) (fun _ h => h) rfl dR_work_8 ?_
      refine lv_iload_n hx hb dR_work_11 rfl (lv_at hl 3 rfl) ?_
      refine gx_ialdv (v := nI (ρ 4 x)) hx hb hV (by decide) 0 rx_E_4 rfl x hx2 (by decide) rfl rfl dR_work_12 ?_
      refine gx_icmp_ge (a := i) (b := (ρ 4 x)) (tgt := 123) hx hb dR_work_13 (by decide) (by omega) (by omega) (fun h13 => ?_) (fun h13 => ?_)
      · exact absurd h13 (by omega)
      · refine lv_aload_n hx hb dR_work_16 rfl (lv_at hl 2 rfl) ?_
        refine gx_get (C := mR_R) (T := mT_R) (N' := 20) hx hb ht mh_R hown hV (by decide) rx_E_0 rfl 5 (by decide) (ht _ mw_477) (fun _ h => h) rfl dR_work_17 ?_
        refine lv_iload_n hx hb dR_work_20 rfl (lv_at hl 3 rfl) ?_
        refine gx_ialdv (v := nI (ρ 5 x)) hx hb hV (by decide) 0 rx_E_5 rfl x hx2 (by decide) rfl rfl dR_work_21 ?_
        refine lv_sipush (v := nI 640) hx hb dR_work_22 (by decide) ?_
        refine gx_icmp_ge (a := (ρ 5 x)) (b := 640) (tgt := 123) hx hb dR_work_25 (by decide) (by omega) (by omega) (fun h25 => ?_) (fun h25 => ?_)
        · exact absurd h25 (by omega)
        · refine lv_aload_n hx hb dR_work_28 rfl (lv_at hl 2 rfl) ?_
          refine gx_get (C := mR_R) (T := mT_R) (N' := 20) hx hb ht mh_R hown hV (by decide) rx_E_0 rfl 5 (by decide) (ht _ mw_477) (fun _ h => h) rfl dR_work_29 ?_
          refine lv_iload_n hx hb dR_work_32 rfl (lv_at hl 3 rfl) ?_
          refine gx_ialdv (v := nI (ρ 5 x)) hx hb hV (by decide) 0 rx_E_5 rfl x hx2 (by decide) rfl rfl dR_work_33 ?_
          refine lv_iload hx hb dR_work_34 (lv_at hl 0 rfl) ?_
          refine gx_iadd (a := (ρ 5 x)) (b := i) hx hb dR_work_36 ?_
          refine lv_istore (lv' := [(5, .int (nI ((ρ 5 x) + i))), (4, .int (nI i)), (2, .long (lN (mq_got (ρ 14) (ρ 5 x) i))), (0, .ref (ad 0)), (1, .int (nI x))]) hx hb dR_work_37 hl (by decide) rfl (fun ls hl => ?_)
          refine lv_aload_n hx hb dR_work_39 rfl (lv_at hl 3 rfl) ?_
          refine gx_get (C := mR_R) (T := mT_R) (N' := 20) hx hb ht mh_R hown hV (by decide) rx_E_0 rfl 3 (by decide) (ht _ mw_475) (fun _ h => h) rfl dR_work_40 ?_
          refine lv_iload_n hx hb dR_work_43 rfl (lv_at hl 4 rfl) ?_
          refine gx_ialdv (v := nI (ρ 3 x)) hx hb hV (by decide) 0 rx_E_3 rfl x hx2 (by decide) rfl rfl dR_work_44 ?_
          refine gx_if_ne (a := (ρ 3 x)) (tgt := 68) hx hb dR_work_45 (by decide) (by omega) (fun h45 => ?_) (fun h45 => ?_)
          · exact absurd h45 (by omega)
          · refine lv_lload_n hx hb dR_work_48 rfl (lv_at hl 2 rfl) ?_
            refine lv_aload_n hx hb dR_work_49 rfl (lv_at hl 3 rfl) ?_
            refine gx_get (C := mR_R) (T := mT_R) (N' := 20) hx hb ht mh_R hown hV (by decide) rx_E_0 rfl 15 (by decide) (ht _ mw_487) (fun _ h => h) rfl dR_work_50 ?_
            refine lv_iload hx hb dR_work_53 (lv_at hl 0 rfl) ?_
            refine gx_ialdv (v := nI (ρ 14 (ρ 5 x + i))) hx hb hV (by decide) 0 rx_E_14 rfl (ρ 5 x + i) (by omega) (by decide) rfl rfl dR_work_55 ?_
            refine lv_i2l hx hb dR_work_56 rfl ?_
            refine lv_bipush (v := nI 8) hx hb dR_work_57 (by decide) ?_
            refine lv_iload hx hb dR_work_59 (lv_at hl 1 rfl) ?_
            refine gx_imul (a := 8) (b := i) hx hb dR_work_61 ?_
            refine lv_lshl hx hb dR_work_62 rfl ?_
            refine lv_lor hx hb dR_work_63 ?_
            refine gx_topl (y := lN (mq_got (ρ 14) (ρ 5 x) (i + 1))) (mq_gotS (hmem _ (by omega)) (by omega) (mq_got_lt' (fun q hq => hmem (ρ 5 x + q) (by omega)))) ?_
            refine lv_lstore_n (lv' := [(2, .long (lN (mq_got (ρ 14) (ρ 5 x) (i + 1)))), (5, .int (nI ((ρ 5 x) + i))), (4, .int (nI i)), (0, .ref (ad 0)), (1, .int (nI x))]) hx hb dR_work_64 rfl hl (by decide) rfl (fun ls hl => ?_)
            refine lv_goto (tgt := 117) hx hb dR_work_65 (by decide) ?_
            refine lv_iinc (k := 2) (v := (nI (i + 1))) (lv' := [(4, .int (nI (i + 1))), (2, .long (lN (mq_got (ρ 14) (ρ 5 x) (i + 1)))), (5, .int (nI ((ρ 5 x) + i))), (0, .ref (ad 0)), (1, .int (nI x))]) hx hb dR_work_117 hl rfl (nI_succ i).symm (by decide) rfl (fun ls hl => ?_)
            refine lv_goto (tgt := 5) hx hb dR_work_120 (by decide) ?_
            exact ih (i + 1) H locs ls (by omega) hV hS (lv_sub hl [0, 1, 3, 4] rfl)
  exact loop (2 ^ z) 0 _ _ ls (by omega) hV hS hl

set_option maxHeartbeats 4000000 in
set_option maxRecDepth 100000 in
theorem k_R_workC (l : Launch) {D : va_G} {K : Nat → ClassId} {ad : Nat → Nat} {ρ : Nat → Nat → Nat} {μ : Nat → Int64} {lt : Int64} {x z : Nat} (hx2 : x < 24) (hz4 : z < 4) (hz : ρ 4 x = 2 ^ z) (hae : ρ 5 x + 2 ^ z ≤ 640) (hso : ρ 3 x ≠ 0) (hso3 : ρ 3 x < 3) (hmk : ρ 7 x < 256) : Met l yR_work (Cond.code yR_work prog_7_method_16_code 6 none :: mx_T) { frames := 0, cells := 0, slots := 0, locals := 0 } (va_Pc [.ref (ad 0), .int (nI x)] (rx_P D K ad (mq_n ρ) (rx_t μ lt))) (rx_Qv D K ad (fun u => u = (mq_n (mq_wr ρ (ρ 3 x) (ρ 7 x) (ρ 5 x) (μ x) (ρ 4 x)), rx_t (mq_upL μ x 0) lt))) 0 0 (gx_A ad 17) := by
  refine gx_met (by decide) rfl (Nat.le_of_ble_eq_true rfl) ?_
  intro pg ev s mid as below mth c ls hx hb hr hml ht hown hlk hnm hargs hB hl
  obtain ⟨hV, hZ⟩ := hB
  have hS : va_S (gx_A ad 17) s.heap s.heap [] := va_S.rf
  have hl : lv_has ls 6 [(0, .ref (ad 0)), (1, .int (nI x))] := hl
  have hz8 := cx_p8 hz4
  refine lv_lconst (v := 0) hx hb dR_work_0 (by decide) ?_
  refine lv_lstore_n (lv' := [(2, .long 0), (0, .ref (ad 0)), (1, .int (nI x))]) hx hb dR_work_1 rfl hl (by decide) rfl (fun ls hl => ?_)
  refine lv_iconst (v := nI 0) hx hb dR_work_2 (by decide) ?_
  refine lv_istore (lv' := [(4, .int (nI 0)), (2, .long 0), (0, .ref (ad 0)), (1, .int (nI x))]) hx hb dR_work_3 hl (by decide) rfl (fun ls hl => ?_)
  have loop : ∀ (k : Nat) (i : Nat) (H : Heap) (locs : List Loc) (ls : Array Slot), i + k = 2 ^ z → gx_V D mx_cl (mx_tys K) (rx_E ad K) ad 17 (mq_n (mq_wr ρ (ρ 3 x) (ρ 7 x) (ρ 5 x) (μ x) i)) (rx_t μ lt) s H → va_S (gx_A ad 17) s.heap H locs → lv_has ls 6 [(4, .int (nI i)), (2, .long 0), (0, .ref (ad 0)), (1, .int (nI x))] → W pg l ev (headSpec (Cond.code yR_work prog_7_method_16_code 6 none :: mx_T) { frames := 0, cells := 0, slots := 0, locals := 0 }).room s mid as below mth c H locs 0 0 (MQ below (rx_Qv D K ad (fun u => u = (mq_n (mq_wr ρ (ρ 3 x) (ρ 7 x) (ρ 5 x) (μ x) (ρ 4 x)), rx_t (mq_upL μ x 0) lt))) as s 0 0 (gx_A ad 17)) (F0 mid 5 ls []) := by
    intro k
    induction k with
    | zero =>
      intro i H locs ls hk hV hS hl
      refine lv_iload hx hb dR_work_5 (lv_at hl 0 rfl) ?_
      refine lv_aload_n hx hb dR_work_7 rfl (lv_at hl 2 rfl) ?_
      refine gx_get (C := mR_R) (T := mT_R) (N' := 20) hx hb ht mh_R hown hV (by decide) rx_E_0 rfl 4 (by decide) (ht _ mw_476) (fun _ h => h) rfl dR_work_8 ?_
      refine lv_iload_n hx hb dR_work_11 rfl (lv_at hl 3 rfl) ?_
      refine gx_ialdv (v := nI (ρ 4 x)) hx hb hV (by decide) 0 rx_E_4 rfl x hx2 (by decide) rfl (congrArg nI (mq_wr_n (by omega))) dR_work_12 ?_
      refine gx_icmp_ge (a := i) (b := (ρ 4 x)) (tgt := 123) hx hb dR_work_13 (by decide) (by omega) (by omega) (fun h13 => ?_) (fun h13 => ?_)
      · refine lv_aload_n hx hb dR_work_123 rfl (lv_at hl 2 rfl) ?_
        refine gx_get (C := mR_R) (T := mT_R) (N' := 20) hx hb ht mh_R hown hV (by decide) rx_E_0 rfl 6 (by decide) (ht _ mw_478) (fun _ h => h) rfl dR_work_124 ?_
        refine lv_iload_n hx hb dR_work_127 rfl (lv_at hl 3 rfl) ?_
        refine lv_lload_n hx hb dR_work_128 rfl (lv_at hl 1 rfl) ?_
        refine gx_last rx_loc hx hb hV hS (by decide) 3 rx_E_6 rfl x hx2 (by decide) rfl dR_work_129 (gx_upL (rx_t μ lt) 6 x 0) (by rw [rx_E_6, gx_upL_upd]) (fun _ h => gx_upL_J h) (fun H locs hV hS => ?_)
        rw [rx_t6] at hV
        exact gx_vret hx hb hr hV hS (by rw [show i = ρ 4 x by omega]) dR_work_130 hlk
      · exact absurd h13 (by omega)
    | succ k ih =>
      intro i H locs ls hk hV hS hl
      refine lv_iload hx hb dR_work_5 (lv_at hl 0 rfl) ?_
      refine lv_aload_n hx hb dR_work_7 rfl (lv_at hl 2 rfl) ?_
      refine gx_get (C := mR_R) (T := mT_R) (N' := 20) hx hb ht mh_R hown hV (by decide) rx_E_0 rfl 4 (by decide) (ht _ mw_476) (fun _ h => h) rfl dR_work_8 ?_
      refine lv_iload_n hx hb dR_work_11 rfl (lv_at hl 3 rfl) ?_
      refine gx_ialdv (v := nI (ρ 4 x)) hx hb hV (by decide) 0 rx_E_4 rfl x hx2 (by decide) rfl (congrArg nI (mq_wr_n (by omega))) dR_work_12 ?_
      refine gx_icmp_ge (a := i) (b := (ρ 4 x)) (tgt := 123) hx hb dR_work_13 (by decide) (by omega) (by omega) (fun h13 => ?_) (fun h13 => ?_)
      · exact absurd h13 (by omega)
      · refine lv_aload_n hx hb dR_work_16 rfl (lv_at hl 2 rfl) ?_
        refine gx_get (C := mR_R) (T := mT_R) (N' := 20) hx hb ht mh_R hown hV (by decide) rx_E_0 rfl 5 (by decide) (ht _ mw_477) (fun _ h => h) rfl dR_work_17 ?_
        refine lv_iload_n hx hb dR_work_20 rfl (lv_at hl 3 rfl) ?_
        refine gx_ialdv (v := nI (ρ 5 x)) hx hb hV (by decide) 0 rx_E_5 rfl x hx2 (by decide) rfl (congrArg nI (mq_wr_n (by omega))) dR_work_21 ?_
        refine lv_sipush (v := nI 640) hx hb dR_work_22 (by decide) ?_
        refine gx_icmp_ge (a := (ρ 5 x)) (b := 640) (tgt := 123) hx hb dR_work_25 (by decide) (by omega) (by omega) (fun h25 => ?_) (fun h25 => ?_)
        · exact absurd h25 (by omega)
        · refine lv_aload_n hx hb dR_work_28 rfl (lv_at hl 2 rfl) ?_
          refine gx_get (C := mR_R) (T := mT_R) (N' := 20) hx hb ht mh_R hown hV (by decide) rx_E_0 rfl 5 (by decide) (ht _ mw_477) (fun _ h => h) rfl dR_work_29 ?_
          refine lv_iload_n hx hb dR_work_32 rfl (lv_at hl 3 rfl) ?_
          refine gx_ialdv (v := nI (ρ 5 x)) hx hb hV (by decide) 0 rx_E_5 rfl x hx2 (by decide) rfl (congrArg nI (mq_wr_n (by omega))) dR_work_33 ?_
          refine lv_iload hx hb dR_work_34 (lv_at hl 0 rfl) ?_
          refine gx_iadd (a := (ρ 5 x)) (b := i) hx hb dR_work_36 ?_
          refine lv_istore (lv' := [(5, .int (nI ((ρ 5 x) + i))), (4, .int (nI i)), (2, .long 0), (0, .ref (ad 0)), (1, .int (nI x))]) hx hb dR_work_37 hl (by decide) rfl (fun ls hl => ?_)
          refine lv_aload_n hx hb dR_work_39 rfl (lv_at hl 3 rfl) ?_
          refine gx_get (C := mR_R) (T := mT_R) (N' := 20) hx hb ht mh_R hown hV (by decide) rx_E_0 rfl 3 (by decide) (ht _ mw_475) (fun _ h => h) rfl dR_work_40 ?_
          refine lv_iload_n hx hb dR_work_43 rfl (lv_at hl 4 rfl) ?_
          refine gx_ialdv (v := nI (ρ 3 x)) hx hb hV (by decide) 0 rx_E_3 rfl x hx2 (by decide) rfl (congrArg nI (mq_wr_n (by omega))) dR_work_44 ?_
          refine gx_if_ne (a := (ρ 3 x)) (tgt := 68) hx hb dR_work_45 (by decide) (by omega) (fun h45 => ?_) (fun h45 => ?_)
          · refine lv_aload_n hx hb dR_work_68 rfl (lv_at hl 3 rfl) ?_
            refine gx_get (C := mR_R) (T := mT_R) (N' := 20) hx hb ht mh_R hown hV (by decide) rx_E_0 rfl 3 (by decide) (ht _ mw_475) (fun _ h => h) rfl dR_work_69 ?_
            refine lv_iload_n hx hb dR_work_72 rfl (lv_at hl 4 rfl) ?_
            refine gx_ialdv (v := nI (ρ 3 x)) hx hb hV (by decide) 0 rx_E_3 rfl x hx2 (by decide) rfl (congrArg nI (mq_wr_n (by omega))) dR_work_73 ?_
            refine lv_iconst (v := nI 1) hx hb dR_work_74 (by decide) ?_
            refine gx_icmp_eq (a := (ρ 3 x)) (b := 1) (tgt := 93) hx hb dR_work_75 (by decide) (by omega) (by omega) (fun h75 => ?_) (fun h75 => ?_)
            · refine lv_aload_n hx hb dR_work_93 rfl (lv_at hl 3 rfl) ?_
              refine gx_get (C := mR_R) (T := mT_R) (N' := 20) hx hb ht mh_R hown hV (by decide) rx_E_0 rfl 15 (by decide) (ht _ mw_487) (fun _ h => h) rfl dR_work_94 ?_
              refine lv_iload hx hb dR_work_97 (lv_at hl 0 rfl) ?_
              refine lv_aload_n hx hb dR_work_99 rfl (lv_at hl 3 rfl) ?_
              refine gx_get (C := mR_R) (T := mT_R) (N' := 20) hx hb ht mh_R hown hV (by decide) rx_E_0 rfl 6 (by decide) (ht _ mw_478) (fun _ h => h) rfl dR_work_100 ?_
              refine lv_iload_n hx hb dR_work_103 rfl (lv_at hl 4 rfl) ?_
              refine gx_lald hx hb hV (by decide) 3 rx_E_6 rfl x hx2 (by decide) rfl dR_work_104 ?_
              refine gx_topl (y := μ x) rfl ?_
              refine lv_bipush (v := nI 8) hx hb dR_work_105 (by decide) ?_
              refine lv_iload hx hb dR_work_107 (lv_at hl 1 rfl) ?_
              refine gx_imul (a := 8) (b := i) hx hb dR_work_109 ?_
              refine lv_lshr hx hb dR_work_110 rfl ?_
              refine lv_ldc2 (v := 255) hx hb hown (ht _ mw_585) dR_work_111 ?_
              refine lv_land hx hb dR_work_114 ?_
              refine lv_l2i hx hb dR_work_115 rfl ?_
              refine gx_top (y := nI (mq_byte (μ x) i)) (mq_wb (μ x) (by omega)) ?_
              refine gx_iast rx_loc hx hb hV hS (by decide) 0 rx_E_14 rfl (ρ 5 x + i) (by omega) (by decide) rfl dR_work_116 (cx_up (mq_n (mq_wr ρ (ρ 3 x) (ρ 7 x) (ρ 5 x) (μ x) i)) 14 (ρ 5 x + i) (nI (mq_byte (μ x) i))) (by rw [rx_E_14, cx_up_upd]) (fun _ h => cx_up_J h) (fun H locs hV hS => ?_)
              rw [rx_up] at hV
              refine lv_iinc (k := 1) (v := (nI (i + 1))) (lv' := [(4, .int (nI (i + 1))), (5, .int (nI ((ρ 5 x) + i))), (2, .long 0), (0, .ref (ad 0)), (1, .int (nI x))]) hx hb dR_work_117 hl rfl (nI_succ i).symm (by decide) rfl (fun ls hl => ?_)
              refine lv_goto (tgt := 5) hx hb dR_work_120 (by decide) ?_
              exact ih (i + 1) H locs ls (by omega) (by show gx_V _ _ _ _ _ _ (mq_n (if ρ 3 x = 1 ∨ ρ 7 x / 2 ^ i % 2 = 1 then _ else _)) _ _ _; rw [if_pos (Or.inl h75)]; exact hV) hS (lv_sub hl [0, 2, 3, 4] rfl)
            · refine lv_aload_n hx hb dR_work_78 rfl (lv_at hl 3 rfl) ?_
              refine gx_get (C := mR_R) (T := mT_R) (N' := 20) hx hb ht mh_R hown hV (by decide) rx_E_0 rfl 7 (by decide) (ht _ mw_479) (fun _ h => h) rfl dR_work_79 ?_
              refine lv_iload_n hx hb dR_work_82 rfl (lv_at hl 4 rfl) ?_
              refine gx_ialdv (v := nI (ρ 7 x)) hx hb hV (by decide) 0 rx_E_7 rfl x hx2 (by decide) rfl (congrArg nI (mq_wr_n (by omega))) dR_work_83 ?_
              refine lv_iload hx hb dR_work_84 (lv_at hl 1 rfl) ?_
              refine lv_ishr hx hb dR_work_86 ?_
              refine lv_iconst (v := nI 1) hx hb dR_work_87 (by decide) ?_
              refine lv_iand hx hb dR_work_88 ?_
              refine gx_top (y := nI (ρ 7 x / 2 ^ i % 2)) (cx_bit (b := ρ 7 x) (s := i) (by omega) (by omega)) ?_
              refine lv_iconst (v := nI 1) hx hb dR_work_89 (by decide) ?_
              refine gx_icmp_ne (a := (ρ 7 x / 2 ^ i % 2)) (b := 1) (tgt := 117) hx hb dR_work_90 (by decide) (by have : ρ 7 x / 2 ^ i % 2 < 2 := Nat.mod_lt _ (by omega); omega) (by omega) (fun h90 => ?_) (fun h90 => ?_)
              · refine lv_iinc (k := 1) (v := (nI (i + 1))) (lv' := [(4, .int (nI (i + 1))), (5, .int (nI ((ρ 5 x) + i))), (2, .long 0), (0, .ref (ad 0)), (1, .int (nI x))]) hx hb dR_work_117 hl rfl (nI_succ i).symm (by decide) rfl (fun ls hl => ?_)
                refine lv_goto (tgt := 5) hx hb dR_work_120 (by decide) ?_
                exact ih (i + 1) H locs ls (by omega) (by show gx_V _ _ _ _ _ _ (mq_n (if ρ 3 x = 1 ∨ ρ 7 x / 2 ^ i % 2 = 1 then _ else _)) _ _ _; rw [if_neg (fun q => q.elim h75 h90)]; exact hV) hS (lv_sub hl [0, 2, 3, 4] rfl)
              · refine lv_aload_n hx hb dR_work_93 rfl (lv_at hl 3 rfl) ?_
                refine gx_get (C := mR_R) (T := mT_R) (N' := 20) hx hb ht mh_R hown hV (by decide) rx_E_0 rfl 15 (by decide) (ht _ mw_487) (fun _ h => h) rfl dR_work_94 ?_
                refine lv_iload hx hb dR_work_97 (lv_at hl 0 rfl) ?_
                refine lv_aload_n hx hb dR_work_99 rfl (lv_at hl 3 rfl) ?_
                refine gx_get (C := mR_R) (T := mT_R) (N' := 20) hx hb ht mh_R hown hV (by decide) rx_E_0 rfl 6 (by decide) (ht _ mw_478) (fun _ h => h) rfl dR_work_100 ?_
                refine lv_iload_n hx hb dR_work_103 rfl (lv_at hl 4 rfl) ?_
                refine gx_lald hx hb hV (by decide) 3 rx_E_6 rfl x hx2 (by decide) rfl dR_work_104 ?_
                refine gx_topl (y := μ x) rfl ?_
                refine lv_bipush (v := nI 8) hx hb dR_work_105 (by decide) ?_
                refine lv_iload hx hb dR_work_107 (lv_at hl 1 rfl) ?_
                refine gx_imul (a := 8) (b := i) hx hb dR_work_109 ?_
                refine lv_lshr hx hb dR_work_110 rfl ?_
                refine lv_ldc2 (v := 255) hx hb hown (ht _ mw_585) dR_work_111 ?_
                refine lv_land hx hb dR_work_114 ?_
                refine lv_l2i hx hb dR_work_115 rfl ?_
                refine gx_top (y := nI (mq_byte (μ x) i)) (mq_wb (μ x) (by omega)) ?_
                refine gx_iast rx_loc hx hb hV hS (by decide) 0 rx_E_14 rfl (ρ 5 x + i) (by omega) (by decide) rfl dR_work_116 (cx_up (mq_n (mq_wr ρ (ρ 3 x) (ρ 7 x) (ρ 5 x) (μ x) i)) 14 (ρ 5 x + i) (nI (mq_byte (μ x) i))) (by rw [rx_E_14, cx_up_upd]) (fun _ h => cx_up_J h) (fun H locs hV hS => ?_)
                rw [rx_up] at hV
                refine lv_iinc (k := 1) (v := (nI (i + 1))) (lv' := [(4, .int (nI (i + 1))), (5, .int (nI ((ρ 5 x) + i))), (2, .long 0), (0, .ref (ad 0)), (1, .int (nI x))]) hx hb dR_work_117 hl rfl (nI_succ i).symm (by decide) rfl (fun ls hl => ?_)
                refine lv_goto (tgt := 5) hx hb dR_work_120 (by decide) ?_
                exact ih (i + 1) H locs ls (by omega) (by show gx_V _ _ _ _ _ _ (mq_n (if ρ 3 x = 1 ∨ ρ 7 x / 2 ^ i % 2 = 1 then _ else _)) _ _ _; rw [if_pos (Or.inr h90)]; exact hV) hS (lv_sub hl [0, 2, 3, 4] rfl)
          · exact absurd h45 (by omega)
  exact loop (2 ^ z) 0 _ _ ls (by omega) hV hS hl

theorem k_R_work (l : Launch) {D : va_G} {K : Nat → ClassId} {ad : Nat → Nat} {ρ : Nat → Nat → Nat} {μ : Nat → Int64} {lt : Int64} {x z : Nat} (hx2 : x < 24) (hz4 : z < 4) (hz : ρ 4 x = 2 ^ z) (ha4 : ρ 5 x < 1024) (hal : ρ 5 x % ρ 4 x = 0) (hso3 : ρ 3 x < 3) (hmk : ρ 7 x < 256) (hmem : ∀ q, q < 640 → ρ 14 q < 256) : Met l yR_work (Cond.code yR_work prog_7_method_16_code 6 none :: mx_T) { frames := 0, cells := 0, slots := 0, locals := 0 } (va_Pc [.ref (ad 0), .int (nI x)] (rx_P D K ad (mq_n ρ) (rx_t μ lt))) (rx_Qv D K ad (fun u => u = (mq_n (mq_work ρ (μ x) x).1, rx_t (mq_upL μ x (mq_work ρ (μ x) x).2) lt))) 0 0 (gx_A ad 17) := by
  unfold mq_work
  by_cases h1 : 640 ≤ ρ 5 x
  · rw [if_pos h1]
    exact k_R_workA l hx2 hz4 hz h1 ha4
  · have hae := mq_al hz4 (by rw [← hz]; exact hal) (show ρ 5 x < 640 by omega)
    by_cases h2 : ρ 3 x = 0
    · rw [if_neg h1, if_pos h2]
      exact k_R_workB l hx2 hz4 hz hae h2 hmem
    · rw [if_neg h1, if_neg h2]
      exact k_R_workC l hx2 hz4 hz hae h2 hso3 hmk
