/-! the reference's calls -/
theorem mq_sh1 : ∀ z, z < 4 → nI 1 <<< (nI z &&& 31) = nI (2 ^ z) := by decide +kernel
theorem mq_sh8 : ∀ z, z < 8 → nI 1 <<< (nI z &&& 31) = nI (2 ^ z) := by decide +kernel
theorem mq_bits8 : ∀ b, b < 256 → ∀ k, k < 8 → nI (b % 2 ^ k) ||| nI (b / 2 ^ k % 2 * 2 ^ k) = nI (b % 2 ^ (k + 1)) := by decide +kernel
theorem rr_ids {σ : Nat → Nat → Int32} {τ : Nat → Nat → Int64} {ρ : Nat → Nat → Nat} {μ : Nat → Int64} {lt : Int64} {pl : Nat → Nat → List Nat} (h : rr_R σ τ ρ μ lt pl) {p : Nat} (hp : p < 4) : mq_cnt (fun q => decide (σ (23 + 6 * p) q ≠ -1)) 4 = (pl 2 (3 + p)).length + (pl 3 (3 + p)).length + (pl 4 (3 + p)).length := by
  obtain ⟨-, hP, -, -, hO, -, -, -⟩ := h
  have ok : ∀ w, 2 ≤ w → w ≤ 4 → mq_ok w (3 + p) := fun w h1 h2 => Or.inr ⟨by have : w = 2 ∨ w = 3 ∨ w = 4 := by omega
                                                                              rcases this with rfl | rfl | rfl <;> simp, by omega, by omega⟩
  have hm : ∀ w x, 2 ≤ w → w ≤ 4 → x ∈ pl w (3 + p) → x < 24 ∧ ρ 1 x = w ∧ mq_port (ρ 5 x) = p := by
    intro w x h1 h2 hx
    obtain ⟨a, b, e⟩ := hP.mem (ok w h1 h2) hx
    unfold mq_in at e
    rw [if_neg (by omega)] at e
    exact ⟨a, b, by omega⟩
  have hall : ∀ x, x ∈ pl 2 (3 + p) ++ pl 3 (3 + p) ++ pl 4 (3 + p) → x < 24 ∧ ρ 8 x < 4 ∧ mq_hold ρ p (ρ 8 x) x = true := by
    intro x hx
    have h3 : x < 24 ∧ 2 ≤ ρ 1 x ∧ ρ 1 x ≤ 4 ∧ mq_port (ρ 5 x) = p := by
      rcases List.mem_append.mp hx with hx | hx
      · rcases List.mem_append.mp hx with hx | hx
        · obtain ⟨a, b, e⟩ := hm 2 x (by omega) (by omega) hx
          exact ⟨a, by omega, by omega, e⟩
        · obtain ⟨a, b, e⟩ := hm 3 x (by omega) (by omega) hx
          exact ⟨a, by omega, by omega, e⟩
      · obtain ⟨a, b, e⟩ := hm 4 x (by omega) (by omega) hx
        exact ⟨a, by omega, by omega, e⟩
    exact ⟨h3.1, hO.2 x h3.1 h3.2.1 h3.2.2.1, by simp [mq_hold, h3.2.1, h3.2.2.1, h3.2.2.2]⟩
  have hnd : (pl 2 (3 + p) ++ pl 3 (3 + p) ++ pl 4 (3 + p)).Nodup := by
    refine List.pairwise_append.mpr ⟨List.pairwise_append.mpr ⟨hP.nodup (ok 2 (by omega) (by omega)), hP.nodup (ok 3 (by omega) (by omega)), ?_⟩, hP.nodup (ok 4 (by omega) (by omega)), ?_⟩
    · intro a ha b hb e
      have h1 := (hm 2 a (by omega) (by omega) ha).2.1
      have h2 := (hm 3 b (by omega) (by omega) hb).2.1
      rw [e] at h1
      omega
    · intro a ha b hb e
      have h2 := (hm 4 b (by omega) (by omega) hb).2.1
      rw [← e] at h2
      rcases List.mem_append.mp ha with ha | ha
      · have h1 := (hm 2 a (by omega) (by omega) ha).2.1
        omega
      · have h1 := (hm 3 a (by omega) (by omega) ha).2.1
        omega
  have hlen : ((pl 2 (3 + p) ++ pl 3 (3 + p) ++ pl 4 (3 + p)).map (ρ 8)).length = (pl 2 (3 + p)).length + (pl 3 (3 + p)).length + (pl 4 (3 + p)).length := by simp [Nat.add_assoc]
  rw [← hlen]
  refine mq_cnt_len 4 _ ?_ ?_
  · refine List.pairwise_map.mpr (List.Pairwise.imp_of_mem ?_ hnd)
    intro a b ha hb hne e
    obtain ⟨a1, a2, a3⟩ := hall a ha
    obtain ⟨b1, b2, b3⟩ := hall b hb
    have e1 := (hO.1 p hp (ρ 8 a) a2).1 a a1 a3
    have e2 := (hO.1 p hp (ρ 8 b) b2).1 b b1 b3
    rw [e] at e1
    exact hne (rr_inj a1 b1 (e1.symm.trans e2))
  · intro i
    constructor
    · intro hi
      obtain ⟨x, hx, rfl⟩ := List.mem_map.mp hi
      obtain ⟨a1, a2, a3⟩ := hall x hx
      refine ⟨a2, ?_⟩
      have e1 := (hO.1 p hp (ρ 8 x) a2).1 x a1 a3
      simp only [decide_eq_true_eq]
      rw [e1]
      exact rr_m1 a1
    · intro ⟨hi, hd⟩
      have hd' : σ (23 + 6 * p) i ≠ -1 := by simpa using hd
      have : ∃ x, x < 24 ∧ mq_hold ρ p i x = true := Classical.byContradiction fun q => hd' ((hO.1 p hp i hi).2 (fun x hx => by
        cases hh : mq_hold ρ p i x with
        | false => rfl
        | true => exact absurd ⟨x, hx, hh⟩ q))
      obtain ⟨x, hx, hh⟩ := this
      simp only [mq_hold, Bool.and_eq_true, decide_eq_true_eq, beq_iff_eq] at hh
      obtain ⟨h1, h2, h3, h4⟩ := hh
      refine List.mem_map.mpr ⟨x, ?_, h4⟩
      have hin : x ∈ pl (ρ 1 x) (3 + p) := ((hP.1 (ρ 1 x) (3 + p) (ok _ h1 h2)).1 x).mpr ⟨hx, mq_is_iff.mpr ⟨rfl, by unfold mq_in; rw [if_neg (by omega)]; omega⟩⟩
      have : ρ 1 x = 2 ∨ ρ 1 x = 3 ∨ ρ 1 x = 4 := by omega
      rcases this with e | e | e <;> rw [e] at hin <;> simp [hin]

set_option maxHeartbeats 4000000 in
set_option maxRecDepth 100000 in
theorem k_R_request (l : Launch) {D : va_G} {K : Nat → ClassId} {ad : Nat → Nat} {ρ : Nat → Nat → Nat} {μ : Nat → Int64} {lt : Int64} {m q so z a mk : Nat} {d : Int64} (hm : m < 3) (hq : q < 8) (hso : so < 3) (hz : z < 4) (ha : a < 1024) (hal : a % 2 ^ z = 0) (hmk : mk < 256) {cσ : Nat → Nat → Int32} {cτ : Nat → Nat → Int64} {pl : Nat → Nat → List Nat} (hR : rr_R cσ cτ ρ μ lt pl) (hmv : ρ 0 1 + 16 < 2 ^ 31) : Met l yR_request (Cond.code yR_request prog_7_method_13_code 11 (some .int) :: mx_T) { frames := 3, cells := 0, slots := 0, locals := 67 } (va_Pc [.ref (ad 0), .int (nI m), .int (nI q), .int (nI so), .int (nI z), .int (nI a), .long d, .int (nI mk)] (rx_P D K ad (mq_n ρ) (rx_t μ lt))) (rx_Qi D K ad (fun rr u => (ρ 1 (8 * m + q) ≠ 0 ∨ 8 ≤ (pl 1 m).length → rr = -1 ∧ u = (mq_n (mq_up ρ 0 0 0), rx_t μ lt)) ∧ (ρ 1 (8 * m + q) = 0 → (pl 1 m).length < 8 → rr = nI ((pl 1 m).length + 1) ∧ u = (mq_n (mq_rq (mq_up ρ 0 0 0) (8 * m + q) so z a mk), rx_t (mq_upL μ (8 * m + q) d) lt)))) 0 0 (gx_A ad 17) := by
  refine gx_met (by decide) rfl (Nat.le_of_ble_eq_true rfl) ?_
  intro pg ev s mid as below mth c ls hx hb hr hml ht hown hlk hnm hargs hB hl
  obtain ⟨hV, hZ⟩ := hB
  have hS : va_S (gx_A ad 17) s.heap s.heap [] := va_S.rf
  have hl : lv_has ls 11 [(0, .ref (ad 0)), (1, .int (nI m)), (2, .int (nI q)), (3, .int (nI so)), (4, .int (nI z)), (5, .int (nI a)), (6, .long d), (8, .int (nI mk))] := hl
  have hR1 : rr_R cσ cτ (mq_up ρ 0 0 0) μ lt pl := hR
  have hV0 := hR1.V (show ρ 0 1 < _ by omega)
  have hx24 : 8 * m + q < 24 := by omega
  have hz8 := cx_p8 hz
  have ok1 : mq_ok 1 m := Or.inl ⟨by simp, hm⟩
  have hw8 : (pl 1 m).length ≤ 8 := (hR1.1 1 m ok1 (by omega)).2
  obtain ⟨-, -, b, hb0, hb1, hb2⟩ := hR1.2.2.2.1 m hm
  refine lv_iload_n hx hb dR_request_0 rfl (lv_at hl 1 rfl) ?_
  refine lv_iconst (v := nI 3) hx hb dR_request_1 (by decide) ?_
  refine gx_callp (va_runS (As := [.int (nI m), .int (nI 3)]) (rest := []) ⟨hx, hb, hml, hown, ht⟩ (k_R_in l) (cwS 2 ht (mx_gS mw_543 mw_544 mw_6 mw_545) rfl rfl rfl (by decide +kernel) ⟨Nat.le_of_ble_eq_true rfl, Nat.le_of_ble_eq_true rfl⟩) (gx_preP [.int (nI m), .int (nI 3)]) rfl rfl hl.1 rfl (lv_room (Nat.le_of_ble_eq_true rfl)) dR_request_2 ⟨Nat.le_of_ble_eq_true rfl, Nat.le_of_ble_eq_true rfl⟩) hV hS (fun r1 H locs hp hV hS => ?_)
  subst hp
  refine gx_ifb_eq (q := 0 ≤ nI m ∧ nI m < nI 3) (tgt := 60) hx hb dR_request_5 (by decide) (fun h5 => ?_) (fun h5 => ?_)
  · exact absurd (cx_bl hm (by decide)) h5
  · refine lv_iload_n hx hb dR_request_8 rfl (lv_at hl 2 rfl) ?_
    refine lv_bipush (v := nI 8) hx hb dR_request_9 (by decide) ?_
    refine gx_callp (va_runS (As := [.int (nI q), .int (nI 8)]) (rest := []) ⟨hx, hb, hml, hown, ht⟩ (k_R_in l) (cwS 2 ht (mx_gS mw_543 mw_544 mw_6 mw_545) rfl rfl rfl (by decide +kernel) ⟨Nat.le_of_ble_eq_true rfl, Nat.le_of_ble_eq_true rfl⟩) (gx_preP [.int (nI q), .int (nI 8)]) rfl rfl hl.1 rfl (lv_room (Nat.le_of_ble_eq_true rfl)) dR_request_11 ⟨Nat.le_of_ble_eq_true rfl, Nat.le_of_ble_eq_true rfl⟩) hV hS (fun r2 H locs hp hV hS => ?_)
    subst hp
    refine gx_ifb_eq (q := 0 ≤ nI q ∧ nI q < nI 8) (tgt := 60) hx hb dR_request_14 (by decide) (fun h14 => ?_) (fun h14 => ?_)
    · exact absurd (cx_bl hq (by decide)) h14
    · refine lv_iload_n hx hb dR_request_17 rfl (lv_at hl 3 rfl) ?_
      refine lv_iconst (v := nI 3) hx hb dR_request_18 (by decide) ?_
      refine gx_callp (va_runS (As := [.int (nI so), .int (nI 3)]) (rest := []) ⟨hx, hb, hml, hown, ht⟩ (k_R_in l) (cwS 2 ht (mx_gS mw_543 mw_544 mw_6 mw_545) rfl rfl rfl (by decide +kernel) ⟨Nat.le_of_ble_eq_true rfl, Nat.le_of_ble_eq_true rfl⟩) (gx_preP [.int (nI so), .int (nI 3)]) rfl rfl hl.1 rfl (lv_room (Nat.le_of_ble_eq_true rfl)) dR_request_19 ⟨Nat.le_of_ble_eq_true rfl, Nat.le_of_ble_eq_true rfl⟩) hV hS (fun r3 H locs hp hV hS => ?_)
      subst hp
      refine gx_ifb_eq (q := 0 ≤ nI so ∧ nI so < nI 3) (tgt := 60) hx hb dR_request_22 (by decide) (fun h22 => ?_) (fun h22 => ?_)
      · exact absurd (cx_bl hso (by decide)) h22
      · refine lv_iload hx hb dR_request_25 (lv_at hl 4 rfl) ?_
        refine lv_iconst (v := nI 4) hx hb dR_request_27 (by decide) ?_
        refine gx_callp (va_runS (As := [.int (nI z), .int (nI 4)]) (rest := []) ⟨hx, hb, hml, hown, ht⟩ (k_R_in l) (cwS 2 ht (mx_gS mw_543 mw_544 mw_6 mw_545) rfl rfl rfl (by decide +kernel) ⟨Nat.le_of_ble_eq_true rfl, Nat.le_of_ble_eq_true rfl⟩) (gx_preP [.int (nI z), .int (nI 4)]) rfl rfl hl.1 rfl (lv_room (Nat.le_of_ble_eq_true rfl)) dR_request_28 ⟨Nat.le_of_ble_eq_true rfl, Nat.le_of_ble_eq_true rfl⟩) hV hS (fun r4 H locs hp hV hS => ?_)
        subst hp
        refine gx_ifb_eq (q := 0 ≤ nI z ∧ nI z < nI 4) (tgt := 60) hx hb dR_request_31 (by decide) (fun h31 => ?_) (fun h31 => ?_)
        · exact absurd (cx_bl hz (by decide)) h31
        · refine lv_iload hx hb dR_request_34 (lv_at hl 5 rfl) ?_
          refine lv_sipush (v := nI 1024) hx hb dR_request_36 (by decide) ?_
          refine gx_callp (va_runS (As := [.int (nI a), .int (nI 1024)]) (rest := []) ⟨hx, hb, hml, hown, ht⟩ (k_R_in l) (cwS 2 ht (mx_gS mw_543 mw_544 mw_6 mw_545) rfl rfl rfl (by decide +kernel) ⟨Nat.le_of_ble_eq_true rfl, Nat.le_of_ble_eq_true rfl⟩) (gx_preP [.int (nI a), .int (nI 1024)]) rfl rfl hl.1 rfl (lv_room (Nat.le_of_ble_eq_true rfl)) dR_request_39 ⟨Nat.le_of_ble_eq_true rfl, Nat.le_of_ble_eq_true rfl⟩) hV hS (fun r5 H locs hp hV hS => ?_)
          subst hp
          refine gx_ifb_eq (q := 0 ≤ nI a ∧ nI a < nI 1024) (tgt := 60) hx hb dR_request_42 (by decide) (fun h42 => ?_) (fun h42 => ?_)
          · exact absurd (cx_bl ha (by decide)) h42
          · refine lv_iload hx hb dR_request_45 (lv_at hl 7 rfl) ?_
            refine lv_sipush (v := nI 256) hx hb dR_request_47 (by decide) ?_
            refine gx_callp (va_runS (As := [.int (nI mk), .int (nI 256)]) (rest := []) ⟨hx, hb, hml, hown, ht⟩ (k_R_in l) (cwS 2 ht (mx_gS mw_543 mw_544 mw_6 mw_545) rfl rfl rfl (by decide +kernel) ⟨Nat.le_of_ble_eq_true rfl, Nat.le_of_ble_eq_true rfl⟩) (gx_preP [.int (nI mk), .int (nI 256)]) rfl rfl hl.1 rfl (lv_room (Nat.le_of_ble_eq_true rfl)) dR_request_50 ⟨Nat.le_of_ble_eq_true rfl, Nat.le_of_ble_eq_true rfl⟩) hV hS (fun r6 H locs hp hV hS => ?_)
            subst hp
            refine gx_ifb_eq (q := 0 ≤ nI mk ∧ nI mk < nI 256) (tgt := 60) hx hb dR_request_53 (by decide) (fun h53 => ?_) (fun h53 => ?_)
            · exact absurd (cx_bl hmk (by decide)) h53
            · refine lv_iconst (v := nI 1) hx hb dR_request_56 (by decide) ?_
              refine lv_goto (tgt := 61) hx hb dR_request_57 (by decide) ?_
              refine lv_istore (lv' := [(9, .int (nI 1)), (0, .ref (ad 0)), (1, .int (nI m)), (2, .int (nI q)), (3, .int (nI so)), (4, .int (nI z)), (5, .int (nI a)), (6, .long d), (8, .int (nI mk))]) hx hb dR_request_61 hl (by decide) rfl (fun ls hl => ?_)
              refine lv_aload_n hx hb dR_request_63 rfl (lv_at hl 1 rfl) ?_
              refine lv_iload hx hb dR_request_64 (lv_at hl 0 rfl) ?_
              refine gx_if_eq (a := 1) (tgt := 83) hx hb dR_request_66 (by decide) (by omega) (fun h66 => ?_) (fun h66 => ?_)
              · exact absurd h66 (by decide)
              · refine lv_iload hx hb dR_request_69 (lv_at hl 6 rfl) ?_
                refine lv_iconst (v := nI 1) hx hb dR_request_71 (by decide) ?_
                refine lv_iload hx hb dR_request_72 (lv_at hl 5 rfl) ?_
                refine lv_ishl hx hb dR_request_74 ?_
                refine gx_top (y := nI (2 ^ z)) (mq_sh1 z hz) ?_
                refine gx_irem (a := a) (b := (2 ^ z)) hx hb dR_request_75 (by omega) hz8.1 (by omega) ?_
                refine gx_if_ne (a := (a % (2 ^ z))) (tgt := 83) hx hb dR_request_76 (by decide) (by omega) (fun h76 => ?_) (fun h76 => ?_)
                · exact absurd hal h76
                · refine lv_iconst (v := nI 0) hx hb dR_request_79 (by decide) ?_
                  refine lv_goto (tgt := 84) hx hb dR_request_80 (by decide) ?_
                  refine gx_put rx_loc (C := mR_R) (T := mT_R) (N' := 20) (ty := .int) (v := .int (nI 0)) hx hb ht mh_R mt_R mk_R mn_R hown hV hS (by decide) rx_E_0 rfl 0 (by decide) (ht _ mw_472) (fun _ h => h) rfl (by decide +kernel) rfl rfl (Nat.le_of_ble_eq_true rfl) dR_request_84 (cx_up (mq_n ρ) 0 0 (nI 0)) (rx_t μ lt) (by rw [rx_E_0]; simp [cx_up]) (fun _ h => cx_up_J h) (fun _ _ => rfl) (fun H locs hV hS => ?_)
                  rw [rx_up] at hV
                  refine lv_aload_n hx hb dR_request_87 rfl (lv_at hl 1 rfl) ?_
                  refine gx_get (C := mR_R) (T := mT_R) (N' := 20) (v := .int (nI ((mq_up ρ 0 0 0) 0 0))) hx hb ht mh_R hown hV (by decide) rx_E_0 rfl 0 (by decide) (ht _ mw_472) (fun _ h => h) rfl dR_request_88 ?_
                  refine gx_if_le (a := ((mq_up ρ 0 0 0) 0 0)) (tgt := 96) hx hb dR_request_91 (by decide) (by rw [mq_up_s]; omega) (fun h91 => ?_) (fun h91 => ?_)
                  · refine lv_bipush (v := nI 8) hx hb dR_request_96 (by decide) ?_
                    refine lv_iload_n hx hb dR_request_98 rfl (lv_at hl 2 rfl) ?_
                    refine gx_imul (a := 8) (b := m) hx hb dR_request_99 ?_
                    refine lv_iload_n hx hb dR_request_100 rfl (lv_at hl 3 rfl) ?_
                    refine gx_iadd (a := (8 * m)) (b := q) hx hb dR_request_101 ?_
                    refine lv_istore (lv' := [(10, .int (nI ((8 * m) + q))), (9, .int (nI 1)), (0, .ref (ad 0)), (1, .int (nI m)), (2, .int (nI q)), (3, .int (nI so)), (4, .int (nI z)), (5, .int (nI a)), (6, .long d), (8, .int (nI mk))]) hx hb dR_request_102 hl (by decide) rfl (fun ls hl => ?_)
                    refine lv_aload_n hx hb dR_request_104 rfl (lv_at hl 2 rfl) ?_
                    refine gx_get (C := mR_R) (T := mT_R) (N' := 20) hx hb ht mh_R hown hV (by decide) rx_E_0 rfl 1 (by decide) (ht _ mw_473) (fun _ h => h) rfl dR_request_105 ?_
                    refine lv_iload hx hb dR_request_108 (lv_at hl 0 rfl) ?_
                    refine gx_ialdv (v := nI (ρ 1 (8 * m + q))) hx hb hV (by decide) 0 rx_E_1 rfl (8 * m + q) hx24 (by decide) rfl rfl dR_request_110 ?_
                    refine gx_if_ne (a := (ρ 1 (8 * m + q))) (tgt := 125) hx hb dR_request_111 (by decide) (by have h1 : ρ 1 (8 * m + q) ≤ 5 := (hV0.1 _ hx24).1; omega) (fun h111 => ?_) (fun h111 => ?_)
                    · refine lv_iconst (v := -1) hx hb dR_request_125 (by decide) ?_
                      exact gx_iret hx hb hr hV hS ⟨fun _ => ⟨rfl, rfl⟩, fun q0 _ => absurd q0 h111⟩ dR_request_126 hlk
                    · refine lv_aload_n hx hb dR_request_114 rfl (lv_at hl 2 rfl) ?_
                      refine lv_iconst (v := nI 1) hx hb dR_request_115 (by decide) ?_
                      refine lv_iload_n hx hb dR_request_116 rfl (lv_at hl 3 rfl) ?_
                      refine gx_top (y := mq_who m) (mq_who_lo hm).symm ?_
                      refine gx_calli (va_runV (As := [.int (nI 1), .int (mq_who m)]) (rest := []) ⟨hx, hb, hml, hown, ht⟩ (k_R_many l (by omega) (by omega) hV0) (cwV 2 ht (mx_gV (C := "MessageCrossbarModel") mw_546 mw_548 ms_16 mw_6 mw_549) rfl rfl rfl (by decide +kernel) ⟨Nat.le_of_ble_eq_true rfl, Nat.le_of_ble_eq_true rfl⟩) (gx_preV rx_ok hV hZ hS (q := (mR_R, mT_R, 20)) (by decide) rx_E_0 rfl [.int (nI 1), .int (mq_who m)]) rfl rfl hl.1 rfl (lv_room (Nat.le_of_ble_eq_true rfl)) dR_request_117 ⟨Nat.le_of_ble_eq_true rfl, Nat.le_of_ble_eq_true rfl⟩) hV hS (fun r7 σ' τ' H locs hp hV hS => ?_)
                      obtain ⟨hp, hu⟩ := hp
                      rw [hR1.2.1.many ok1] at hp
                      subst hp
                      cases hu
                      refine lv_bipush (v := nI 8) hx hb dR_request_120 (by decide) ?_
                      refine gx_icmp_ne (a := (pl 1 m).length) (b := 8) (tgt := 127) hx hb dR_request_122 (by decide) (by omega) (by omega) (fun h122 => ?_) (fun h122 => ?_)
                      · refine lv_aload_n hx hb dR_request_127 rfl (lv_at hl 2 rfl) ?_
                        refine gx_get (C := mR_R) (T := mT_R) (N' := 20) hx hb ht mh_R hown hV (by decide) rx_E_0 rfl 3 (by decide) (ht _ mw_475) (fun _ h => h) rfl dR_request_128 ?_
                        refine lv_iload hx hb dR_request_131 (lv_at hl 0 rfl) ?_
                        refine lv_iload_n hx hb dR_request_133 rfl (lv_at hl 5 rfl) ?_
                        refine gx_iast rx_loc hx hb hV hS (by decide) 0 rx_E_3 rfl (8 * m + q) hx24 (by decide) rfl dR_request_134 (cx_up (mq_n (mq_up ρ 0 0 0)) 3 (8 * m + q) (nI so)) (by rw [rx_E_3, cx_up_upd]) (fun _ h => cx_up_J h) (fun H locs hV hS => ?_)
                        rw [rx_up] at hV
                        refine lv_aload_n hx hb dR_request_135 rfl (lv_at hl 2 rfl) ?_
                        refine gx_get (C := mR_R) (T := mT_R) (N' := 20) hx hb ht mh_R hown hV (by decide) rx_E_0 rfl 4 (by decide) (ht _ mw_476) (fun _ h => h) rfl dR_request_136 ?_
                        refine lv_iload hx hb dR_request_139 (lv_at hl 0 rfl) ?_
                        refine lv_iconst (v := nI 1) hx hb dR_request_141 (by decide) ?_
                        refine lv_iload hx hb dR_request_142 (lv_at hl 6 rfl) ?_
                        refine lv_ishl hx hb dR_request_144 ?_
                        refine gx_top (y := nI (2 ^ z)) (mq_sh1 z hz) ?_
                        refine gx_iast rx_loc hx hb hV hS (by decide) 0 rx_E_4 rfl (8 * m + q) hx24 (by decide) rfl dR_request_145 (cx_up (mq_n (mq_up (mq_up ρ 0 0 0) 3 (8 * m + q) so)) 4 (8 * m + q) (nI (2 ^ z))) (by rw [rx_E_4, cx_up_upd]) (fun _ h => cx_up_J h) (fun H locs hV hS => ?_)
                        rw [rx_up] at hV
                        refine lv_aload_n hx hb dR_request_146 rfl (lv_at hl 2 rfl) ?_
                        refine gx_get (C := mR_R) (T := mT_R) (N' := 20) hx hb ht mh_R hown hV (by decide) rx_E_0 rfl 5 (by decide) (ht _ mw_477) (fun _ h => h) rfl dR_request_147 ?_
                        refine lv_iload hx hb dR_request_150 (lv_at hl 0 rfl) ?_
                        refine lv_iload hx hb dR_request_152 (lv_at hl 7 rfl) ?_
                        refine gx_iast rx_loc hx hb hV hS (by decide) 0 rx_E_5 rfl (8 * m + q) hx24 (by decide) rfl dR_request_154 (cx_up (mq_n (mq_up (mq_up (mq_up ρ 0 0 0) 3 (8 * m + q) so) 4 (8 * m + q) (2 ^ z))) 5 (8 * m + q) (nI a)) (by rw [rx_E_5, cx_up_upd]) (fun _ h => cx_up_J h) (fun H locs hV hS => ?_)
                        rw [rx_up] at hV
                        refine lv_aload_n hx hb dR_request_155 rfl (lv_at hl 2 rfl) ?_
                        refine gx_get (C := mR_R) (T := mT_R) (N' := 20) hx hb ht mh_R hown hV (by decide) rx_E_0 rfl 6 (by decide) (ht _ mw_478) (fun _ h => h) rfl dR_request_156 ?_
                        refine lv_iload hx hb dR_request_159 (lv_at hl 0 rfl) ?_
                        refine lv_lload hx hb dR_request_161 (lv_at hl 8 rfl) ?_
                        refine gx_last rx_loc hx hb hV hS (by decide) 3 rx_E_6 rfl (8 * m + q) hx24 (by decide) rfl dR_request_163 (gx_upL (rx_t μ lt) 6 (8 * m + q) d) (by rw [rx_E_6, gx_upL_upd]) (fun _ h => gx_upL_J h) (fun H locs hV hS => ?_)
                        rw [rx_t6] at hV
                        refine lv_aload_n hx hb dR_request_164 rfl (lv_at hl 2 rfl) ?_
                        refine gx_get (C := mR_R) (T := mT_R) (N' := 20) hx hb ht mh_R hown hV (by decide) rx_E_0 rfl 7 (by decide) (ht _ mw_479) (fun _ h => h) rfl dR_request_165 ?_
                        refine lv_iload hx hb dR_request_168 (lv_at hl 0 rfl) ?_
                        refine lv_iload hx hb dR_request_170 (lv_at hl 9 rfl) ?_
                        refine gx_iast rx_loc hx hb hV hS (by decide) 0 rx_E_7 rfl (8 * m + q) hx24 (by decide) rfl dR_request_172 (cx_up (mq_n (mq_up (mq_up (mq_up (mq_up ρ 0 0 0) 3 (8 * m + q) so) 4 (8 * m + q) (2 ^ z)) 5 (8 * m + q) a)) 7 (8 * m + q) (nI mk)) (by rw [rx_E_7, cx_up_upd]) (fun _ h => cx_up_J h) (fun H locs hV hS => ?_)
                        rw [rx_up] at hV
                        refine lv_aload_n hx hb dR_request_173 rfl (lv_at hl 2 rfl) ?_
                        refine lv_iload hx hb dR_request_174 (lv_at hl 0 rfl) ?_
                        refine lv_iconst (v := nI 1) hx hb dR_request_176 (by decide) ?_
                        refine gx_callv (va_runV (As := [.int (nI ((8 * m) + q)), .int (nI 1)]) (rest := []) ⟨hx, hb, hml, hown, ht⟩ (k_R_go l hx24) (cwV 2 ht (mx_gV (C := "MessageCrossbarModel") mw_557 mw_559 ms_18 mw_6 mw_560) rfl rfl rfl (by decide +kernel) ⟨Nat.le_of_ble_eq_true rfl, Nat.le_of_ble_eq_true rfl⟩) (gx_preV rx_ok hV hZ hS (q := (mR_R, mT_R, 20)) (by decide) rx_E_0 rfl [.int (nI ((8 * m) + q)), .int (nI 1)]) rfl rfl hl.1 rfl (lv_room (Nat.le_of_ble_eq_true rfl)) dR_request_177 ⟨Nat.le_of_ble_eq_true rfl, Nat.le_of_ble_eq_true rfl⟩) hV hS (fun σ' τ' H locs hp hV hS => ?_)
                        cases hp
                        refine lv_aload_n hx hb dR_request_180 rfl (lv_at hl 2 rfl) ?_
                        refine gx_get (C := mR_R) (T := mT_R) (N' := 20) hx hb ht mh_R hown hV (by decide) rx_E_0 rfl 17 (by decide) (ht _ mw_489) (fun _ h => h) rfl dR_request_181 ?_
                        refine lv_iconst (v := nI 1) hx hb dR_request_184 (by decide) ?_
                        refine lv_dup2_11 hx hb dR_request_185 rfl rfl ?_
                        refine gx_ialdv (v := nI ((mq_go (mq_up (mq_up (mq_up (mq_up (mq_up ρ 0 0 0) 3 (8 * m + q) so) 4 (8 * m + q) (2 ^ z)) 5 (8 * m + q) a) 7 (8 * m + q) mk) (8 * m + q) 1) 16 1)) hx hb hV (by decide) 0 rx_E_16 rfl 1 (by decide) (by decide) rfl rfl dR_request_186 ?_
                        refine lv_iconst (v := nI 1) hx hb dR_request_187 (by decide) ?_
                        refine gx_iadd (a := ((mq_go (mq_up (mq_up (mq_up (mq_up (mq_up ρ 0 0 0) 3 (8 * m + q) so) 4 (8 * m + q) (2 ^ z)) 5 (8 * m + q) a) 7 (8 * m + q) mk) (8 * m + q) 1) 16 1)) (b := 1) hx hb dR_request_188 ?_
                        refine gx_iast rx_loc hx hb hV hS (by decide) 0 rx_E_16 rfl 1 (by decide) (by decide) rfl dR_request_189 (cx_up (mq_n (mq_go (mq_up (mq_up (mq_up (mq_up (mq_up ρ 0 0 0) 3 (8 * m + q) so) 4 (8 * m + q) (2 ^ z)) 5 (8 * m + q) a) 7 (8 * m + q) mk) (8 * m + q) 1)) 16 1 (nI (((mq_go (mq_up (mq_up (mq_up (mq_up (mq_up ρ 0 0 0) 3 (8 * m + q) so) 4 (8 * m + q) (2 ^ z)) 5 (8 * m + q) a) 7 (8 * m + q) mk) (8 * m + q) 1) 16 1) + 1))) (by rw [rx_E_16, cx_up_upd]) (fun _ h => cx_up_J h) (fun H locs hV hS => ?_)
                        rw [rx_up] at hV
                        refine lv_aload_n hx hb dR_request_190 rfl (lv_at hl 2 rfl) ?_
                        refine lv_iconst (v := nI 1) hx hb dR_request_191 (by decide) ?_
                        refine lv_iload_n hx hb dR_request_192 rfl (lv_at hl 3 rfl) ?_
                        have hV : gx_V D mx_cl (mx_tys K) (rx_E ad K) ad 17 (mq_n (mq_rq (mq_up ρ 0 0 0) (8 * m + q) so z a mk)) (rx_t (mq_upL μ (8 * m + q) d) lt) s H := hV
                        have hR2 := hR1.rq (d := d) hm hq hso hz ha hal hmk h111 (show (pl 1 m).length < 8 by omega) hb0 hb1 hb2
                        refine gx_top (y := mq_who m) (mq_who_lo hm).symm ?_
                        refine gx_calli (va_runV (As := [.int (nI 1), .int (mq_who m)]) (rest := []) ⟨hx, hb, hml, hown, ht⟩ (k_R_many l (by omega) (by omega) (hR2.V (by rw [mq_rq_sp.2.2.2.2.2.2.2.2]; show ρ 0 1 + 1 < _; omega))) (cwV 2 ht (mx_gV (C := "MessageCrossbarModel") mw_546 mw_548 ms_16 mw_6 mw_549) rfl rfl rfl (by decide +kernel) ⟨Nat.le_of_ble_eq_true rfl, Nat.le_of_ble_eq_true rfl⟩) (gx_preV rx_ok hV hZ hS (q := (mR_R, mT_R, 20)) (by decide) rx_E_0 rfl [.int (nI 1), .int (mq_who m)]) rfl rfl hl.1 rfl (lv_room (Nat.le_of_ble_eq_true rfl)) dR_request_193 ⟨Nat.le_of_ble_eq_true rfl, Nat.le_of_ble_eq_true rfl⟩) hV hS (fun r9 σ' τ' H locs hp hV hS => ?_)
                        obtain ⟨hp, hu⟩ := hp
                        rw [hR2.2.1.many ok1, mq_set_s, List.length_append] at hp
                        replace hp : _ = nI ((pl 1 m).length + 1) := hp
                        subst hp
                        cases hu
                        exact gx_iret hx hb hr hV hS ⟨fun q0 => q0.elim (fun z0 => absurd h111 z0) (fun z0 => absurd z0 (by omega)), fun q0 q1 => ⟨rfl, rfl⟩⟩ dR_request_196 hlk
                      · refine lv_iconst (v := -1) hx hb dR_request_125 (by decide) ?_
                        exact gx_iret hx hb hr hV hS ⟨fun _ => ⟨rfl, rfl⟩, fun _ q0 => absurd q0 (by omega)⟩ dR_request_126 hlk
                  · exact absurd h91 (by rw [mq_up_s]; omega)

set_option maxHeartbeats 4000000 in
set_option maxRecDepth 100000 in
theorem k_R_requestB (l : Launch) {D : va_G} {K : Nat → ClassId} {ad : Nat → Nat} {ρ : Nat → Nat → Nat} {μ : Nat → Int64} {lt : Int64} {m q so z a mk : Int32} {d : Int64} (hbad : ¬ ((0 ≤ m ∧ m < nI 3) ∧ (0 ≤ q ∧ q < nI 8) ∧ (0 ≤ so ∧ so < nI 3) ∧ (0 ≤ z ∧ z < nI 4) ∧ (0 ≤ a ∧ a < nI 1024) ∧ (0 ≤ mk ∧ mk < nI 256))) : Met l yR_request (Cond.code yR_request prog_7_method_13_code 11 (some .int) :: mx_T) { frames := 3, cells := 0, slots := 0, locals := 67 } (va_Pc [.ref (ad 0), .int m, .int q, .int so, .int z, .int a, .long d, .int mk] (rx_P D K ad (mq_n ρ) (rx_t μ lt))) (rx_Qi D K ad (fun rr u => rr = nI 0 ∧ u = (mq_n (mq_up ρ 0 0 1), rx_t μ lt))) 0 0 (gx_A ad 17) := by
  refine gx_met (by decide) rfl (Nat.le_of_ble_eq_true rfl) ?_
  intro pg ev s mid as below mth c ls hx hb hr hml ht hown hlk hnm hargs hB hl
  obtain ⟨hV, hZ⟩ := hB
  have hS : va_S (gx_A ad 17) s.heap s.heap [] := va_S.rf
  have hl : lv_has ls 11 [(0, .ref (ad 0)), (1, .int m), (2, .int q), (3, .int so), (4, .int z), (5, .int a), (6, .long d), (8, .int mk)] := hl
  refine lv_iload_n hx hb dR_request_0 rfl (lv_at hl 1 rfl) ?_
  refine lv_iconst (v := nI 3) hx hb dR_request_1 (by decide) ?_
  refine gx_callp (va_runS (As := [.int m, .int (nI 3)]) (rest := []) ⟨hx, hb, hml, hown, ht⟩ (k_R_in l) (cwS 2 ht (mx_gS mw_543 mw_544 mw_6 mw_545) rfl rfl rfl (by decide +kernel) ⟨Nat.le_of_ble_eq_true rfl, Nat.le_of_ble_eq_true rfl⟩) (gx_preP [.int m, .int (nI 3)]) rfl rfl hl.1 rfl (lv_room (Nat.le_of_ble_eq_true rfl)) dR_request_2 ⟨Nat.le_of_ble_eq_true rfl, Nat.le_of_ble_eq_true rfl⟩) hV hS (fun r1 H locs hp hV hS => ?_)
  subst hp
  refine gx_ifb_eq (q := 0 ≤ m ∧ m < nI 3) (tgt := 60) hx hb dR_request_5 (by decide) (fun h5 => ?_) (fun h5 => ?_)
  · refine lv_iconst (v := nI 0) hx hb dR_request_60 (by decide) ?_
    refine lv_istore (lv' := [(9, .int (nI 0)), (0, .ref (ad 0)), (1, .int m), (2, .int q), (3, .int so), (4, .int z), (5, .int a), (6, .long d), (8, .int mk)]) hx hb dR_request_61 hl (by decide) rfl (fun ls hl => ?_)
    refine lv_aload_n hx hb dR_request_63 rfl (lv_at hl 1 rfl) ?_
    refine lv_iload hx hb dR_request_64 (lv_at hl 0 rfl) ?_
    refine gx_if_eq (a := 0) (tgt := 83) hx hb dR_request_66 (by decide) (by omega) (fun h66 => ?_) (fun h66 => ?_)
    · refine lv_iconst (v := nI 1) hx hb dR_request_83 (by decide) ?_
      refine gx_put rx_loc (C := mR_R) (T := mT_R) (N' := 20) (ty := .int) (v := .int (nI 1)) hx hb ht mh_R mt_R mk_R mn_R hown hV hS (by decide) rx_E_0 rfl 0 (by decide) (ht _ mw_472) (fun _ h => h) rfl (by decide +kernel) rfl rfl (Nat.le_of_ble_eq_true rfl) dR_request_84 (cx_up (mq_n ρ) 0 0 (nI 1)) (rx_t μ lt) (by rw [rx_E_0]; simp [cx_up]) (fun _ h => cx_up_J h) (fun _ _ => rfl) (fun H locs hV hS => ?_)
      rw [rx_up] at hV
      refine lv_aload_n hx hb dR_request_87 rfl (lv_at hl 1 rfl) ?_
      refine gx_get (C := mR_R) (T := mT_R) (N' := 20) (v := .int (nI ((mq_up ρ 0 0 1) 0 0))) hx hb ht mh_R hown hV (by decide) rx_E_0 rfl 0 (by decide) (ht _ mw_472) (fun _ h => h) rfl dR_request_88 ?_
      refine gx_if_le (a := ((mq_up ρ 0 0 1) 0 0)) (tgt := 96) hx hb dR_request_91 (by decide) (by rw [mq_up_s]; omega) (fun h91 => ?_) (fun h91 => ?_)
      · exact absurd h91 (by rw [mq_up_s]; omega)
      · refine lv_iconst (v := nI 0) hx hb dR_request_94 (by decide) ?_
        exact gx_iret hx hb hr hV hS ⟨rfl, rfl⟩ dR_request_95 hlk
    · exact absurd rfl h66
  · refine lv_iload_n hx hb dR_request_8 rfl (lv_at hl 2 rfl) ?_
    refine lv_bipush (v := nI 8) hx hb dR_request_9 (by decide) ?_
    refine gx_callp (va_runS (As := [.int q, .int (nI 8)]) (rest := []) ⟨hx, hb, hml, hown, ht⟩ (k_R_in l) (cwS 2 ht (mx_gS mw_543 mw_544 mw_6 mw_545) rfl rfl rfl (by decide +kernel) ⟨Nat.le_of_ble_eq_true rfl, Nat.le_of_ble_eq_true rfl⟩) (gx_preP [.int q, .int (nI 8)]) rfl rfl hl.1 rfl (lv_room (Nat.le_of_ble_eq_true rfl)) dR_request_11 ⟨Nat.le_of_ble_eq_true rfl, Nat.le_of_ble_eq_true rfl⟩) hV hS (fun r2 H locs hp hV hS => ?_)
    subst hp
    refine gx_ifb_eq (q := 0 ≤ q ∧ q < nI 8) (tgt := 60) hx hb dR_request_14 (by decide) (fun h14 => ?_) (fun h14 => ?_)
    · refine lv_iconst (v := nI 0) hx hb dR_request_60 (by decide) ?_
      refine lv_istore (lv' := [(9, .int (nI 0)), (0, .ref (ad 0)), (1, .int m), (2, .int q), (3, .int so), (4, .int z), (5, .int a), (6, .long d), (8, .int mk)]) hx hb dR_request_61 hl (by decide) rfl (fun ls hl => ?_)
      refine lv_aload_n hx hb dR_request_63 rfl (lv_at hl 1 rfl) ?_
      refine lv_iload hx hb dR_request_64 (lv_at hl 0 rfl) ?_
      refine gx_if_eq (a := 0) (tgt := 83) hx hb dR_request_66 (by decide) (by omega) (fun h66 => ?_) (fun h66 => ?_)
      · refine lv_iconst (v := nI 1) hx hb dR_request_83 (by decide) ?_
        refine gx_put rx_loc (C := mR_R) (T := mT_R) (N' := 20) (ty := .int) (v := .int (nI 1)) hx hb ht mh_R mt_R mk_R mn_R hown hV hS (by decide) rx_E_0 rfl 0 (by decide) (ht _ mw_472) (fun _ h => h) rfl (by decide +kernel) rfl rfl (Nat.le_of_ble_eq_true rfl) dR_request_84 (cx_up (mq_n ρ) 0 0 (nI 1)) (rx_t μ lt) (by rw [rx_E_0]; simp [cx_up]) (fun _ h => cx_up_J h) (fun _ _ => rfl) (fun H locs hV hS => ?_)
        rw [rx_up] at hV
        refine lv_aload_n hx hb dR_request_87 rfl (lv_at hl 1 rfl) ?_
        refine gx_get (C := mR_R) (T := mT_R) (N' := 20) (v := .int (nI ((mq_up ρ 0 0 1) 0 0))) hx hb ht mh_R hown hV (by decide) rx_E_0 rfl 0 (by decide) (ht _ mw_472) (fun _ h => h) rfl dR_request_88 ?_
        refine gx_if_le (a := ((mq_up ρ 0 0 1) 0 0)) (tgt := 96) hx hb dR_request_91 (by decide) (by rw [mq_up_s]; omega) (fun h91 => ?_) (fun h91 => ?_)
        · exact absurd h91 (by rw [mq_up_s]; omega)
        · refine lv_iconst (v := nI 0) hx hb dR_request_94 (by decide) ?_
          exact gx_iret hx hb hr hV hS ⟨rfl, rfl⟩ dR_request_95 hlk
      · exact absurd rfl h66
    · refine lv_iload_n hx hb dR_request_17 rfl (lv_at hl 3 rfl) ?_
      refine lv_iconst (v := nI 3) hx hb dR_request_18 (by decide) ?_
      refine gx_callp (va_runS (As := [.int so, .int (nI 3)]) (rest := []) ⟨hx, hb, hml, hown, ht⟩ (k_R_in l) (cwS 2 ht (mx_gS mw_543 mw_544 mw_6 mw_545) rfl rfl rfl (by decide +kernel) ⟨Nat.le_of_ble_eq_true rfl, Nat.le_of_ble_eq_true rfl⟩) (gx_preP [.int so, .int (nI 3)]) rfl rfl hl.1 rfl (lv_room (Nat.le_of_ble_eq_true rfl)) dR_request_19 ⟨Nat.le_of_ble_eq_true rfl, Nat.le_of_ble_eq_true rfl⟩) hV hS (fun r3 H locs hp hV hS => ?_)
      subst hp
      refine gx_ifb_eq (q := 0 ≤ so ∧ so < nI 3) (tgt := 60) hx hb dR_request_22 (by decide) (fun h22 => ?_) (fun h22 => ?_)
      · refine lv_iconst (v := nI 0) hx hb dR_request_60 (by decide) ?_
        refine lv_istore (lv' := [(9, .int (nI 0)), (0, .ref (ad 0)), (1, .int m), (2, .int q), (3, .int so), (4, .int z), (5, .int a), (6, .long d), (8, .int mk)]) hx hb dR_request_61 hl (by decide) rfl (fun ls hl => ?_)
        refine lv_aload_n hx hb dR_request_63 rfl (lv_at hl 1 rfl) ?_
        refine lv_iload hx hb dR_request_64 (lv_at hl 0 rfl) ?_
        refine gx_if_eq (a := 0) (tgt := 83) hx hb dR_request_66 (by decide) (by omega) (fun h66 => ?_) (fun h66 => ?_)
        · refine lv_iconst (v := nI 1) hx hb dR_request_83 (by decide) ?_
          refine gx_put rx_loc (C := mR_R) (T := mT_R) (N' := 20) (ty := .int) (v := .int (nI 1)) hx hb ht mh_R mt_R mk_R mn_R hown hV hS (by decide) rx_E_0 rfl 0 (by decide) (ht _ mw_472) (fun _ h => h) rfl (by decide +kernel) rfl rfl (Nat.le_of_ble_eq_true rfl) dR_request_84 (cx_up (mq_n ρ) 0 0 (nI 1)) (rx_t μ lt) (by rw [rx_E_0]; simp [cx_up]) (fun _ h => cx_up_J h) (fun _ _ => rfl) (fun H locs hV hS => ?_)
          rw [rx_up] at hV
          refine lv_aload_n hx hb dR_request_87 rfl (lv_at hl 1 rfl) ?_
          refine gx_get (C := mR_R) (T := mT_R) (N' := 20) (v := .int (nI ((mq_up ρ 0 0 1) 0 0))) hx hb ht mh_R hown hV (by decide) rx_E_0 rfl 0 (by decide) (ht _ mw_472) (fun _ h => h) rfl dR_request_88 ?_
          refine gx_if_le (a := ((mq_up ρ 0 0 1) 0 0)) (tgt := 96) hx hb dR_request_91 (by decide) (by rw [mq_up_s]; omega) (fun h91 => ?_) (fun h91 => ?_)
          · exact absurd h91 (by rw [mq_up_s]; omega)
          · refine lv_iconst (v := nI 0) hx hb dR_request_94 (by decide) ?_
            exact gx_iret hx hb hr hV hS ⟨rfl, rfl⟩ dR_request_95 hlk
        · exact absurd rfl h66
      · refine lv_iload hx hb dR_request_25 (lv_at hl 4 rfl) ?_
        refine lv_iconst (v := nI 4) hx hb dR_request_27 (by decide) ?_
        refine gx_callp (va_runS (As := [.int z, .int (nI 4)]) (rest := []) ⟨hx, hb, hml, hown, ht⟩ (k_R_in l) (cwS 2 ht (mx_gS mw_543 mw_544 mw_6 mw_545) rfl rfl rfl (by decide +kernel) ⟨Nat.le_of_ble_eq_true rfl, Nat.le_of_ble_eq_true rfl⟩) (gx_preP [.int z, .int (nI 4)]) rfl rfl hl.1 rfl (lv_room (Nat.le_of_ble_eq_true rfl)) dR_request_28 ⟨Nat.le_of_ble_eq_true rfl, Nat.le_of_ble_eq_true rfl⟩) hV hS (fun r4 H locs hp hV hS => ?_)
        subst hp
        refine gx_ifb_eq (q := 0 ≤ z ∧ z < nI 4) (tgt := 60) hx hb dR_request_31 (by decide) (fun h31 => ?_) (fun h31 => ?_)
        · refine lv_iconst (v := nI 0) hx hb dR_request_60 (by decide) ?_
          refine lv_istore (lv' := [(9, .int (nI 0)), (0, .ref (ad 0)), (1, .int m), (2, .int q), (3, .int so), (4, .int z), (5, .int a), (6, .long d), (8, .int mk)]) hx hb dR_request_61 hl (by decide) rfl (fun ls hl => ?_)
          refine lv_aload_n hx hb dR_request_63 rfl (lv_at hl 1 rfl) ?_
          refine lv_iload hx hb dR_request_64 (lv_at hl 0 rfl) ?_
          refine gx_if_eq (a := 0) (tgt := 83) hx hb dR_request_66 (by decide) (by omega) (fun h66 => ?_) (fun h66 => ?_)
          · refine lv_iconst (v := nI 1) hx hb dR_request_83 (by decide) ?_
            refine gx_put rx_loc (C := mR_R) (T := mT_R) (N' := 20) (ty := .int) (v := .int (nI 1)) hx hb ht mh_R mt_R mk_R mn_R hown hV hS (by decide) rx_E_0 rfl 0 (by decide) (ht _ mw_472) (fun _ h => h) rfl (by decide +kernel) rfl rfl (Nat.le_of_ble_eq_true rfl) dR_request_84 (cx_up (mq_n ρ) 0 0 (nI 1)) (rx_t μ lt) (by rw [rx_E_0]; simp [cx_up]) (fun _ h => cx_up_J h) (fun _ _ => rfl) (fun H locs hV hS => ?_)
            rw [rx_up] at hV
            refine lv_aload_n hx hb dR_request_87 rfl (lv_at hl 1 rfl) ?_
            refine gx_get (C := mR_R) (T := mT_R) (N' := 20) (v := .int (nI ((mq_up ρ 0 0 1) 0 0))) hx hb ht mh_R hown hV (by decide) rx_E_0 rfl 0 (by decide) (ht _ mw_472) (fun _ h => h) rfl dR_request_88 ?_
            refine gx_if_le (a := ((mq_up ρ 0 0 1) 0 0)) (tgt := 96) hx hb dR_request_91 (by decide) (by rw [mq_up_s]; omega) (fun h91 => ?_) (fun h91 => ?_)
            · exact absurd h91 (by rw [mq_up_s]; omega)
            · refine lv_iconst (v := nI 0) hx hb dR_request_94 (by decide) ?_
              exact gx_iret hx hb hr hV hS ⟨rfl, rfl⟩ dR_request_95 hlk
          · exact absurd rfl h66
        · refine lv_iload hx hb dR_request_34 (lv_at hl 5 rfl) ?_
          refine lv_sipush (v := nI 1024) hx hb dR_request_36 (by decide) ?_
          refine gx_callp (va_runS (As := [.int a, .int (nI 1024)]) (rest := []) ⟨hx, hb, hml, hown, ht⟩ (k_R_in l) (cwS 2 ht (mx_gS mw_543 mw_544 mw_6 mw_545) rfl rfl rfl (by decide +kernel) ⟨Nat.le_of_ble_eq_true rfl, Nat.le_of_ble_eq_true rfl⟩) (gx_preP [.int a, .int (nI 1024)]) rfl rfl hl.1 rfl (lv_room (Nat.le_of_ble_eq_true rfl)) dR_request_39 ⟨Nat.le_of_ble_eq_true rfl, Nat.le_of_ble_eq_true rfl⟩) hV hS (fun r5 H locs hp hV hS => ?_)
          subst hp
          refine gx_ifb_eq (q := 0 ≤ a ∧ a < nI 1024) (tgt := 60) hx hb dR_request_42 (by decide) (fun h42 => ?_) (fun h42 => ?_)
          · refine lv_iconst (v := nI 0) hx hb dR_request_60 (by decide) ?_
            refine lv_istore (lv' := [(9, .int (nI 0)), (0, .ref (ad 0)), (1, .int m), (2, .int q), (3, .int so), (4, .int z), (5, .int a), (6, .long d), (8, .int mk)]) hx hb dR_request_61 hl (by decide) rfl (fun ls hl => ?_)
            refine lv_aload_n hx hb dR_request_63 rfl (lv_at hl 1 rfl) ?_
            refine lv_iload hx hb dR_request_64 (lv_at hl 0 rfl) ?_
            refine gx_if_eq (a := 0) (tgt := 83) hx hb dR_request_66 (by decide) (by omega) (fun h66 => ?_) (fun h66 => ?_)
            · refine lv_iconst (v := nI 1) hx hb dR_request_83 (by decide) ?_
              refine gx_put rx_loc (C := mR_R) (T := mT_R) (N' := 20) (ty := .int) (v := .int (nI 1)) hx hb ht mh_R mt_R mk_R mn_R hown hV hS (by decide) rx_E_0 rfl 0 (by decide) (ht _ mw_472) (fun _ h => h) rfl (by decide +kernel) rfl rfl (Nat.le_of_ble_eq_true rfl) dR_request_84 (cx_up (mq_n ρ) 0 0 (nI 1)) (rx_t μ lt) (by rw [rx_E_0]; simp [cx_up]) (fun _ h => cx_up_J h) (fun _ _ => rfl) (fun H locs hV hS => ?_)
              rw [rx_up] at hV
              refine lv_aload_n hx hb dR_request_87 rfl (lv_at hl 1 rfl) ?_
              refine gx_get (C := mR_R) (T := mT_R) (N' := 20) (v := .int (nI ((mq_up ρ 0 0 1) 0 0))) hx hb ht mh_R hown hV (by decide) rx_E_0 rfl 0 (by decide) (ht _ mw_472) (fun _ h => h) rfl dR_request_88 ?_
              refine gx_if_le (a := ((mq_up ρ 0 0 1) 0 0)) (tgt := 96) hx hb dR_request_91 (by decide) (by rw [mq_up_s]; omega) (fun h91 => ?_) (fun h91 => ?_)
              · exact absurd h91 (by rw [mq_up_s]; omega)
              · refine lv_iconst (v := nI 0) hx hb dR_request_94 (by decide) ?_
                exact gx_iret hx hb hr hV hS ⟨rfl, rfl⟩ dR_request_95 hlk
            · exact absurd rfl h66
          · refine lv_iload hx hb dR_request_45 (lv_at hl 7 rfl) ?_
            refine lv_sipush (v := nI 256) hx hb dR_request_47 (by decide) ?_
            refine gx_callp (va_runS (As := [.int mk, .int (nI 256)]) (rest := []) ⟨hx, hb, hml, hown, ht⟩ (k_R_in l) (cwS 2 ht (mx_gS mw_543 mw_544 mw_6 mw_545) rfl rfl rfl (by decide +kernel) ⟨Nat.le_of_ble_eq_true rfl, Nat.le_of_ble_eq_true rfl⟩) (gx_preP [.int mk, .int (nI 256)]) rfl rfl hl.1 rfl (lv_room (Nat.le_of_ble_eq_true rfl)) dR_request_50 ⟨Nat.le_of_ble_eq_true rfl, Nat.le_of_ble_eq_true rfl⟩) hV hS (fun r6 H locs hp hV hS => ?_)
            subst hp
            refine gx_ifb_eq (q := 0 ≤ mk ∧ mk < nI 256) (tgt := 60) hx hb dR_request_53 (by decide) (fun h53 => ?_) (fun h53 => ?_)
            · refine lv_iconst (v := nI 0) hx hb dR_request_60 (by decide) ?_
              refine lv_istore (lv' := [(9, .int (nI 0)), (0, .ref (ad 0)), (1, .int m), (2, .int q), (3, .int so), (4, .int z), (5, .int a), (6, .long d), (8, .int mk)]) hx hb dR_request_61 hl (by decide) rfl (fun ls hl => ?_)
              refine lv_aload_n hx hb dR_request_63 rfl (lv_at hl 1 rfl) ?_
              refine lv_iload hx hb dR_request_64 (lv_at hl 0 rfl) ?_
              refine gx_if_eq (a := 0) (tgt := 83) hx hb dR_request_66 (by decide) (by omega) (fun h66 => ?_) (fun h66 => ?_)
              · refine lv_iconst (v := nI 1) hx hb dR_request_83 (by decide) ?_
                refine gx_put rx_loc (C := mR_R) (T := mT_R) (N' := 20) (ty := .int) (v := .int (nI 1)) hx hb ht mh_R mt_R mk_R mn_R hown hV hS (by decide) rx_E_0 rfl 0 (by decide) (ht _ mw_472) (fun _ h => h) rfl (by decide +kernel) rfl rfl (Nat.le_of_ble_eq_true rfl) dR_request_84 (cx_up (mq_n ρ) 0 0 (nI 1)) (rx_t μ lt) (by rw [rx_E_0]; simp [cx_up]) (fun _ h => cx_up_J h) (fun _ _ => rfl) (fun H locs hV hS => ?_)
                rw [rx_up] at hV
                refine lv_aload_n hx hb dR_request_87 rfl (lv_at hl 1 rfl) ?_
                refine gx_get (C := mR_R) (T := mT_R) (N' := 20) (v := .int (nI ((mq_up ρ 0 0 1) 0 0))) hx hb ht mh_R hown hV (by decide) rx_E_0 rfl 0 (by decide) (ht _ mw_472) (fun _ h => h) rfl dR_request_88 ?_
                refine gx_if_le (a := ((mq_up ρ 0 0 1) 0 0)) (tgt := 96) hx hb dR_request_91 (by decide) (by rw [mq_up_s]; omega) (fun h91 => ?_) (fun h91 => ?_)
                · exact absurd h91 (by rw [mq_up_s]; omega)
                · refine lv_iconst (v := nI 0) hx hb dR_request_94 (by decide) ?_
                  exact gx_iret hx hb hr hV hS ⟨rfl, rfl⟩ dR_request_95 hlk
              · exact absurd rfl h66
            · exact absurd ⟨h5, h14, h22, h31, h42, h53⟩ hbad

set_option maxHeartbeats 4000000 in
set_option maxRecDepth 100000 in
theorem k_R_requestC (l : Launch) {D : va_G} {K : Nat → ClassId} {ad : Nat → Nat} {ρ : Nat → Nat → Nat} {μ : Nat → Int64} {lt : Int64} {m q so z a mk : Nat} {d : Int64} (hm : m < 3) (hq : q < 8) (hso : so < 3) (hz : z < 4) (ha : a < 1024) (hal : a % 2 ^ z ≠ 0) (hmk : mk < 256) : Met l yR_request (Cond.code yR_request prog_7_method_13_code 11 (some .int) :: mx_T) { frames := 3, cells := 0, slots := 0, locals := 67 } (va_Pc [.ref (ad 0), .int (nI m), .int (nI q), .int (nI so), .int (nI z), .int (nI a), .long d, .int (nI mk)] (rx_P D K ad (mq_n ρ) (rx_t μ lt))) (rx_Qi D K ad (fun rr u => rr = nI 0 ∧ u = (mq_n (mq_up ρ 0 0 1), rx_t μ lt))) 0 0 (gx_A ad 17) := by
  refine gx_met (by decide) rfl (Nat.le_of_ble_eq_true rfl) ?_
  intro pg ev s mid as below mth c ls hx hb hr hml ht hown hlk hnm hargs hB hl
  obtain ⟨hV, hZ⟩ := hB
  have hS : va_S (gx_A ad 17) s.heap s.heap [] := va_S.rf
  have hl : lv_has ls 11 [(0, .ref (ad 0)), (1, .int (nI m)), (2, .int (nI q)), (3, .int (nI so)), (4, .int (nI z)), (5, .int (nI a)), (6, .long d), (8, .int (nI mk))] := hl
  have hz8 := cx_p8 hz
  refine lv_iload_n hx hb dR_request_0 rfl (lv_at hl 1 rfl) ?_
  refine lv_iconst (v := nI 3) hx hb dR_request_1 (by decide) ?_
  refine gx_callp (va_runS (As := [.int (nI m), .int (nI 3)]) (rest := []) ⟨hx, hb, hml, hown, ht⟩ (k_R_in l) (cwS 2 ht (mx_gS mw_543 mw_544 mw_6 mw_545) rfl rfl rfl (by decide +kernel) ⟨Nat.le_of_ble_eq_true rfl, Nat.le_of_ble_eq_true rfl⟩) (gx_preP [.int (nI m), .int (nI 3)]) rfl rfl hl.1 rfl (lv_room (Nat.le_of_ble_eq_true rfl)) dR_request_2 ⟨Nat.le_of_ble_eq_true rfl, Nat.le_of_ble_eq_true rfl⟩) hV hS (fun r1 H locs hp hV hS => ?_)
  subst hp
  refine gx_ifb_eq (q := 0 ≤ nI m ∧ nI m < nI 3) (tgt := 60) hx hb dR_request_5 (by decide) (fun h5 => ?_) (fun h5 => ?_)
  · exact absurd (cx_bl hm (by decide)) h5
  · refine lv_iload_n hx hb dR_request_8 rfl (lv_at hl 2 rfl) ?_
    refine lv_bipush (v := nI 8) hx hb dR_request_9 (by decide) ?_
    refine gx_callp (va_runS (As := [.int (nI q), .int (nI 8)]) (rest := []) ⟨hx, hb, hml, hown, ht⟩ (k_R_in l) (cwS 2 ht (mx_gS mw_543 mw_544 mw_6 mw_545) rfl rfl rfl (by decide +kernel) ⟨Nat.le_of_ble_eq_true rfl, Nat.le_of_ble_eq_true rfl⟩) (gx_preP [.int (nI q), .int (nI 8)]) rfl rfl hl.1 rfl (lv_room (Nat.le_of_ble_eq_true rfl)) dR_request_11 ⟨Nat.le_of_ble_eq_true rfl, Nat.le_of_ble_eq_true rfl⟩) hV hS (fun r2 H locs hp hV hS => ?_)
    subst hp
    refine gx_ifb_eq (q := 0 ≤ nI q ∧ nI q < nI 8) (tgt := 60) hx hb dR_request_14 (by decide) (fun h14 => ?_) (fun h14 => ?_)
    · exact absurd (cx_bl hq (by decide)) h14
    · refine lv_iload_n hx hb dR_request_17 rfl (lv_at hl 3 rfl) ?_
      refine lv_iconst (v := nI 3) hx hb dR_request_18 (by decide) ?_
      refine gx_callp (va_runS (As := [.int (nI so), .int (nI 3)]) (rest := []) ⟨hx, hb, hml, hown, ht⟩ (k_R_in l) (cwS 2 ht (mx_gS mw_543 mw_544 mw_6 mw_545) rfl rfl rfl (by decide +kernel) ⟨Nat.le_of_ble_eq_true rfl, Nat.le_of_ble_eq_true rfl⟩) (gx_preP [.int (nI so), .int (nI 3)]) rfl rfl hl.1 rfl (lv_room (Nat.le_of_ble_eq_true rfl)) dR_request_19 ⟨Nat.le_of_ble_eq_true rfl, Nat.le_of_ble_eq_true rfl⟩) hV hS (fun r3 H locs hp hV hS => ?_)
      subst hp
      refine gx_ifb_eq (q := 0 ≤ nI so ∧ nI so < nI 3) (tgt := 60) hx hb dR_request_22 (by decide) (fun h22 => ?_) (fun h22 => ?_)
      · exact absurd (cx_bl hso (by decide)) h22
      · refine lv_iload hx hb dR_request_25 (lv_at hl 4 rfl) ?_
        refine lv_iconst (v := nI 4) hx hb dR_request_27 (by decide) ?_
        refine gx_callp (va_runS (As := [.int (nI z), .int (nI 4)]) (rest := []) ⟨hx, hb, hml, hown, ht⟩ (k_R_in l) (cwS 2 ht (mx_gS mw_543 mw_544 mw_6 mw_545) rfl rfl rfl (by decide +kernel) ⟨Nat.le_of_ble_eq_true rfl, Nat.le_of_ble_eq_true rfl⟩) (gx_preP [.int (nI z), .int (nI 4)]) rfl rfl hl.1 rfl (lv_room (Nat.le_of_ble_eq_true rfl)) dR_request_28 ⟨Nat.le_of_ble_eq_true rfl, Nat.le_of_ble_eq_true rfl⟩) hV hS (fun r4 H locs hp hV hS => ?_)
        subst hp
        refine gx_ifb_eq (q := 0 ≤ nI z ∧ nI z < nI 4) (tgt := 60) hx hb dR_request_31 (by decide) (fun h31 => ?_) (fun h31 => ?_)
        · exact absurd (cx_bl hz (by decide)) h31
        · refine lv_iload hx hb dR_request_34 (lv_at hl 5 rfl) ?_
          refine lv_sipush (v := nI 1024) hx hb dR_request_36 (by decide) ?_
          refine gx_callp (va_runS (As := [.int (nI a), .int (nI 1024)]) (rest := []) ⟨hx, hb, hml, hown, ht⟩ (k_R_in l) (cwS 2 ht (mx_gS mw_543 mw_544 mw_6 mw_545) rfl rfl rfl (by decide +kernel) ⟨Nat.le_of_ble_eq_true rfl, Nat.le_of_ble_eq_true rfl⟩) (gx_preP [.int (nI a), .int (nI 1024)]) rfl rfl hl.1 rfl (lv_room (Nat.le_of_ble_eq_true rfl)) dR_request_39 ⟨Nat.le_of_ble_eq_true rfl, Nat.le_of_ble_eq_true rfl⟩) hV hS (fun r5 H locs hp hV hS => ?_)
          subst hp
          refine gx_ifb_eq (q := 0 ≤ nI a ∧ nI a < nI 1024) (tgt := 60) hx hb dR_request_42 (by decide) (fun h42 => ?_) (fun h42 => ?_)
          · exact absurd (cx_bl ha (by decide)) h42
          · refine lv_iload hx hb dR_request_45 (lv_at hl 7 rfl) ?_
            refine lv_sipush (v := nI 256) hx hb dR_request_47 (by decide) ?_
            refine gx_callp (va_runS (As := [.int (nI mk), .int (nI 256)]) (rest := []) ⟨hx, hb, hml, hown, ht⟩ (k_R_in l) (cwS 2 ht (mx_gS mw_543 mw_544 mw_6 mw_545) rfl rfl rfl (by decide +kernel) ⟨Nat.le_of_ble_eq_true rfl, Nat.le_of_ble_eq_true rfl⟩) (gx_preP [.int (nI mk), .int (nI 256)]) rfl rfl hl.1 rfl (lv_room (Nat.le_of_ble_eq_true rfl)) dR_request_50 ⟨Nat.le_of_ble_eq_true rfl, Nat.le_of_ble_eq_true rfl⟩) hV hS (fun r6 H locs hp hV hS => ?_)
            subst hp
            refine gx_ifb_eq (q := 0 ≤ nI mk ∧ nI mk < nI 256) (tgt := 60) hx hb dR_request_53 (by decide) (fun h53 => ?_) (fun h53 => ?_)
            · exact absurd (cx_bl hmk (by decide)) h53
            · refine lv_iconst (v := nI 1) hx hb dR_request_56 (by decide) ?_
              refine lv_goto (tgt := 61) hx hb dR_request_57 (by decide) ?_
              refine lv_istore (lv' := [(9, .int (nI 1)), (0, .ref (ad 0)), (1, .int (nI m)), (2, .int (nI q)), (3, .int (nI so)), (4, .int (nI z)), (5, .int (nI a)), (6, .long d), (8, .int (nI mk))]) hx hb dR_request_61 hl (by decide) rfl (fun ls hl => ?_)
              refine lv_aload_n hx hb dR_request_63 rfl (lv_at hl 1 rfl) ?_
              refine lv_iload hx hb dR_request_64 (lv_at hl 0 rfl) ?_
              refine gx_if_eq (a := 1) (tgt := 83) hx hb dR_request_66 (by decide) (by omega) (fun h66 => ?_) (fun h66 => ?_)
              · exact absurd h66 (by decide)
              · refine lv_iload hx hb dR_request_69 (lv_at hl 6 rfl) ?_
                refine lv_iconst (v := nI 1) hx hb dR_request_71 (by decide) ?_
                refine lv_iload hx hb dR_request_72 (lv_at hl 5 rfl) ?_
                refine lv_ishl hx hb dR_request_74 ?_
                refine gx_top (y := nI (2 ^ z)) (mq_sh1 z hz) ?_
                refine gx_irem (a := a) (b := (2 ^ z)) hx hb dR_request_75 (by omega) hz8.1 (by omega) ?_
                refine gx_if_ne (a := (a % (2 ^ z))) (tgt := 83) hx hb dR_request_76 (by decide) (by omega) (fun h76 => ?_) (fun h76 => ?_)
                · refine lv_iconst (v := nI 1) hx hb dR_request_83 (by decide) ?_
                  refine gx_put rx_loc (C := mR_R) (T := mT_R) (N' := 20) (ty := .int) (v := .int (nI 1)) hx hb ht mh_R mt_R mk_R mn_R hown hV hS (by decide) rx_E_0 rfl 0 (by decide) (ht _ mw_472) (fun _ h => h) rfl (by decide +kernel) rfl rfl (Nat.le_of_ble_eq_true rfl) dR_request_84 (cx_up (mq_n ρ) 0 0 (nI 1)) (rx_t μ lt) (by rw [rx_E_0]; simp [cx_up]) (fun _ h => cx_up_J h) (fun _ _ => rfl) (fun H locs hV hS => ?_)
                  rw [rx_up] at hV
                  refine lv_aload_n hx hb dR_request_87 rfl (lv_at hl 1 rfl) ?_
                  refine gx_get (C := mR_R) (T := mT_R) (N' := 20) (v := .int (nI ((mq_up ρ 0 0 1) 0 0))) hx hb ht mh_R hown hV (by decide) rx_E_0 rfl 0 (by decide) (ht _ mw_472) (fun _ h => h) rfl dR_request_88 ?_
                  refine gx_if_le (a := ((mq_up ρ 0 0 1) 0 0)) (tgt := 96) hx hb dR_request_91 (by decide) (by rw [mq_up_s]; omega) (fun h91 => ?_) (fun h91 => ?_)
                  · exact absurd h91 (by rw [mq_up_s]; omega)
                  · refine lv_iconst (v := nI 0) hx hb dR_request_94 (by decide) ?_
                    exact gx_iret hx hb hr hV hS ⟨rfl, rfl⟩ dR_request_95 hlk
                · exact absurd h76 hal

set_option maxHeartbeats 4000000 in
set_option maxRecDepth 100000 in
theorem k_R_accept (l : Launch) {D : va_G} {K : Nat → ClassId} {ad : Nat → Nat} {ρ : Nat → Nat → Nat} {μ : Nat → Int64} {lt : Int64} {m y : Nat} (hm : m < 3) (hy : y ≤ 1) {cσ : Nat → Nat → Int32} {cτ : Nat → Nat → Int64} {pl : Nat → Nat → List Nat} (hR : rr_R cσ cτ ρ μ lt pl) (hmv : ρ 0 1 + 16 < 2 ^ 31) : Met l yR_accept (Cond.code yR_accept prog_7_method_14_code 4 (some .boolean) :: mx_T) { frames := 1, cells := 0, slots := 0, locals := 21 } (va_Pc [.ref (ad 0), .int (nI m), .int (nI y)] (rx_P D K ad (mq_n ρ) (rx_t μ lt))) (rx_Qi D K ad (fun rr u => rr = nI (1 - ρ 9 m) ∧ u = (mq_n (mq_up (mq_up ρ 0 0 0) 9 m (1 - y)), rx_t μ lt))) 0 0 (gx_A ad 17) := by
  refine gx_met (by decide) rfl (Nat.le_of_ble_eq_true rfl) ?_
  intro pg ev s mid as below mth c ls hx hb hr hml ht hown hlk hnm hargs hB hl
  obtain ⟨hV, hZ⟩ := hB
  have hS : va_S (gx_A ad 17) s.heap s.heap [] := va_S.rf
  have hl : lv_has ls 4 [(0, .ref (ad 0)), (1, .int (nI m)), (2, .int (nI y))] := hl
  have hR1 : rr_R cσ cτ (mq_up ρ 0 0 0) μ lt pl := hR
  have hV0 := hR1.V (show ρ 0 1 < _ by omega)
  have h9 : ρ 9 m ≤ 1 := (hV0.2.1 m hm).1
  refine lv_aload_n hx hb dR_accept_0 rfl (lv_at hl 0 rfl) ?_
  refine lv_iload_n hx hb dR_accept_1 rfl (lv_at hl 1 rfl) ?_
  refine lv_iconst (v := nI 3) hx hb dR_accept_2 (by decide) ?_
  refine gx_callp (va_runS (As := [.int (nI m), .int (nI 3)]) (rest := [.ref (ad 0)]) ⟨hx, hb, hml, hown, ht⟩ (k_R_in l) (cwS 2 ht (mx_gS mw_543 mw_544 mw_6 mw_545) rfl rfl rfl (by decide +kernel) ⟨Nat.le_of_ble_eq_true rfl, Nat.le_of_ble_eq_true rfl⟩) (gx_preP [.int (nI m), .int (nI 3)]) rfl rfl hl.1 rfl (lv_room (Nat.le_of_ble_eq_true rfl)) dR_accept_3 ⟨Nat.le_of_ble_eq_true rfl, Nat.le_of_ble_eq_true rfl⟩) hV hS (fun r1 H locs hp hV hS => ?_)
  subst hp
  refine gx_ifb_eq (q := 0 ≤ nI m ∧ nI m < nI 3) (tgt := 13) hx hb dR_accept_6 (by decide) (fun h6 => ?_) (fun h6 => ?_)
  · exact absurd (cx_bl hm (by decide)) h6
  · refine lv_iconst (v := nI 0) hx hb dR_accept_9 (by decide) ?_
    refine lv_goto (tgt := 14) hx hb dR_accept_10 (by decide) ?_
    refine gx_put rx_loc (C := mR_R) (T := mT_R) (N' := 20) (ty := .int) (v := .int (nI 0)) hx hb ht mh_R mt_R mk_R mn_R hown hV hS (by decide) rx_E_0 rfl 0 (by decide) (ht _ mw_472) (fun _ h => h) rfl (by decide +kernel) rfl rfl (Nat.le_of_ble_eq_true rfl) dR_accept_14 (cx_up (mq_n ρ) 0 0 (nI 0)) (rx_t μ lt) (by rw [rx_E_0]; simp [cx_up]) (fun _ h => cx_up_J h) (fun _ _ => rfl) (fun H locs hV hS => ?_)
    rw [rx_up] at hV
    refine lv_aload_n hx hb dR_accept_17 rfl (lv_at hl 0 rfl) ?_
    refine gx_get (C := mR_R) (T := mT_R) (N' := 20) (v := .int (nI ((mq_up ρ 0 0 0) 0 0))) hx hb ht mh_R hown hV (by decide) rx_E_0 rfl 0 (by decide) (ht _ mw_472) (fun _ h => h) rfl dR_accept_18 ?_
    refine gx_if_le (a := ((mq_up ρ 0 0 0) 0 0)) (tgt := 26) hx hb dR_accept_21 (by decide) (by rw [mq_up_s]; omega) (fun h21 => ?_) (fun h21 => ?_)
    · refine lv_aload_n hx hb dR_accept_26 rfl (lv_at hl 0 rfl) ?_
      refine gx_get (C := mR_R) (T := mT_R) (N' := 20) hx hb ht mh_R hown hV (by decide) rx_E_0 rfl 10 (by decide) (ht _ mw_482) (fun _ h => h) rfl dR_accept_27 ?_
      refine lv_iload_n hx hb dR_accept_30 rfl (lv_at hl 1 rfl) ?_
      refine gx_zald hx hb hV (by decide) 2 rx_E_9 rfl m hm (by decide) rfl dR_accept_31 ?_
      refine gx_top (y := nI (ρ 9 m)) rfl ?_
      refine gx_if_ne (a := (ρ 9 m)) (tgt := 39) hx hb dR_accept_32 (by decide) (by omega) (fun h32 => ?_) (fun h32 => ?_)
      · refine lv_iconst (v := nI 0) hx hb dR_accept_39 (by decide) ?_
        refine gx_top (y := nI (1 - ρ 9 m)) (by congr 1; omega) ?_
        refine lv_istore_n (lv' := [(3, .int (nI (1 - ρ 9 m))), (0, .ref (ad 0)), (1, .int (nI m)), (2, .int (nI y))]) hx hb dR_accept_40 rfl hl (by decide) rfl (fun ls hl => ?_)
        refine lv_aload_n hx hb dR_accept_41 rfl (lv_at hl 1 rfl) ?_
        refine gx_get (C := mR_R) (T := mT_R) (N' := 20) hx hb ht mh_R hown hV (by decide) rx_E_0 rfl 10 (by decide) (ht _ mw_482) (fun _ h => h) rfl dR_accept_42 ?_
        refine lv_iload_n hx hb dR_accept_45 rfl (lv_at hl 2 rfl) ?_
        refine lv_iload_n hx hb dR_accept_46 rfl (lv_at hl 3 rfl) ?_
        refine gx_if_ne (a := y) (tgt := 54) hx hb dR_accept_47 (by decide) (by omega) (fun h47 => ?_) (fun h47 => ?_)
        · refine lv_iconst (v := nI 0) hx hb dR_accept_54 (by decide) ?_
          refine gx_top (y := nI (1 - y)) (by congr 1; omega) ?_
          refine gx_zast rx_loc hx hb hV hS (by decide) 2 rx_E_9 rfl m hm (by decide) rfl dR_accept_55 (cx_up (mq_n (mq_up ρ 0 0 0)) 9 m (nI (1 - y))) (by rw [rx_E_9, cx_up_upd]; rcases (show y = 0 ∨ y = 1 by omega) with rfl | rfl <;> rfl) (fun _ h => cx_up_J h) (fun H locs hV hS => ?_)
          rw [rx_up] at hV
          refine lv_iload_n hx hb dR_accept_56 rfl (lv_at hl 0 rfl) ?_
          exact gx_zret hx hb hr (cx_nb1 (by omega)) hV hS ⟨rfl, rfl⟩ dR_accept_57 hlk
        · refine lv_iconst (v := nI 1) hx hb dR_accept_50 (by decide) ?_
          refine lv_goto (tgt := 55) hx hb dR_accept_51 (by decide) ?_
          refine gx_top (y := nI (1 - y)) (by congr 1; omega) ?_
          refine gx_zast rx_loc hx hb hV hS (by decide) 2 rx_E_9 rfl m hm (by decide) rfl dR_accept_55 (cx_up (mq_n (mq_up ρ 0 0 0)) 9 m (nI (1 - y))) (by rw [rx_E_9, cx_up_upd]; rcases (show y = 0 ∨ y = 1 by omega) with rfl | rfl <;> rfl) (fun _ h => cx_up_J h) (fun H locs hV hS => ?_)
          rw [rx_up] at hV
          refine lv_iload_n hx hb dR_accept_56 rfl (lv_at hl 0 rfl) ?_
          exact gx_zret hx hb hr (cx_nb1 (by omega)) hV hS ⟨rfl, rfl⟩ dR_accept_57 hlk
      · refine lv_iconst (v := nI 1) hx hb dR_accept_35 (by decide) ?_
        refine lv_goto (tgt := 40) hx hb dR_accept_36 (by decide) ?_
        refine gx_top (y := nI (1 - ρ 9 m)) (by congr 1; omega) ?_
        refine lv_istore_n (lv' := [(3, .int (nI (1 - ρ 9 m))), (0, .ref (ad 0)), (1, .int (nI m)), (2, .int (nI y))]) hx hb dR_accept_40 rfl hl (by decide) rfl (fun ls hl => ?_)
        refine lv_aload_n hx hb dR_accept_41 rfl (lv_at hl 1 rfl) ?_
        refine gx_get (C := mR_R) (T := mT_R) (N' := 20) hx hb ht mh_R hown hV (by decide) rx_E_0 rfl 10 (by decide) (ht _ mw_482) (fun _ h => h) rfl dR_accept_42 ?_
        refine lv_iload_n hx hb dR_accept_45 rfl (lv_at hl 2 rfl) ?_
        refine lv_iload_n hx hb dR_accept_46 rfl (lv_at hl 3 rfl) ?_
        refine gx_if_ne (a := y) (tgt := 54) hx hb dR_accept_47 (by decide) (by omega) (fun h47 => ?_) (fun h47 => ?_)
        · refine lv_iconst (v := nI 0) hx hb dR_accept_54 (by decide) ?_
          refine gx_top (y := nI (1 - y)) (by congr 1; omega) ?_
          refine gx_zast rx_loc hx hb hV hS (by decide) 2 rx_E_9 rfl m hm (by decide) rfl dR_accept_55 (cx_up (mq_n (mq_up ρ 0 0 0)) 9 m (nI (1 - y))) (by rw [rx_E_9, cx_up_upd]; rcases (show y = 0 ∨ y = 1 by omega) with rfl | rfl <;> rfl) (fun _ h => cx_up_J h) (fun H locs hV hS => ?_)
          rw [rx_up] at hV
          refine lv_iload_n hx hb dR_accept_56 rfl (lv_at hl 0 rfl) ?_
          exact gx_zret hx hb hr (cx_nb1 (by omega)) hV hS ⟨rfl, rfl⟩ dR_accept_57 hlk
        · refine lv_iconst (v := nI 1) hx hb dR_accept_50 (by decide) ?_
          refine lv_goto (tgt := 55) hx hb dR_accept_51 (by decide) ?_
          refine gx_top (y := nI (1 - y)) (by congr 1; omega) ?_
          refine gx_zast rx_loc hx hb hV hS (by decide) 2 rx_E_9 rfl m hm (by decide) rfl dR_accept_55 (cx_up (mq_n (mq_up ρ 0 0 0)) 9 m (nI (1 - y))) (by rw [rx_E_9, cx_up_upd]; rcases (show y = 0 ∨ y = 1 by omega) with rfl | rfl <;> rfl) (fun _ h => cx_up_J h) (fun H locs hV hS => ?_)
          rw [rx_up] at hV
          refine lv_iload_n hx hb dR_accept_56 rfl (lv_at hl 0 rfl) ?_
          exact gx_zret hx hb hr (cx_nb1 (by omega)) hV hS ⟨rfl, rfl⟩ dR_accept_57 hlk
    · exact absurd h21 (by rw [mq_up_s]; omega)

set_option maxHeartbeats 4000000 in
set_option maxRecDepth 100000 in
theorem k_R_acceptB (l : Launch) {D : va_G} {K : Nat → ClassId} {ad : Nat → Nat} {ρ : Nat → Nat → Nat} {μ : Nat → Int64} {lt : Int64} {m y : Int32} (hm : ¬ (0 ≤ m ∧ m < nI 3)) : Met l yR_accept (Cond.code yR_accept prog_7_method_14_code 4 (some .boolean) :: mx_T) { frames := 1, cells := 0, slots := 0, locals := 21 } (va_Pc [.ref (ad 0), .int m, .int y] (rx_P D K ad (mq_n ρ) (rx_t μ lt))) (rx_Qi D K ad (fun rr u => rr = nI 0 ∧ u = (mq_n (mq_up ρ 0 0 1), rx_t μ lt))) 0 0 (gx_A ad 17) := by
  refine gx_met (by decide) rfl (Nat.le_of_ble_eq_true rfl) ?_
  intro pg ev s mid as below mth c ls hx hb hr hml ht hown hlk hnm hargs hB hl
  obtain ⟨hV, hZ⟩ := hB
  have hS : va_S (gx_A ad 17) s.heap s.heap [] := va_S.rf
  have hl : lv_has ls 4 [(0, .ref (ad 0)), (1, .int m), (2, .int y)] := hl
  refine lv_aload_n hx hb dR_accept_0 rfl (lv_at hl 0 rfl) ?_
  refine lv_iload_n hx hb dR_accept_1 rfl (lv_at hl 1 rfl) ?_
  refine lv_iconst (v := nI 3) hx hb dR_accept_2 (by decide) ?_
  refine gx_callp (va_runS (As := [.int m, .int (nI 3)]) (rest := [.ref (ad 0)]) ⟨hx, hb, hml, hown, ht⟩ (k_R_in l) (cwS 2 ht (mx_gS mw_543 mw_544 mw_6 mw_545) rfl rfl rfl (by decide +kernel) ⟨Nat.le_of_ble_eq_true rfl, Nat.le_of_ble_eq_true rfl⟩) (gx_preP [.int m, .int (nI 3)]) rfl rfl hl.1 rfl (lv_room (Nat.le_of_ble_eq_true rfl)) dR_accept_3 ⟨Nat.le_of_ble_eq_true rfl, Nat.le_of_ble_eq_true rfl⟩) hV hS (fun r1 H locs hp hV hS => ?_)
  subst hp
  refine gx_ifb_eq (q := 0 ≤ m ∧ m < nI 3) (tgt := 13) hx hb dR_accept_6 (by decide) (fun h6 => ?_) (fun h6 => ?_)
  · refine lv_iconst (v := nI 1) hx hb dR_accept_13 (by decide) ?_
    refine gx_put rx_loc (C := mR_R) (T := mT_R) (N' := 20) (ty := .int) (v := .int (nI 1)) hx hb ht mh_R mt_R mk_R mn_R hown hV hS (by decide) rx_E_0 rfl 0 (by decide) (ht _ mw_472) (fun _ h => h) rfl (by decide +kernel) rfl rfl (Nat.le_of_ble_eq_true rfl) dR_accept_14 (cx_up (mq_n ρ) 0 0 (nI 1)) (rx_t μ lt) (by rw [rx_E_0]; simp [cx_up]) (fun _ h => cx_up_J h) (fun _ _ => rfl) (fun H locs hV hS => ?_)
    rw [rx_up] at hV
    refine lv_aload_n hx hb dR_accept_17 rfl (lv_at hl 0 rfl) ?_
    refine gx_get (C := mR_R) (T := mT_R) (N' := 20) (v := .int (nI ((mq_up ρ 0 0 1) 0 0))) hx hb ht mh_R hown hV (by decide) rx_E_0 rfl 0 (by decide) (ht _ mw_472) (fun _ h => h) rfl dR_accept_18 ?_
    refine gx_if_le (a := ((mq_up ρ 0 0 1) 0 0)) (tgt := 26) hx hb dR_accept_21 (by decide) (by rw [mq_up_s]; omega) (fun h21 => ?_) (fun h21 => ?_)
    · exact absurd h21 (by rw [mq_up_s]; omega)
    · refine lv_iconst (v := nI 0) hx hb dR_accept_24 (by decide) ?_
      exact gx_zret hx hb hr rfl hV hS ⟨rfl, rfl⟩ dR_accept_25 hlk
  · exact absurd h6 hm

set_option maxHeartbeats 4000000 in
set_option maxRecDepth 100000 in
theorem k_R_take (l : Launch) {D : va_G} {K : Nat → ClassId} {ad : Nat → Nat} {ρ : Nat → Nat → Nat} {μ : Nat → Int64} {lt : Int64} {m : Nat} (hm : m < 3) {cσ : Nat → Nat → Int32} {cτ : Nat → Nat → Int64} {pl : Nat → Nat → List Nat} (hR : rr_R cσ cτ ρ μ lt pl) (hmv : ρ 0 1 + 16 < 2 ^ 31) : Met l yR_take (Cond.code yR_take prog_7_method_20_code 4 (some .int) :: mx_T) { frames := 3, cells := 0, slots := 0, locals := 67 } (va_Pc [.ref (ad 0), .int (nI m)] (rx_P D K ad (mq_n ρ) (rx_t μ lt))) (rx_Qi D K ad (fun rr u => (pl 5 m = [] → rr = -1 ∧ u = (mq_n (mq_up ρ 0 0 0), rx_t μ lt)) ∧ ∀ x t, pl 5 m = x :: t → rr = nI (x % 8 + 8 * ρ 3 x + (if 640 ≤ ρ 5 x then 32 else 0)) ∧ u = (mq_n (mq_tk (mq_up ρ 0 0 0) x), rx_t μ (μ x)))) 0 0 (gx_A ad 17) := by
  refine gx_met (by decide) rfl (Nat.le_of_ble_eq_true rfl) ?_
  intro pg ev s mid as below mth c ls hx hb hr hml ht hown hlk hnm hargs hB hl
  obtain ⟨hV, hZ⟩ := hB
  have hS : va_S (gx_A ad 17) s.heap s.heap [] := va_S.rf
  have hl : lv_has ls 4 [(0, .ref (ad 0)), (1, .int (nI m))] := hl
  have hR1 : rr_R cσ cτ (mq_up ρ 0 0 0) μ lt pl := hR
  have hV0 := hR1.V (show ρ 0 1 < _ by omega)
  have ok5 : mq_ok 5 m := Or.inl ⟨by simp, hm⟩
  refine lv_aload_n hx hb dR_take_0 rfl (lv_at hl 0 rfl) ?_
  refine lv_iload_n hx hb dR_take_1 rfl (lv_at hl 1 rfl) ?_
  refine lv_iconst (v := nI 3) hx hb dR_take_2 (by decide) ?_
  refine gx_callp (va_runS (As := [.int (nI m), .int (nI 3)]) (rest := [.ref (ad 0)]) ⟨hx, hb, hml, hown, ht⟩ (k_R_in l) (cwS 2 ht (mx_gS mw_543 mw_544 mw_6 mw_545) rfl rfl rfl (by decide +kernel) ⟨Nat.le_of_ble_eq_true rfl, Nat.le_of_ble_eq_true rfl⟩) (gx_preP [.int (nI m), .int (nI 3)]) rfl rfl hl.1 rfl (lv_room (Nat.le_of_ble_eq_true rfl)) dR_take_3 ⟨Nat.le_of_ble_eq_true rfl, Nat.le_of_ble_eq_true rfl⟩) hV hS (fun r1 H locs hp hV hS => ?_)
  subst hp
  refine gx_ifb_eq (q := 0 ≤ nI m ∧ nI m < nI 3) (tgt := 13) hx hb dR_take_6 (by decide) (fun h6 => ?_) (fun h6 => ?_)
  · exact absurd (cx_bl hm (by decide)) h6
  · refine lv_iconst (v := nI 0) hx hb dR_take_9 (by decide) ?_
    refine lv_goto (tgt := 14) hx hb dR_take_10 (by decide) ?_
    refine gx_put rx_loc (C := mR_R) (T := mT_R) (N' := 20) (ty := .int) (v := .int (nI 0)) hx hb ht mh_R mt_R mk_R mn_R hown hV hS (by decide) rx_E_0 rfl 0 (by decide) (ht _ mw_472) (fun _ h => h) rfl (by decide +kernel) rfl rfl (Nat.le_of_ble_eq_true rfl) dR_take_14 (cx_up (mq_n ρ) 0 0 (nI 0)) (rx_t μ lt) (by rw [rx_E_0]; simp [cx_up]) (fun _ h => cx_up_J h) (fun _ _ => rfl) (fun H locs hV hS => ?_)
    rw [rx_up] at hV
    refine lv_aload_n hx hb dR_take_17 rfl (lv_at hl 0 rfl) ?_
    refine gx_get (C := mR_R) (T := mT_R) (N' := 20) (v := .int (nI ((mq_up ρ 0 0 0) 0 0))) hx hb ht mh_R hown hV (by decide) rx_E_0 rfl 0 (by decide) (ht _ mw_472) (fun _ h => h) rfl dR_take_18 ?_
    refine gx_if_le (a := ((mq_up ρ 0 0 0) 0 0)) (tgt := 26) hx hb dR_take_21 (by decide) (by rw [mq_up_s]; omega) (fun h21 => ?_) (fun h21 => ?_)
    · refine lv_aload_n hx hb dR_take_26 rfl (lv_at hl 0 rfl) ?_
      refine lv_iconst (v := nI 5) hx hb dR_take_27 (by decide) ?_
      refine lv_iload_n hx hb dR_take_28 rfl (lv_at hl 1 rfl) ?_
      refine gx_top (y := mq_who m) (mq_who_lo hm).symm ?_
      refine gx_calli (va_runV (As := [.int (nI 5), .int (mq_who m)]) (rest := []) ⟨hx, hb, hml, hown, ht⟩ (k_R_first l (by omega) (by omega) hV0) (cwV 2 ht (mx_gV (C := "MessageCrossbarModel") mw_573 mw_575 ms_20 mw_6 mw_576) rfl rfl rfl (by decide +kernel) ⟨Nat.le_of_ble_eq_true rfl, Nat.le_of_ble_eq_true rfl⟩) (gx_preV rx_ok hV hZ hS (q := (mR_R, mT_R, 20)) (by decide) rx_E_0 rfl [.int (nI 5), .int (mq_who m)]) rfl rfl hl.1 rfl (lv_room (Nat.le_of_ble_eq_true rfl)) dR_take_29 ⟨Nat.le_of_ble_eq_true rfl, Nat.le_of_ble_eq_true rfl⟩) hV hS (fun r2 σ' τ' H locs hp hV hS => ?_)
      obtain ⟨hp, hu⟩ := hp
      rw [hR1.2.1.first ok5] at hp
      cases hu
      rcases mq_nc (pl 5 m) with hh | ⟨x, t, hh⟩
      · rw [hh] at hp
        replace hp : _ = (-1 : Int32) := hp
        subst hp
        refine lv_istore_n (lv' := [(2, .int (-1)), (0, .ref (ad 0)), (1, .int (nI m))]) hx hb dR_take_32 rfl hl (by decide) rfl (fun ls hl => ?_)
        refine lv_iload_n hx hb dR_take_33 rfl (lv_at hl 0 rfl) ?_
        refine lv_if_ge (tgt := 39) hx hb dR_take_34 (by decide) (fun h34 => ?_) (fun h34 => ?_)
        · exact absurd h34 (by decide)
        · refine lv_iconst (v := -1) hx hb dR_take_37 (by decide) ?_
          exact gx_iret hx hb hr hV hS ⟨fun _ => ⟨rfl, rfl⟩, fun x t q => absurd (hh.symm.trans q) (by simp)⟩ dR_take_38 hlk
      · rw [hh] at hp
        replace hp : _ = nI x := hp
        subst hp
        obtain ⟨hx24, hx5, -⟩ := hR1.2.1.mem ok5 (x := x) (by rw [hh]; simp)
        obtain ⟨-, hso3, -, had4, -⟩ := (hV0.1 x hx24).2 (by rw [hx5]; decide)
        replace had4 : ρ 5 x < 1024 := had4
        refine lv_istore_n (lv' := [(2, .int (nI x)), (0, .ref (ad 0)), (1, .int (nI m))]) hx hb dR_take_32 rfl hl (by decide) rfl (fun ls hl => ?_)
        refine lv_iload_n hx hb dR_take_33 rfl (lv_at hl 0 rfl) ?_
        refine lv_if_ge (tgt := 39) hx hb dR_take_34 (by decide) (fun h34 => ?_) (fun h34 => ?_)
        · refine lv_aload_n hx hb dR_take_39 rfl (lv_at hl 1 rfl) ?_
          refine gx_get (C := mR_R) (T := mT_R) (N' := 20) hx hb ht mh_R hown hV (by decide) rx_E_0 rfl 5 (by decide) (ht _ mw_477) (fun _ h => h) rfl dR_take_40 ?_
          refine lv_iload_n hx hb dR_take_43 rfl (lv_at hl 0 rfl) ?_
          refine gx_ialdv (v := nI (ρ 5 x)) hx hb hV (by decide) 0 rx_E_5 rfl x hx24 (by decide) rfl rfl dR_take_44 ?_
          refine lv_sipush (v := nI 640) hx hb dR_take_45 (by decide) ?_
          refine gx_icmp_lt (a := (ρ 5 x)) (b := 640) (tgt := 55) hx hb dR_take_48 (by decide) (by omega) (by omega) (fun h48 => ?_) (fun h48 => ?_)
          · refine lv_iconst (v := nI 0) hx hb dR_take_55 (by decide) ?_
            refine lv_istore_n (lv' := [(3, .int (nI 0)), (2, .int (nI x)), (0, .ref (ad 0)), (1, .int (nI m))]) hx hb dR_take_56 rfl hl (by decide) rfl (fun ls hl => ?_)
            refine lv_aload_n hx hb dR_take_57 rfl (lv_at hl 2 rfl) ?_
            refine gx_get (C := mR_R) (T := mT_R) (N' := 20) hx hb ht mh_R hown hV (by decide) rx_E_0 rfl 1 (by decide) (ht _ mw_473) (fun _ h => h) rfl dR_take_58 ?_
            refine lv_iload_n hx hb dR_take_61 rfl (lv_at hl 1 rfl) ?_
            refine lv_iconst (v := nI 0) hx hb dR_take_62 (by decide) ?_
            refine gx_iast rx_loc hx hb hV hS (by decide) 0 rx_E_1 rfl x hx24 (by decide) rfl dR_take_63 (cx_up (mq_n (mq_up ρ 0 0 0)) 1 x (nI 0)) (by rw [rx_E_1, cx_up_upd]) (fun _ h => cx_up_J h) (fun H locs hV hS => ?_)
            rw [rx_up] at hV
            refine lv_aload_n hx hb dR_take_64 rfl (lv_at hl 2 rfl) ?_
            refine gx_get (C := mR_R) (T := mT_R) (N' := 20) hx hb ht mh_R hown hV (by decide) rx_E_0 rfl 17 (by decide) (ht _ mw_489) (fun _ h => h) rfl dR_take_65 ?_
            refine lv_iconst (v := nI 5) hx hb dR_take_68 (by decide) ?_
            refine lv_dup2_11 hx hb dR_take_69 rfl rfl ?_
            refine gx_ialdv (v := nI (ρ 16 5)) hx hb hV (by decide) 0 rx_E_16 rfl 5 (by decide) (by decide) rfl rfl dR_take_70 ?_
            refine lv_iconst (v := nI 1) hx hb dR_take_71 (by decide) ?_
            refine gx_iadd (a := (ρ 16 5)) (b := 1) hx hb dR_take_72 ?_
            refine gx_iast rx_loc hx hb hV hS (by decide) 0 rx_E_16 rfl 5 (by decide) (by decide) rfl dR_take_73 (cx_up (mq_n (mq_up (mq_up ρ 0 0 0) 1 x 0)) 16 5 (nI ((ρ 16 5) + 1))) (by rw [rx_E_16, cx_up_upd]) (fun _ h => cx_up_J h) (fun H locs hV hS => ?_)
            rw [rx_up] at hV
            refine lv_aload_n hx hb dR_take_74 rfl (lv_at hl 2 rfl) ?_
            refine gx_get (C := mR_R) (T := mT_R) (N' := 20) hx hb ht mh_R hown hV (by decide) rx_E_0 rfl 17 (by decide) (ht _ mw_489) (fun _ h => h) rfl dR_take_75 ?_
            refine lv_bipush (v := nI 6) hx hb dR_take_78 (by decide) ?_
            refine lv_dup2_11 hx hb dR_take_80 rfl rfl ?_
            refine gx_ialdv (v := nI (ρ 16 6)) hx hb hV (by decide) 0 rx_E_16 rfl 6 (by decide) (by decide) rfl rfl dR_take_81 ?_
            refine lv_iload_n hx hb dR_take_82 rfl (lv_at hl 0 rfl) ?_
            refine gx_if_eq (a := 0) (tgt := 90) hx hb dR_take_83 (by decide) (by omega) (fun h83 => ?_) (fun h83 => ?_)
            · refine lv_iconst (v := nI 0) hx hb dR_take_90 (by decide) ?_
              refine gx_iadd (a := (ρ 16 6)) (b := 0) hx hb dR_take_91 ?_
              refine gx_iast rx_loc hx hb hV hS (by decide) 0 rx_E_16 rfl 6 (by decide) (by decide) rfl dR_take_92 (cx_up (mq_n (mq_up (mq_up (mq_up ρ 0 0 0) 1 x 0) 16 5 ((ρ 16 5) + 1))) 16 6 (nI ((ρ 16 6) + 0))) (by rw [rx_E_16, cx_up_upd]) (fun _ h => cx_up_J h) (fun H locs hV hS => ?_)
              rw [rx_up] at hV
              refine lv_aload_n hx hb dR_take_93 rfl (lv_at hl 2 rfl) ?_
              refine lv_aload_n hx hb dR_take_94 rfl (lv_at hl 2 rfl) ?_
              refine gx_get (C := mR_R) (T := mT_R) (N' := 20) hx hb ht mh_R hown hV (by decide) rx_E_0 rfl 6 (by decide) (ht _ mw_478) (fun _ h => h) rfl dR_take_95 ?_
              refine lv_iload_n hx hb dR_take_98 rfl (lv_at hl 1 rfl) ?_
              refine gx_lald hx hb hV (by decide) 3 rx_E_6 rfl x hx24 (by decide) rfl dR_take_99 ?_
              refine gx_topl (y := μ x) rfl ?_
              refine gx_put rx_loc (C := mR_R) (T := mT_R) (N' := 20) (ty := .long) (v := .long (μ x)) hx hb ht mh_R mt_R mk_R mn_R hown hV hS (by decide) rx_E_0 rfl 18 (by decide) (ht _ mw_490) (fun _ h => h) rfl (by decide +kernel) rfl rfl (Nat.le_of_ble_eq_true rfl) dR_take_100 (mq_n (mq_up (mq_up (mq_up (mq_up ρ 0 0 0) 1 x 0) 16 5 ((ρ 16 5) + 1)) 16 6 ((ρ 16 6) + 0))) (gx_upL (rx_t μ lt) 0 0 (μ x)) (by rw [rx_E_0]; simp [gx_upL]) (fun _ _ => rfl) (fun _ h => gx_upL_J h) (fun H locs hV hS => ?_)
              rw [rx_t0] at hV
              refine lv_iload_n hx hb dR_take_103 rfl (lv_at hl 1 rfl) ?_
              refine lv_bipush (v := nI 8) hx hb dR_take_104 (by decide) ?_
              refine gx_irem (a := x) (b := 8) hx hb dR_take_106 (by omega) (by omega) (by omega) ?_
              refine lv_bipush (v := nI 8) hx hb dR_take_107 (by decide) ?_
              refine lv_aload_n hx hb dR_take_109 rfl (lv_at hl 2 rfl) ?_
              refine gx_get (C := mR_R) (T := mT_R) (N' := 20) hx hb ht mh_R hown hV (by decide) rx_E_0 rfl 3 (by decide) (ht _ mw_475) (fun _ h => h) rfl dR_take_110 ?_
              refine lv_iload_n hx hb dR_take_113 rfl (lv_at hl 1 rfl) ?_
              refine gx_ialdv (v := nI (ρ 3 x)) hx hb hV (by decide) 0 rx_E_3 rfl x hx24 (by decide) rfl rfl dR_take_114 ?_
              refine gx_imul (a := 8) (b := (ρ 3 x)) hx hb dR_take_115 ?_
              refine gx_iadd (a := (x % 8)) (b := (8 * (ρ 3 x))) hx hb dR_take_116 ?_
              refine lv_iload_n hx hb dR_take_117 rfl (lv_at hl 0 rfl) ?_
              refine gx_if_eq (a := 0) (tgt := 126) hx hb dR_take_118 (by decide) (by omega) (fun h118 => ?_) (fun h118 => ?_)
              · refine lv_iconst (v := nI 0) hx hb dR_take_126 (by decide) ?_
                refine gx_iadd (a := ((x % 8) + (8 * (ρ 3 x)))) (b := 0) hx hb dR_take_127 ?_
                exact gx_iret hx hb hr hV hS ⟨fun q => absurd (hh.symm.trans q) (by simp), fun x1 t1 q => by have q2 := hh.symm.trans q; cases q2; have e32 : (if 640 ≤ ρ 5 x then 32 else 0) = 0 := if_neg (by omega); have e1 : (if 640 ≤ (mq_up ρ 0 0 0) 5 x then 1 else 0) = 0 := if_neg (show ¬ 640 ≤ ρ 5 x by omega); unfold mq_tk; rw [e32, e1]; exact ⟨rfl, rfl⟩⟩ dR_take_128 hlk
              · exact absurd rfl h118
            · exact absurd rfl h83
          · refine lv_iconst (v := nI 1) hx hb dR_take_51 (by decide) ?_
            refine lv_goto (tgt := 56) hx hb dR_take_52 (by decide) ?_
            refine lv_istore_n (lv' := [(3, .int (nI 1)), (2, .int (nI x)), (0, .ref (ad 0)), (1, .int (nI m))]) hx hb dR_take_56 rfl hl (by decide) rfl (fun ls hl => ?_)
            refine lv_aload_n hx hb dR_take_57 rfl (lv_at hl 2 rfl) ?_
            refine gx_get (C := mR_R) (T := mT_R) (N' := 20) hx hb ht mh_R hown hV (by decide) rx_E_0 rfl 1 (by decide) (ht _ mw_473) (fun _ h => h) rfl dR_take_58 ?_
            refine lv_iload_n hx hb dR_take_61 rfl (lv_at hl 1 rfl) ?_
            refine lv_iconst (v := nI 0) hx hb dR_take_62 (by decide) ?_
            refine gx_iast rx_loc hx hb hV hS (by decide) 0 rx_E_1 rfl x hx24 (by decide) rfl dR_take_63 (cx_up (mq_n (mq_up ρ 0 0 0)) 1 x (nI 0)) (by rw [rx_E_1, cx_up_upd]) (fun _ h => cx_up_J h) (fun H locs hV hS => ?_)
            rw [rx_up] at hV
            refine lv_aload_n hx hb dR_take_64 rfl (lv_at hl 2 rfl) ?_
            refine gx_get (C := mR_R) (T := mT_R) (N' := 20) hx hb ht mh_R hown hV (by decide) rx_E_0 rfl 17 (by decide) (ht _ mw_489) (fun _ h => h) rfl dR_take_65 ?_
            refine lv_iconst (v := nI 5) hx hb dR_take_68 (by decide) ?_
            refine lv_dup2_11 hx hb dR_take_69 rfl rfl ?_
            refine gx_ialdv (v := nI (ρ 16 5)) hx hb hV (by decide) 0 rx_E_16 rfl 5 (by decide) (by decide) rfl rfl dR_take_70 ?_
            refine lv_iconst (v := nI 1) hx hb dR_take_71 (by decide) ?_
            refine gx_iadd (a := (ρ 16 5)) (b := 1) hx hb dR_take_72 ?_
            refine gx_iast rx_loc hx hb hV hS (by decide) 0 rx_E_16 rfl 5 (by decide) (by decide) rfl dR_take_73 (cx_up (mq_n (mq_up (mq_up ρ 0 0 0) 1 x 0)) 16 5 (nI ((ρ 16 5) + 1))) (by rw [rx_E_16, cx_up_upd]) (fun _ h => cx_up_J h) (fun H locs hV hS => ?_)
            rw [rx_up] at hV
            refine lv_aload_n hx hb dR_take_74 rfl (lv_at hl 2 rfl) ?_
            refine gx_get (C := mR_R) (T := mT_R) (N' := 20) hx hb ht mh_R hown hV (by decide) rx_E_0 rfl 17 (by decide) (ht _ mw_489) (fun _ h => h) rfl dR_take_75 ?_
            refine lv_bipush (v := nI 6) hx hb dR_take_78 (by decide) ?_
            refine lv_dup2_11 hx hb dR_take_80 rfl rfl ?_
            refine gx_ialdv (v := nI (ρ 16 6)) hx hb hV (by decide) 0 rx_E_16 rfl 6 (by decide) (by decide) rfl rfl dR_take_81 ?_
            refine lv_iload_n hx hb dR_take_82 rfl (lv_at hl 0 rfl) ?_
            refine gx_if_eq (a := 1) (tgt := 90) hx hb dR_take_83 (by decide) (by omega) (fun h83 => ?_) (fun h83 => ?_)
            · exact absurd h83 (by decide)
            · refine lv_iconst (v := nI 1) hx hb dR_take_86 (by decide) ?_
              refine lv_goto (tgt := 91) hx hb dR_take_87 (by decide) ?_
              refine gx_iadd (a := (ρ 16 6)) (b := 1) hx hb dR_take_91 ?_
              refine gx_iast rx_loc hx hb hV hS (by decide) 0 rx_E_16 rfl 6 (by decide) (by decide) rfl dR_take_92 (cx_up (mq_n (mq_up (mq_up (mq_up ρ 0 0 0) 1 x 0) 16 5 ((ρ 16 5) + 1))) 16 6 (nI ((ρ 16 6) + 1))) (by rw [rx_E_16, cx_up_upd]) (fun _ h => cx_up_J h) (fun H locs hV hS => ?_)
              rw [rx_up] at hV
              refine lv_aload_n hx hb dR_take_93 rfl (lv_at hl 2 rfl) ?_
              refine lv_aload_n hx hb dR_take_94 rfl (lv_at hl 2 rfl) ?_
              refine gx_get (C := mR_R) (T := mT_R) (N' := 20) hx hb ht mh_R hown hV (by decide) rx_E_0 rfl 6 (by decide) (ht _ mw_478) (fun _ h => h) rfl dR_take_95 ?_
              refine lv_iload_n hx hb dR_take_98 rfl (lv_at hl 1 rfl) ?_
              refine gx_lald hx hb hV (by decide) 3 rx_E_6 rfl x hx24 (by decide) rfl dR_take_99 ?_
              refine gx_topl (y := μ x) rfl ?_
              refine gx_put rx_loc (C := mR_R) (T := mT_R) (N' := 20) (ty := .long) (v := .long (μ x)) hx hb ht mh_R mt_R mk_R mn_R hown hV hS (by decide) rx_E_0 rfl 18 (by decide) (ht _ mw_490) (fun _ h => h) rfl (by decide +kernel) rfl rfl (Nat.le_of_ble_eq_true rfl) dR_take_100 (mq_n (mq_up (mq_up (mq_up (mq_up ρ 0 0 0) 1 x 0) 16 5 ((ρ 16 5) + 1)) 16 6 ((ρ 16 6) + 1))) (gx_upL (rx_t μ lt) 0 0 (μ x)) (by rw [rx_E_0]; simp [gx_upL]) (fun _ _ => rfl) (fun _ h => gx_upL_J h) (fun H locs hV hS => ?_)
              rw [rx_t0] at hV
              refine lv_iload_n hx hb dR_take_103 rfl (lv_at hl 1 rfl) ?_
              refine lv_bipush (v := nI 8) hx hb dR_take_104 (by decide) ?_
              refine gx_irem (a := x) (b := 8) hx hb dR_take_106 (by omega) (by omega) (by omega) ?_
              refine lv_bipush (v := nI 8) hx hb dR_take_107 (by decide) ?_
              refine lv_aload_n hx hb dR_take_109 rfl (lv_at hl 2 rfl) ?_
              refine gx_get (C := mR_R) (T := mT_R) (N' := 20) hx hb ht mh_R hown hV (by decide) rx_E_0 rfl 3 (by decide) (ht _ mw_475) (fun _ h => h) rfl dR_take_110 ?_
              refine lv_iload_n hx hb dR_take_113 rfl (lv_at hl 1 rfl) ?_
              refine gx_ialdv (v := nI (ρ 3 x)) hx hb hV (by decide) 0 rx_E_3 rfl x hx24 (by decide) rfl rfl dR_take_114 ?_
              refine gx_imul (a := 8) (b := (ρ 3 x)) hx hb dR_take_115 ?_
              refine gx_iadd (a := (x % 8)) (b := (8 * (ρ 3 x))) hx hb dR_take_116 ?_
              refine lv_iload_n hx hb dR_take_117 rfl (lv_at hl 0 rfl) ?_
              refine gx_if_eq (a := 1) (tgt := 126) hx hb dR_take_118 (by decide) (by omega) (fun h118 => ?_) (fun h118 => ?_)
              · exact absurd h118 (by decide)
              · refine lv_bipush (v := nI 32) hx hb dR_take_121 (by decide) ?_
                refine lv_goto (tgt := 127) hx hb dR_take_123 (by decide) ?_
                refine gx_iadd (a := ((x % 8) + (8 * (ρ 3 x)))) (b := 32) hx hb dR_take_127 ?_
                exact gx_iret hx hb hr hV hS ⟨fun q => absurd (hh.symm.trans q) (by simp), fun x1 t1 q => by have q2 := hh.symm.trans q; cases q2; have e32 : (if 640 ≤ ρ 5 x then 32 else 0) = 32 := if_pos (by omega); have e1 : (if 640 ≤ (mq_up ρ 0 0 0) 5 x then 1 else 0) = 1 := if_pos (show 640 ≤ ρ 5 x by omega); unfold mq_tk; rw [e32, e1]; exact ⟨rfl, rfl⟩⟩ dR_take_128 hlk
        · exact absurd (nI_pos' (by omega)) h34
    · exact absurd h21 (by rw [mq_up_s]; omega)

set_option maxHeartbeats 4000000 in
set_option maxRecDepth 100000 in
theorem k_R_takeB (l : Launch) {D : va_G} {K : Nat → ClassId} {ad : Nat → Nat} {ρ : Nat → Nat → Nat} {μ : Nat → Int64} {lt : Int64} {m : Int32} (hm : ¬ (0 ≤ m ∧ m < nI 3)) : Met l yR_take (Cond.code yR_take prog_7_method_20_code 4 (some .int) :: mx_T) { frames := 3, cells := 0, slots := 0, locals := 67 } (va_Pc [.ref (ad 0), .int m] (rx_P D K ad (mq_n ρ) (rx_t μ lt))) (rx_Qi D K ad (fun rr u => rr = nI 0 ∧ u = (mq_n (mq_up ρ 0 0 1), rx_t μ lt))) 0 0 (gx_A ad 17) := by
  refine gx_met (by decide) rfl (Nat.le_of_ble_eq_true rfl) ?_
  intro pg ev s mid as below mth c ls hx hb hr hml ht hown hlk hnm hargs hB hl
  obtain ⟨hV, hZ⟩ := hB
  have hS : va_S (gx_A ad 17) s.heap s.heap [] := va_S.rf
  have hl : lv_has ls 4 [(0, .ref (ad 0)), (1, .int m)] := hl
  refine lv_aload_n hx hb dR_take_0 rfl (lv_at hl 0 rfl) ?_
  refine lv_iload_n hx hb dR_take_1 rfl (lv_at hl 1 rfl) ?_
  refine lv_iconst (v := nI 3) hx hb dR_take_2 (by decide) ?_
  refine gx_callp (va_runS (As := [.int m, .int (nI 3)]) (rest := [.ref (ad 0)]) ⟨hx, hb, hml, hown, ht⟩ (k_R_in l) (cwS 2 ht (mx_gS mw_543 mw_544 mw_6 mw_545) rfl rfl rfl (by decide +kernel) ⟨Nat.le_of_ble_eq_true rfl, Nat.le_of_ble_eq_true rfl⟩) (gx_preP [.int m, .int (nI 3)]) rfl rfl hl.1 rfl (lv_room (Nat.le_of_ble_eq_true rfl)) dR_take_3 ⟨Nat.le_of_ble_eq_true rfl, Nat.le_of_ble_eq_true rfl⟩) hV hS (fun r1 H locs hp hV hS => ?_)
  subst hp
  refine gx_ifb_eq (q := 0 ≤ m ∧ m < nI 3) (tgt := 13) hx hb dR_take_6 (by decide) (fun h6 => ?_) (fun h6 => ?_)
  · refine lv_iconst (v := nI 1) hx hb dR_take_13 (by decide) ?_
    refine gx_put rx_loc (C := mR_R) (T := mT_R) (N' := 20) (ty := .int) (v := .int (nI 1)) hx hb ht mh_R mt_R mk_R mn_R hown hV hS (by decide) rx_E_0 rfl 0 (by decide) (ht _ mw_472) (fun _ h => h) rfl (by decide +kernel) rfl rfl (Nat.le_of_ble_eq_true rfl) dR_take_14 (cx_up (mq_n ρ) 0 0 (nI 1)) (rx_t μ lt) (by rw [rx_E_0]; simp [cx_up]) (fun _ h => cx_up_J h) (fun _ _ => rfl) (fun H locs hV hS => ?_)
    rw [rx_up] at hV
    refine lv_aload_n hx hb dR_take_17 rfl (lv_at hl 0 rfl) ?_
    refine gx_get (C := mR_R) (T := mT_R) (N' := 20) (v := .int (nI ((mq_up ρ 0 0 1) 0 0))) hx hb ht mh_R hown hV (by decide) rx_E_0 rfl 0 (by decide) (ht _ mw_472) (fun _ h => h) rfl dR_take_18 ?_
    refine gx_if_le (a := ((mq_up ρ 0 0 1) 0 0)) (tgt := 26) hx hb dR_take_21 (by decide) (by rw [mq_up_s]; omega) (fun h21 => ?_) (fun h21 => ?_)
    · exact absurd h21 (by rw [mq_up_s]; omega)
    · refine lv_iconst (v := nI 0) hx hb dR_take_24 (by decide) ?_
      exact gx_iret hx hb hr hV hS ⟨rfl, rfl⟩ dR_take_25 hlk
  · exact absurd h6 hm

set_option maxHeartbeats 4000000 in
set_option maxRecDepth 100000 in
theorem k_R_data (l : Launch) {D : va_G} {K : Nat → ClassId} {ad : Nat → Nat} {ρ : Nat → Nat → Nat} {μ : Nat → Int64} {lt : Int64}  : Met l yR_data (Cond.code yR_data prog_7_method_21_code 1 (some .long) :: mx_T) { frames := 0, cells := 0, slots := 0, locals := 0 } (va_Pc [.ref (ad 0)] (rx_P D K ad (mq_n ρ) (rx_t μ lt))) (rx_Ql D K ad (fun rr u => rr = lt ∧ u = (mq_n (mq_up ρ 0 0 0), rx_t μ lt))) 0 0 (gx_A ad 17) := by
  refine gx_met (by decide) rfl (Nat.le_of_ble_eq_true rfl) ?_
  intro pg ev s mid as below mth c ls hx hb hr hml ht hown hlk hnm hargs hB hl
  obtain ⟨hV, hZ⟩ := hB
  have hS : va_S (gx_A ad 17) s.heap s.heap [] := va_S.rf
  have hl : lv_has ls 1 [(0, .ref (ad 0))] := hl
  refine lv_aload_n hx hb dR_data_0 rfl (lv_at hl 0 rfl) ?_
  refine lv_iconst (v := nI 0) hx hb dR_data_1 (by decide) ?_
  refine gx_put rx_loc (C := mR_R) (T := mT_R) (N' := 20) (ty := .int) (v := .int (nI 0)) hx hb ht mh_R mt_R mk_R mn_R hown hV hS (by decide) rx_E_0 rfl 0 (by decide) (ht _ mw_472) (fun _ h => h) rfl (by decide +kernel) rfl rfl (Nat.le_of_ble_eq_true rfl) dR_data_2 (cx_up (mq_n ρ) 0 0 (nI 0)) (rx_t μ lt) (by rw [rx_E_0]; simp [cx_up]) (fun _ h => cx_up_J h) (fun _ _ => rfl) (fun H locs hV hS => ?_)
  rw [rx_up] at hV
  refine lv_aload_n hx hb dR_data_5 rfl (lv_at hl 0 rfl) ?_
  refine gx_get (C := mR_R) (T := mT_R) (N' := 20) (v := .long lt) hx hb ht mh_R hown hV (by decide) rx_E_0 rfl 18 (by decide) (ht _ mw_490) (fun _ h => h) rfl dR_data_6 ?_
  exact gx_lret hx hb hr hV hS ⟨rfl, rfl⟩ dR_data_9 hlk
