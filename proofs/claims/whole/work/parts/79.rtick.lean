/-! the reference's tick -/
theorem mq_ansN_02 {ρ : Nat → Nat → Nat} (h : ρ 0 2 ≤ 1) : ∀ n, mq_ansN ρ n 0 2 ≤ 1 := by
  intro n
  induction n with
  | zero => exact h
  | succ n ih =>
    show mq_answers (mq_ansN ρ n) n 0 2 ≤ 1
    rcases mq_ans_flag (ρ := mq_ansN ρ n) (m := n) with ⟨-, e⟩ | e
    · rw [e]; exact ih
    · rw [e]; exact Nat.le_refl _
theorem mq_srv_02 {ρ : Nat → Nat → Nat} {μ : Nat → Int64} (h : ρ 0 2 ≤ 1) : ∀ n, (mq_srv ρ μ n).1 0 2 ≤ 1 := by
  intro n
  induction n with
  | zero => exact h
  | succ n ih =>
    show (mq_serve (mq_srv ρ μ n).1 (mq_srv ρ μ n).2 n).1 0 2 ≤ 1
    rcases mq_serve_flag (ρ := (mq_srv ρ μ n).1) (μ := (mq_srv ρ μ n).2) (p := n) with ⟨-, -, e⟩ | ⟨-, -, e⟩ | e
    · rw [e]; exact ih
    · rw [e]; exact ih
    · rw [e]; exact Nat.le_refl _
theorem mq_ftc_02 {ρ : Nat → Nat → Nat} (h : ρ 0 2 ≤ 1) : ∀ n, mq_ftc ρ n 0 2 ≤ 1 := by
  intro n
  induction n with
  | zero => exact h
  | succ n ih =>
    show mq_fetch (mq_ftc ρ n) n 0 2 ≤ 1
    rcases mq_ftc_flag (ρ := mq_ftc ρ n) (p := n) with ⟨-, e⟩ | e
    · rw [e]; exact ih
    · rw [e]; exact Nat.le_refl _

set_option maxHeartbeats 4000000 in
set_option maxRecDepth 100000 in
theorem k_R_tick (l : Launch) {D : va_G} {K : Nat → ClassId} {ad : Nat → Nat} {ρ : Nat → Nat → Nat} {μ : Nat → Int64} {lt : Int64} {n : Nat} (hn : n ≤ 10000) {cσ : Nat → Nat → Int32} {cτ : Nat → Nat → Int64} {pl : Nat → Nat → List Nat} (hR : rr_R cσ cτ ρ μ lt pl) (hmv : ρ 0 1 + 16 * n + 64 < 2 ^ 31) : Met l yR_tick (Cond.code yR_tick prog_7_method_19_code 4 (some .int) :: mx_T) { frames := 4, cells := 0, slots := 0, locals := 92 } (va_Pc [.ref (ad 0), .int (nI n)] (rx_P D K ad (mq_n ρ) (rx_t μ lt))) (rx_Qi D K ad (fun rr u => rr = nI ((mq_tick (mq_up ρ 0 0 0) μ n).1 16 0) ∧ u = (mq_n (mq_tick (mq_up ρ 0 0 0) μ n).1, rx_t (mq_tick (mq_up ρ 0 0 0) μ n).2 lt))) 0 0 (gx_A ad 17) := by
  refine gx_met (by decide) rfl (Nat.le_of_ble_eq_true rfl) ?_
  intro pg ev s mid as below mth c ls hx hb hr hml ht hown hlk hnm hargs hB hl
  obtain ⟨hV, hZ⟩ := hB
  have hS : va_S (gx_A ad 17) s.heap s.heap [] := va_S.rf
  have hl : lv_has ls 4 [(0, .ref (ad 0)), (1, .int (nI n))] := hl
  have hR1 : rr_R cσ cτ (mq_up ρ 0 0 0) μ lt pl := hR
  have hV0 := hR1.V (show ρ 0 1 < _ by omega)
  refine lv_aload_n hx hb dR_tick_0 rfl (lv_at hl 0 rfl) ?_
  refine lv_iload_n hx hb dR_tick_1 rfl (lv_at hl 1 rfl) ?_
  refine lv_if_lt (tgt := 16) hx hb dR_tick_2 (by decide) (fun h2 => ?_) (fun h2 => ?_)
  · exact absurd h2 (nI_pos (by omega))
  · refine lv_iload_n hx hb dR_tick_5 rfl (lv_at hl 1 rfl) ?_
    refine lv_sipush (v := nI 10000) hx hb dR_tick_6 (by decide) ?_
    refine gx_icmp_gt (a := n) (b := 10000) (tgt := 16) hx hb dR_tick_9 (by decide) (by omega) (by omega) (fun h9 => ?_) (fun h9 => ?_)
    · exact absurd h9 (by omega)
    · refine lv_iconst (v := nI 0) hx hb dR_tick_12 (by decide) ?_
      refine lv_goto (tgt := 17) hx hb dR_tick_13 (by decide) ?_
      refine gx_put rx_loc (C := mR_R) (T := mT_R) (N' := 20) (ty := .int) (v := .int (nI 0)) hx hb ht mh_R mt_R mk_R mn_R hown hV hS (by decide) rx_E_0 rfl 0 (by decide) (ht _ mw_472) (fun _ h => h) rfl (by decide +kernel) rfl rfl (Nat.le_of_ble_eq_true rfl) dR_tick_17 (cx_up (mq_n ρ) 0 0 (nI 0)) (rx_t μ lt) (by rw [rx_E_0]; simp [cx_up]) (fun _ h => cx_up_J h) (fun _ _ => rfl) (fun H locs hV hS => ?_)
      rw [rx_up] at hV
      refine lv_aload_n hx hb dR_tick_20 rfl (lv_at hl 0 rfl) ?_
      refine gx_get (C := mR_R) (T := mT_R) (N' := 20) (v := .int (nI ((mq_up ρ 0 0 0) 0 0))) hx hb ht mh_R hown hV (by decide) rx_E_0 rfl 0 (by decide) (ht _ mw_472) (fun _ h => h) rfl dR_tick_21 ?_
      refine gx_if_le (a := ((mq_up ρ 0 0 0) 0 0)) (tgt := 29) hx hb dR_tick_24 (by decide) (by rw [mq_up_s]; omega) (fun h24 => ?_) (fun h24 => ?_)
      · refine lv_iconst (v := nI 0) hx hb dR_tick_29 (by decide) ?_
        refine lv_istore_n (lv' := [(2, .int (nI 0)), (0, .ref (ad 0)), (1, .int (nI n))]) hx hb dR_tick_30 rfl hl (by decide) rfl (fun ls hl => ?_)
        have loop : ∀ (k : Nat) (i : Nat) (H : Heap) (locs : List Loc) (ls : Array Slot), i + k = n → rr_X ((mq_tick (mq_up ρ 0 0 0) μ i).1) ((mq_tick (mq_up ρ 0 0 0) μ i).2) lt → (mq_tick (mq_up ρ 0 0 0) μ i).1 0 1 ≤ ρ 0 1 + 16 * i → gx_V D mx_cl (mx_tys K) (rx_E ad K) ad 17 (mq_n ((mq_tick (mq_up ρ 0 0 0) μ i).1)) (rx_t ((mq_tick (mq_up ρ 0 0 0) μ i).2) lt) s H → va_S (gx_A ad 17) s.heap H locs → lv_has ls 4 [(2, .int (nI i)), (0, .ref (ad 0)), (1, .int (nI n))] → W pg l ev (headSpec (Cond.code yR_tick prog_7_method_19_code 4 (some .int) :: mx_T) { frames := 4, cells := 0, slots := 0, locals := 92 }).room s mid as below mth c H locs 0 0 (MQ below (rx_Qi D K ad (fun rr u => rr = nI ((mq_tick (mq_up ρ 0 0 0) μ n).1 16 0) ∧ u = (mq_n (mq_tick (mq_up ρ 0 0 0) μ n).1, rx_t (mq_tick (mq_up ρ 0 0 0) μ n).2 lt))) as s 0 0 (gx_A ad 17)) (F0 mid 31 ls []) := by
          intro k
          induction k with
          | zero =>
            intro i H locs ls hk hX hm0 hV hS hl
            refine lv_iload_n hx hb dR_tick_31 rfl (lv_at hl 0 rfl) ?_
            refine lv_iload_n hx hb dR_tick_32 rfl (lv_at hl 2 rfl) ?_
            refine gx_icmp_ge (a := i) (b := n) (tgt := 133) hx hb dR_tick_33 (by decide) (by omega) (by omega) (fun h33 => ?_) (fun h33 => ?_)
            · refine lv_aload_n hx hb dR_tick_133 rfl (lv_at hl 1 rfl) ?_
              refine gx_get (C := mR_R) (T := mT_R) (N' := 20) hx hb ht mh_R hown hV (by decide) rx_E_0 rfl 17 (by decide) (ht _ mw_489) (fun _ h => h) rfl dR_tick_134 ?_
              refine lv_iconst (v := nI 0) hx hb dR_tick_137 (by decide) ?_
              refine gx_ialdv (v := nI (((mq_tick (mq_up ρ 0 0 0) μ i).1) 16 0)) hx hb hV (by decide) 0 rx_E_16 rfl 0 (by decide) (by decide) rfl rfl dR_tick_138 ?_
              exact gx_iret hx hb hr hV hS (by have hi : i = n := (by omega); subst hi; exact ⟨rfl, rfl⟩) dR_tick_139 hlk
            · exact absurd h33 (by omega)
          | succ k ih =>
            intro i H locs ls hk hX hm0 hV hS hl
            have key : mq_tick (mq_up ρ 0 0 0) μ (i + 1) = (mq_end (mq_ftc (mq_srv (mq_ansN (mq_up (mq_tick (mq_up ρ 0 0 0) μ i).1 0 2 0) 3) ((mq_tick (mq_up ρ 0 0 0) μ i).2) 4).1 4), (mq_srv (mq_ansN (mq_up (mq_tick (mq_up ρ 0 0 0) μ i).1 0 2 0) 3) ((mq_tick (mq_up ρ 0 0 0) μ i).2) 4).2) := rfl
            have hmv1 : (mq_tick (mq_up ρ 0 0 0) μ (i + 1)).1 0 1 ≤ ρ 0 1 + 16 * (i + 1) := by have h9 := mq_tick1_01 (ρ := (mq_tick (mq_up ρ 0 0 0) μ i).1) (μ := (mq_tick (mq_up ρ 0 0 0) μ i).2); rw [show mq_tick (mq_up ρ 0 0 0) μ (i + 1) = mq_tick1 (mq_tick (mq_up ρ 0 0 0) μ i).1 (mq_tick (mq_up ρ 0 0 0) μ i).2 from rfl]; omega
            generalize mq_tick (mq_up ρ 0 0 0) μ i = B at hX hm0 hV key
            refine lv_iload_n hx hb dR_tick_31 rfl (lv_at hl 0 rfl) ?_
            refine lv_iload_n hx hb dR_tick_32 rfl (lv_at hl 2 rfl) ?_
            refine gx_icmp_ge (a := i) (b := n) (tgt := 133) hx hb dR_tick_33 (by decide) (by omega) (by omega) (fun h33 => ?_) (fun h33 => ?_)
            · exact absurd h33 (by omega)
            · refine lv_aload_n hx hb dR_tick_36 rfl (lv_at hl 1 rfl) ?_
              refine lv_iconst (v := nI 0) hx hb dR_tick_37 (by decide) ?_
              refine gx_put rx_loc (C := mR_R) (T := mT_R) (N' := 20) (ty := .boolean) (v := .int (nI 0)) hx hb ht mh_R mt_R mk_R mn_R hown hV hS (by decide) rx_E_0 rfl 19 (by decide) (ht _ mw_491) (fun _ h => h) rfl (by decide +kernel) rfl rfl (Nat.le_of_ble_eq_true rfl) dR_tick_38 (cx_up (mq_n B.1) 0 2 (nI 0)) (rx_t B.2 lt) (by rw [rx_E_0]; simp [cx_up]) (fun _ h => cx_up_J h) (fun _ _ => rfl) (fun H locs hV hS => ?_)
              rw [rx_up] at hV
              refine lv_iconst (v := nI 0) hx hb dR_tick_41 (by decide) ?_
              refine lv_istore_n (lv' := [(3, .int (nI 0)), (2, .int (nI i)), (0, .ref (ad 0)), (1, .int (nI n))]) hx hb dR_tick_42 rfl hl (by decide) rfl (fun ls hl => ?_)
              have loop : ∀ (k : Nat) (q : Nat) (H : Heap) (locs : List Loc) (ls : Array Slot), q + k = 3 → rr_X (mq_ansN (mq_up B.1 0 2 0) q) (B.2) lt → mq_ansN (mq_up B.1 0 2 0) q 0 1 ≤ B.1 0 1 + q → gx_V D mx_cl (mx_tys K) (rx_E ad K) ad 17 (mq_n (mq_ansN (mq_up B.1 0 2 0) q)) (rx_t (B.2) lt) s H → va_S (gx_A ad 17) s.heap H locs → lv_has ls 4 [(3, .int (nI q)), (0, .ref (ad 0)), (1, .int (nI n)), (2, .int (nI i))] → W pg l ev (headSpec (Cond.code yR_tick prog_7_method_19_code 4 (some .int) :: mx_T) { frames := 4, cells := 0, slots := 0, locals := 92 }).room s mid as below mth c H locs 0 0 (MQ below (rx_Qi D K ad (fun rr u => rr = nI ((mq_tick (mq_up ρ 0 0 0) μ n).1 16 0) ∧ u = (mq_n (mq_tick (mq_up ρ 0 0 0) μ n).1, rx_t (mq_tick (mq_up ρ 0 0 0) μ n).2 lt))) as s 0 0 (gx_A ad 17)) (F0 mid 43 ls []) := by
                intro k
                induction k with
                | zero =>
                  intro q H locs ls hk1 hX1 hm1 hV hS hl
                  have hq1 : q = 3 := by omega
                  refine lv_iload_n hx hb dR_tick_43 rfl (lv_at hl 0 rfl) ?_
                  refine lv_iconst (v := nI 3) hx hb dR_tick_44 (by decide) ?_
                  refine gx_icmp_ge (a := q) (b := 3) (tgt := 59) hx hb dR_tick_45 (by decide) (by omega) (by omega) (fun h45 => ?_) (fun h45 => ?_)
                  · refine lv_iconst (v := nI 0) hx hb dR_tick_59 (by decide) ?_
                    refine lv_istore_n (lv' := [(3, .int (nI 0)), (0, .ref (ad 0)), (1, .int (nI n)), (2, .int (nI i))]) hx hb dR_tick_60 rfl hl (by decide) rfl (fun ls hl => ?_)
                    have loop : ∀ (k : Nat) (q : Nat) (H : Heap) (locs : List Loc) (ls : Array Slot), q + k = 4 → rr_X (mq_srv (mq_ansN (mq_up B.1 0 2 0) 3) (B.2) q).1 (mq_srv (mq_ansN (mq_up B.1 0 2 0) 3) (B.2) q).2 lt → (mq_srv (mq_ansN (mq_up B.1 0 2 0) 3) (B.2) q).1 0 1 ≤ B.1 0 1 + 3 + 2 * q → gx_V D mx_cl (mx_tys K) (rx_E ad K) ad 17 (mq_n (mq_srv (mq_ansN (mq_up B.1 0 2 0) 3) (B.2) q).1) (rx_t (mq_srv (mq_ansN (mq_up B.1 0 2 0) 3) (B.2) q).2 lt) s H → va_S (gx_A ad 17) s.heap H locs → lv_has ls 4 [(3, .int (nI q)), (0, .ref (ad 0)), (1, .int (nI n)), (2, .int (nI i))] → W pg l ev (headSpec (Cond.code yR_tick prog_7_method_19_code 4 (some .int) :: mx_T) { frames := 4, cells := 0, slots := 0, locals := 92 }).room s mid as below mth c H locs 0 0 (MQ below (rx_Qi D K ad (fun rr u => rr = nI ((mq_tick (mq_up ρ 0 0 0) μ n).1 16 0) ∧ u = (mq_n (mq_tick (mq_up ρ 0 0 0) μ n).1, rx_t (mq_tick (mq_up ρ 0 0 0) μ n).2 lt))) as s 0 0 (gx_A ad 17)) (F0 mid 61 ls []) := by
                      intro k
                      induction k with
                      | zero =>
                        intro q H locs ls hk2 hX2 hm2 hV hS hl
                        have hq2 : q = 4 := by omega
                        refine lv_iload_n hx hb dR_tick_61 rfl (lv_at hl 0 rfl) ?_
                        refine lv_iconst (v := nI 4) hx hb dR_tick_62 (by decide) ?_
                        refine gx_icmp_ge (a := q) (b := 4) (tgt := 77) hx hb dR_tick_63 (by decide) (by omega) (by omega) (fun h63 => ?_) (fun h63 => ?_)
                        · refine lv_iconst (v := nI 0) hx hb dR_tick_77 (by decide) ?_
                          refine lv_istore_n (lv' := [(3, .int (nI 0)), (0, .ref (ad 0)), (1, .int (nI n)), (2, .int (nI i))]) hx hb dR_tick_78 rfl hl (by decide) rfl (fun ls hl => ?_)
                          have loop : ∀ (k : Nat) (q : Nat) (H : Heap) (locs : List Loc) (ls : Array Slot), q + k = 4 → rr_X (mq_ftc (mq_srv (mq_ansN (mq_up B.1 0 2 0) 3) (B.2) 4).1 q) (mq_srv (mq_ansN (mq_up B.1 0 2 0) 3) (B.2) 4).2 lt → mq_ftc (mq_srv (mq_ansN (mq_up B.1 0 2 0) 3) (B.2) 4).1 q 0 1 ≤ B.1 0 1 + 11 + q → gx_V D mx_cl (mx_tys K) (rx_E ad K) ad 17 (mq_n (mq_ftc (mq_srv (mq_ansN (mq_up B.1 0 2 0) 3) (B.2) 4).1 q)) (rx_t (mq_srv (mq_ansN (mq_up B.1 0 2 0) 3) (B.2) 4).2 lt) s H → va_S (gx_A ad 17) s.heap H locs → lv_has ls 4 [(3, .int (nI q)), (0, .ref (ad 0)), (1, .int (nI n)), (2, .int (nI i))] → W pg l ev (headSpec (Cond.code yR_tick prog_7_method_19_code 4 (some .int) :: mx_T) { frames := 4, cells := 0, slots := 0, locals := 92 }).room s mid as below mth c H locs 0 0 (MQ below (rx_Qi D K ad (fun rr u => rr = nI ((mq_tick (mq_up ρ 0 0 0) μ n).1 16 0) ∧ u = (mq_n (mq_tick (mq_up ρ 0 0 0) μ n).1, rx_t (mq_tick (mq_up ρ 0 0 0) μ n).2 lt))) as s 0 0 (gx_A ad 17)) (F0 mid 79 ls []) := by
                            intro k
                            induction k with
                            | zero =>
                              intro q H locs ls hk3 hX3 hm3 hV hS hl
                              refine lv_iload_n hx hb dR_tick_79 rfl (lv_at hl 0 rfl) ?_
                              refine lv_iconst (v := nI 4) hx hb dR_tick_80 (by decide) ?_
                              refine gx_icmp_ge (a := q) (b := 4) (tgt := 95) hx hb dR_tick_81 (by decide) (by omega) (by omega) (fun h81 => ?_) (fun h81 => ?_)
                              · have hq4 : q = 4 := by omega
                                subst hq4
                                refine lv_aload_n hx hb dR_tick_95 rfl (lv_at hl 1 rfl) ?_
                                refine gx_get (C := mR_R) (T := mT_R) (N' := 20) hx hb ht mh_R hown hV (by decide) rx_E_0 rfl 17 (by decide) (ht _ mw_489) (fun _ h => h) rfl dR_tick_96 ?_
                                refine lv_iconst (v := nI 0) hx hb dR_tick_99 (by decide) ?_
                                refine lv_dup2_11 hx hb dR_tick_100 rfl rfl ?_
                                refine gx_ialdv (v := nI ((mq_ftc (mq_srv (mq_ansN (mq_up B.1 0 2 0) 3) (B.2) 4).1 4) 16 0)) hx hb hV (by decide) 0 rx_E_16 rfl 0 (by decide) (by decide) rfl rfl dR_tick_101 ?_
                                refine lv_iconst (v := nI 1) hx hb dR_tick_102 (by decide) ?_
                                refine gx_iadd (a := ((mq_ftc (mq_srv (mq_ansN (mq_up B.1 0 2 0) 3) (B.2) 4).1 4) 16 0)) (b := 1) hx hb dR_tick_103 ?_
                                refine gx_iast rx_loc hx hb hV hS (by decide) 0 rx_E_16 rfl 0 (by decide) (by decide) rfl dR_tick_104 (cx_up (mq_n (mq_ftc (mq_srv (mq_ansN (mq_up B.1 0 2 0) 3) (B.2) 4).1 4)) 16 0 (nI (((mq_ftc (mq_srv (mq_ansN (mq_up B.1 0 2 0) 3) (B.2) 4).1 4) 16 0) + 1))) (by rw [rx_E_16, cx_up_upd]) (fun _ h => cx_up_J h) (fun H locs hV hS => ?_)
                                rw [rx_up] at hV
                                refine lv_aload_n hx hb dR_tick_105 rfl (lv_at hl 1 rfl) ?_
                                refine gx_get (C := mR_R) (T := mT_R) (N' := 20) hx hb ht mh_R hown hV (by decide) rx_E_0 rfl 17 (by decide) (ht _ mw_489) (fun _ h => h) rfl dR_tick_106 ?_
                                refine lv_bipush (v := nI 7) hx hb dR_tick_109 (by decide) ?_
                                refine lv_dup2_11 hx hb dR_tick_111 rfl rfl ?_
                                refine gx_ialdv (v := nI ((mq_ftc (mq_srv (mq_ansN (mq_up B.1 0 2 0) 3) (B.2) 4).1 4) 16 7)) hx hb hV (by decide) 0 rx_E_16 rfl 7 (by decide) (by decide) rfl (congrArg nI (mq_up_k (by omega))) dR_tick_112 ?_
                                refine lv_aload_n hx hb dR_tick_113 rfl (lv_at hl 1 rfl) ?_
                                refine gx_get (C := mR_R) (T := mT_R) (N' := 20) (v := .int (nI ((mq_up (mq_ftc (mq_srv (mq_ansN (mq_up B.1 0 2 0) 3) (B.2) 4).1 4) 16 0 (((mq_ftc (mq_srv (mq_ansN (mq_up B.1 0 2 0) 3) (B.2) 4).1 4) 16 0) + 1)) 0 2))) hx hb ht mh_R hown hV (by decide) rx_E_0 rfl 19 (by decide) (ht _ mw_491) (fun _ h => h) rfl dR_tick_114 ?_
                                refine gx_if_eq (a := ((mq_up (mq_ftc (mq_srv (mq_ansN (mq_up B.1 0 2 0) 3) (B.2) 4).1 4) 16 0 (((mq_ftc (mq_srv (mq_ansN (mq_up B.1 0 2 0) 3) (B.2) 4).1 4) 16 0) + 1)) 0 2)) (tgt := 124) hx hb dR_tick_117 (by decide) (by rw [mq_up_j (by omega)]; have := mq_ftc_02 (mq_srv_02 (mq_ansN_02 (show (mq_up B.1 0 2 0) 0 2 ≤ 1 by rw [mq_up_s]; omega) 3) 4 (μ := B.2)) 4; omega) (fun h117 => ?_) (fun h117 => ?_)
                                · refine lv_iconst (v := nI 1) hx hb dR_tick_124 (by decide) ?_
                                  refine gx_iadd (a := ((mq_ftc (mq_srv (mq_ansN (mq_up B.1 0 2 0) 3) (B.2) 4).1 4) 16 7)) (b := 1) hx hb dR_tick_125 ?_
                                  refine gx_iast rx_loc hx hb hV hS (by decide) 0 rx_E_16 rfl 7 (by decide) (by decide) rfl dR_tick_126 (cx_up (mq_n (mq_up (mq_ftc (mq_srv (mq_ansN (mq_up B.1 0 2 0) 3) (B.2) 4).1 4) 16 0 (((mq_ftc (mq_srv (mq_ansN (mq_up B.1 0 2 0) 3) (B.2) 4).1 4) 16 0) + 1))) 16 7 (nI (((mq_ftc (mq_srv (mq_ansN (mq_up B.1 0 2 0) 3) (B.2) 4).1 4) 16 7) + 1))) (by rw [rx_E_16, cx_up_upd]) (fun _ h => cx_up_J h) (fun H locs hV hS => ?_)
                                  rw [rx_up] at hV
                                  refine lv_iinc (k := 3) (v := (nI (i + 1))) (lv' := [(2, .int (nI (i + 1))), (3, .int (nI 4)), (0, .ref (ad 0)), (1, .int (nI n))]) hx hb dR_tick_127 hl rfl (nI_succ i).symm (by decide) rfl (fun ls hl => ?_)
                                  refine lv_goto (tgt := 31) hx hb dR_tick_130 (by decide) ?_
                                  exact ih (i + 1) H locs ls (by omega) (by rw [key]; exact hX3.fin) hmv1 (by rw [key]; show gx_V _ _ _ _ _ _ (mq_n (mq_end (mq_ftc (mq_srv (mq_ansN (mq_up B.1 0 2 0) 3) (B.2) 4).1 4))) (rx_t (mq_srv (mq_ansN (mq_up B.1 0 2 0) 3) (B.2) 4).2 lt) _ _; have h9 : (mq_ftc (mq_srv (mq_ansN (mq_up B.1 0 2 0) 3) (B.2) 4).1 4) 0 2 = 0 := (by rw [mq_up_j (by omega)] at h117; exact h117); unfold mq_end; rw [if_pos h9]; exact hV) hS (lv_sub hl [0, 2, 3] rfl)
                                · refine lv_iconst (v := nI 0) hx hb dR_tick_120 (by decide) ?_
                                  refine lv_goto (tgt := 125) hx hb dR_tick_121 (by decide) ?_
                                  refine gx_iadd (a := ((mq_ftc (mq_srv (mq_ansN (mq_up B.1 0 2 0) 3) (B.2) 4).1 4) 16 7)) (b := 0) hx hb dR_tick_125 ?_
                                  refine gx_iast rx_loc hx hb hV hS (by decide) 0 rx_E_16 rfl 7 (by decide) (by decide) rfl dR_tick_126 (cx_up (mq_n (mq_up (mq_ftc (mq_srv (mq_ansN (mq_up B.1 0 2 0) 3) (B.2) 4).1 4) 16 0 (((mq_ftc (mq_srv (mq_ansN (mq_up B.1 0 2 0) 3) (B.2) 4).1 4) 16 0) + 1))) 16 7 (nI (((mq_ftc (mq_srv (mq_ansN (mq_up B.1 0 2 0) 3) (B.2) 4).1 4) 16 7) + 0))) (by rw [rx_E_16, cx_up_upd]) (fun _ h => cx_up_J h) (fun H locs hV hS => ?_)
                                  rw [rx_up] at hV
                                  refine lv_iinc (k := 3) (v := (nI (i + 1))) (lv' := [(2, .int (nI (i + 1))), (3, .int (nI 4)), (0, .ref (ad 0)), (1, .int (nI n))]) hx hb dR_tick_127 hl rfl (nI_succ i).symm (by decide) rfl (fun ls hl => ?_)
                                  refine lv_goto (tgt := 31) hx hb dR_tick_130 (by decide) ?_
                                  exact ih (i + 1) H locs ls (by omega) (by rw [key]; exact hX3.fin) hmv1 (by rw [key]; show gx_V _ _ _ _ _ _ (mq_n (mq_end (mq_ftc (mq_srv (mq_ansN (mq_up B.1 0 2 0) 3) (B.2) 4).1 4))) (rx_t (mq_srv (mq_ansN (mq_up B.1 0 2 0) 3) (B.2) 4).2 lt) _ _; have h9 : (mq_ftc (mq_srv (mq_ansN (mq_up B.1 0 2 0) 3) (B.2) 4).1 4) 0 2 ≠ 0 := (by rw [mq_up_j (by omega)] at h117; exact h117); unfold mq_end; rw [if_neg h9]; exact hV) hS (lv_sub hl [0, 2, 3] rfl)
                              · exact absurd h81 (by omega)
                            | succ k ih =>
                              intro q H locs ls hk3 hX3 hm3 hV hS hl
                              have hXq := hX3
                              obtain ⟨_, _, _, hR⟩ := hX3
                              refine lv_iload_n hx hb dR_tick_79 rfl (lv_at hl 0 rfl) ?_
                              refine lv_iconst (v := nI 4) hx hb dR_tick_80 (by decide) ?_
                              refine gx_icmp_ge (a := q) (b := 4) (tgt := 95) hx hb dR_tick_81 (by decide) (by omega) (by omega) (fun h81 => ?_) (fun h81 => ?_)
                              · exact absurd h81 (by omega)
                              · refine lv_aload_n hx hb dR_tick_84 rfl (lv_at hl 1 rfl) ?_
                                refine lv_iload_n hx hb dR_tick_85 rfl (lv_at hl 0 rfl) ?_
                                refine gx_callv (va_runV (As := [.int (nI q)]) (rest := []) ⟨hx, hb, hml, hown, ht⟩ (k_R_fetch l (p := q) (by omega) hR (by omega)) (cwV 1 ht (mx_gV (C := "MessageCrossbarModel") mw_592 mw_594 ms_23 mw_6 mw_595) rfl rfl rfl (by decide +kernel) ⟨Nat.le_of_ble_eq_true rfl, Nat.le_of_ble_eq_true rfl⟩) (gx_preV rx_ok hV hZ hS (q := (mR_R, mT_R, 20)) (by decide) rx_E_0 rfl [.int (nI q)]) rfl rfl hl.1 rfl (lv_room (Nat.le_of_ble_eq_true rfl)) dR_tick_86 ⟨Nat.le_of_ble_eq_true rfl, Nat.le_of_ble_eq_true rfl⟩) hV hS (fun σ' τ' H locs hp hV hS => ?_)
                                cases hp
                                refine lv_iinc (k := 0) (v := (nI (q + 1))) (lv' := [(3, .int (nI (q + 1))), (0, .ref (ad 0)), (1, .int (nI n)), (2, .int (nI i))]) hx hb dR_tick_89 hl rfl (nI_succ q).symm (by decide) rfl (fun ls hl => ?_)
                                refine lv_goto (tgt := 79) hx hb dR_tick_92 (by decide) ?_
                                exact ih (q + 1) H locs ls (by omega) (hXq.fetch (by omega)) (by have := mq_fetch_01 (ρ := mq_ftc (mq_srv (mq_ansN (mq_up B.1 0 2 0) 3) (B.2) 4).1 q) (p := q); show mq_fetch _ q 0 1 ≤ _; omega) hV hS (lv_sub hl [0, 1, 2, 3] rfl)
                          exact loop 4 0 H locs ls (by omega) (by rw [hq2] at hX2; exact hX2) (by rw [hq2] at hm2; exact hm2) (by rw [hq2] at hV; exact hV) hS (lv_sub hl [0, 1, 2, 3] rfl)
                        · exact absurd h63 (by omega)
                      | succ k ih =>
                        intro q H locs ls hk2 hX2 hm2 hV hS hl
                        have hXq := hX2
                        obtain ⟨_, _, _, hR⟩ := hX2
                        refine lv_iload_n hx hb dR_tick_61 rfl (lv_at hl 0 rfl) ?_
                        refine lv_iconst (v := nI 4) hx hb dR_tick_62 (by decide) ?_
                        refine gx_icmp_ge (a := q) (b := 4) (tgt := 77) hx hb dR_tick_63 (by decide) (by omega) (by omega) (fun h63 => ?_) (fun h63 => ?_)
                        · exact absurd h63 (by omega)
                        · refine lv_aload_n hx hb dR_tick_66 rfl (lv_at hl 1 rfl) ?_
                          refine lv_iload_n hx hb dR_tick_67 rfl (lv_at hl 0 rfl) ?_
                          refine gx_callv (va_runV (As := [.int (nI q)]) (rest := []) ⟨hx, hb, hml, hown, ht⟩ (k_R_serve l (p := q) (by omega) hR (by omega)) (cwV 1 ht (mx_gV (C := "MessageCrossbarModel") mw_577 mw_579 ms_21 mw_6 mw_580) rfl rfl rfl (by decide +kernel) ⟨Nat.le_of_ble_eq_true rfl, Nat.le_of_ble_eq_true rfl⟩) (gx_preV rx_ok hV hZ hS (q := (mR_R, mT_R, 20)) (by decide) rx_E_0 rfl [.int (nI q)]) rfl rfl hl.1 rfl (lv_room (Nat.le_of_ble_eq_true rfl)) dR_tick_68 ⟨Nat.le_of_ble_eq_true rfl, Nat.le_of_ble_eq_true rfl⟩) hV hS (fun σ' τ' H locs hp hV hS => ?_)
                          cases hp
                          refine lv_iinc (k := 0) (v := (nI (q + 1))) (lv' := [(3, .int (nI (q + 1))), (0, .ref (ad 0)), (1, .int (nI n)), (2, .int (nI i))]) hx hb dR_tick_71 hl rfl (nI_succ q).symm (by decide) rfl (fun ls hl => ?_)
                          refine lv_goto (tgt := 61) hx hb dR_tick_74 (by decide) ?_
                          exact ih (q + 1) H locs ls (by omega) (hXq.serve (by omega)) (by have := mq_serve_01 (ρ := (mq_srv (mq_ansN (mq_up B.1 0 2 0) 3) (B.2) q).1) (μ := (mq_srv (mq_ansN (mq_up B.1 0 2 0) 3) (B.2) q).2) (p := q); show (mq_serve _ _ q).1 0 1 ≤ _; omega) hV hS (lv_sub hl [0, 1, 2, 3] rfl)
                    exact loop 4 0 H locs ls (by omega) (by rw [hq1] at hX1; exact hX1) (by rw [hq1] at hm1; exact hm1) (by rw [hq1] at hV; exact hV) hS (lv_sub hl [0, 1, 2, 3] rfl)
                  · exact absurd h45 (by omega)
                | succ k ih =>
                  intro q H locs ls hk1 hX1 hm1 hV hS hl
                  have hXq := hX1
                  obtain ⟨_, _, _, hR⟩ := hX1
                  refine lv_iload_n hx hb dR_tick_43 rfl (lv_at hl 0 rfl) ?_
                  refine lv_iconst (v := nI 3) hx hb dR_tick_44 (by decide) ?_
                  refine gx_icmp_ge (a := q) (b := 3) (tgt := 59) hx hb dR_tick_45 (by decide) (by omega) (by omega) (fun h45 => ?_) (fun h45 => ?_)
                  · exact absurd h45 (by omega)
                  · refine lv_aload_n hx hb dR_tick_48 rfl (lv_at hl 1 rfl) ?_
                    refine lv_iload_n hx hb dR_tick_49 rfl (lv_at hl 0 rfl) ?_
                    refine gx_callv (va_runV (As := [.int (nI q)]) (rest := []) ⟨hx, hb, hml, hown, ht⟩ (k_R_answers l (m := q) (by omega) hR (by omega)) (cwV 1 ht (mx_gV (C := "MessageCrossbarModel") mw_569 mw_571 ms_19 mw_6 mw_572) rfl rfl rfl (by decide +kernel) ⟨Nat.le_of_ble_eq_true rfl, Nat.le_of_ble_eq_true rfl⟩) (gx_preV rx_ok hV hZ hS (q := (mR_R, mT_R, 20)) (by decide) rx_E_0 rfl [.int (nI q)]) rfl rfl hl.1 rfl (lv_room (Nat.le_of_ble_eq_true rfl)) dR_tick_50 ⟨Nat.le_of_ble_eq_true rfl, Nat.le_of_ble_eq_true rfl⟩) hV hS (fun σ' τ' H locs hp hV hS => ?_)
                    cases hp
                    refine lv_iinc (k := 0) (v := (nI (q + 1))) (lv' := [(3, .int (nI (q + 1))), (0, .ref (ad 0)), (1, .int (nI n)), (2, .int (nI i))]) hx hb dR_tick_53 hl rfl (nI_succ q).symm (by decide) rfl (fun ls hl => ?_)
                    refine lv_goto (tgt := 43) hx hb dR_tick_56 (by decide) ?_
                    exact ih (q + 1) H locs ls (by omega) (hXq.ans (by omega)) (by have := mq_ans_01 (ρ := mq_ansN (mq_up B.1 0 2 0) q) (m := q); show mq_answers _ q 0 1 ≤ _; omega) hV hS (lv_sub hl [0, 1, 2, 3] rfl)
              exact loop 3 0 H locs ls (by omega) (hX.flag 0) (Nat.le_refl _) hV hS (lv_sub hl [0, 2, 3, 1] rfl)
        exact loop n 0 H locs ls (by omega) ⟨_, _, _, hR1⟩ (Nat.le_refl _) hV hS (lv_sub hl [0, 1, 2] rfl)
      · exact absurd h24 (by rw [mq_up_s]; omega)

set_option maxHeartbeats 4000000 in
set_option maxRecDepth 100000 in
theorem k_R_tickB (l : Launch) {D : va_G} {K : Nat → ClassId} {ad : Nat → Nat} {ρ : Nat → Nat → Nat} {μ : Nat → Int64} {lt : Int64} {n : Int32} (hn : ¬ (0 ≤ n ∧ n ≤ nI 10000)) : Met l yR_tick (Cond.code yR_tick prog_7_method_19_code 4 (some .int) :: mx_T) { frames := 4, cells := 0, slots := 0, locals := 92 } (va_Pc [.ref (ad 0), .int n] (rx_P D K ad (mq_n ρ) (rx_t μ lt))) (rx_Qi D K ad (fun rr u => rr = nI 0 ∧ u = (mq_n (mq_up ρ 0 0 1), rx_t μ lt))) 0 0 (gx_A ad 17) := by
  refine gx_met (by decide) rfl (Nat.le_of_ble_eq_true rfl) ?_
  intro pg ev s mid as below mth c ls hx hb hr hml ht hown hlk hnm hargs hB hl
  obtain ⟨hV, hZ⟩ := hB
  have hS : va_S (gx_A ad 17) s.heap s.heap [] := va_S.rf
  have hl : lv_has ls 4 [(0, .ref (ad 0)), (1, .int n)] := hl
  refine lv_aload_n hx hb dR_tick_0 rfl (lv_at hl 0 rfl) ?_
  refine lv_iload_n hx hb dR_tick_1 rfl (lv_at hl 1 rfl) ?_
  refine lv_if_lt (tgt := 16) hx hb dR_tick_2 (by decide) (fun h2 => ?_) (fun h2 => ?_)
  · refine lv_iconst (v := nI 1) hx hb dR_tick_16 (by decide) ?_
    refine gx_put rx_loc (C := mR_R) (T := mT_R) (N' := 20) (ty := .int) (v := .int (nI 1)) hx hb ht mh_R mt_R mk_R mn_R hown hV hS (by decide) rx_E_0 rfl 0 (by decide) (ht _ mw_472) (fun _ h => h) rfl (by decide +kernel) rfl rfl (Nat.le_of_ble_eq_true rfl) dR_tick_17 (cx_up (mq_n ρ) 0 0 (nI 1)) (rx_t μ lt) (by rw [rx_E_0]; simp [cx_up]) (fun _ h => cx_up_J h) (fun _ _ => rfl) (fun H locs hV hS => ?_)
    rw [rx_up] at hV
    refine lv_aload_n hx hb dR_tick_20 rfl (lv_at hl 0 rfl) ?_
    refine gx_get (C := mR_R) (T := mT_R) (N' := 20) (v := .int (nI ((mq_up ρ 0 0 1) 0 0))) hx hb ht mh_R hown hV (by decide) rx_E_0 rfl 0 (by decide) (ht _ mw_472) (fun _ h => h) rfl dR_tick_21 ?_
    refine gx_if_le (a := ((mq_up ρ 0 0 1) 0 0)) (tgt := 29) hx hb dR_tick_24 (by decide) (by rw [mq_up_s]; omega) (fun h24 => ?_) (fun h24 => ?_)
    · exact absurd h24 (by rw [mq_up_s]; omega)
    · refine lv_iconst (v := nI 0) hx hb dR_tick_27 (by decide) ?_
      exact gx_iret hx hb hr hV hS ⟨rfl, rfl⟩ dR_tick_28 hlk
  · refine lv_iload_n hx hb dR_tick_5 rfl (lv_at hl 1 rfl) ?_
    refine lv_sipush (v := nI 10000) hx hb dR_tick_6 (by decide) ?_
    refine lv_icmp_gt (tgt := 16) hx hb dR_tick_9 (by decide) (fun h9 => ?_) (fun h9 => ?_)
    · refine lv_iconst (v := nI 1) hx hb dR_tick_16 (by decide) ?_
      refine gx_put rx_loc (C := mR_R) (T := mT_R) (N' := 20) (ty := .int) (v := .int (nI 1)) hx hb ht mh_R mt_R mk_R mn_R hown hV hS (by decide) rx_E_0 rfl 0 (by decide) (ht _ mw_472) (fun _ h => h) rfl (by decide +kernel) rfl rfl (Nat.le_of_ble_eq_true rfl) dR_tick_17 (cx_up (mq_n ρ) 0 0 (nI 1)) (rx_t μ lt) (by rw [rx_E_0]; simp [cx_up]) (fun _ h => cx_up_J h) (fun _ _ => rfl) (fun H locs hV hS => ?_)
      rw [rx_up] at hV
      refine lv_aload_n hx hb dR_tick_20 rfl (lv_at hl 0 rfl) ?_
      refine gx_get (C := mR_R) (T := mT_R) (N' := 20) (v := .int (nI ((mq_up ρ 0 0 1) 0 0))) hx hb ht mh_R hown hV (by decide) rx_E_0 rfl 0 (by decide) (ht _ mw_472) (fun _ h => h) rfl dR_tick_21 ?_
      refine gx_if_le (a := ((mq_up ρ 0 0 1) 0 0)) (tgt := 29) hx hb dR_tick_24 (by decide) (by rw [mq_up_s]; omega) (fun h24 => ?_) (fun h24 => ?_)
      · exact absurd h24 (by rw [mq_up_s]; omega)
      · refine lv_iconst (v := nI 0) hx hb dR_tick_27 (by decide) ?_
        exact gx_iret hx hb hr hV hS ⟨rfl, rfl⟩ dR_tick_28 hlk
    · exact absurd ⟨Int32.not_lt.mp h2, Int32.not_lt.mp h9⟩ hn
