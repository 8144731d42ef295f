/-! the crossbar's calls, with arguments that it takes -/
theorem cx_bl {a n : Nat} (h : a < n) (hn : n < 2 ^ 31) : 0 ≤ nI a ∧ nI a < nI n := ⟨nI_pos' (by omega), nI_lt h hn⟩
theorem cx_shl3 {m : Nat} (hm : m < 3) : nI m <<< (nI 3 &&& 31) = nI (m * 2 ^ 3) := pk_shlN (nI 3 &&& 31) 3 (by decide) (by omega)
theorem cx_and7 {x : Nat} (hx : x < 24) : nI x &&& nI 7 = nI (x % 8) := pk_andN (by omega) 3 (by decide)
theorem cx_alg : ∀ z, z < 4 → (nI 1 <<< (nI z &&& 31)) - nI 1 = nI (2 ^ z - 1) := by decide +kernel
theorem cx_algn {a z : Nat} (ha : a < 1024) (hz : z < 4) : nI a &&& ((nI 1 <<< (nI z &&& 31)) - nI 1) = nI (a % 2 ^ z) := by
  rw [cx_alg z hz]
  have : z = 0 ∨ z = 1 ∨ z = 2 ∨ z = 3 := by omega
  rcases this with rfl | rfl | rfl | rfl
  · exact pk_andN (by omega) 0 (by decide)
  · exact pk_andN (by omega) 1 (by decide)
  · exact pk_andN (by omega) 2 (by decide)
  · exact pk_andN (by omega) 3 (by decide)
theorem mq_end_12 {ρ : Nat → Nat → Nat} {p : Nat} : mq_end ρ 12 p = ρ 12 p := by
  unfold mq_end mq_inc
  rw [mq_up_j (by omega), mq_up_j (by omega)]
theorem mq_end_02 {ρ : Nat → Nat → Nat} : mq_end ρ 0 2 = ρ 0 2 := by
  unfold mq_end mq_inc
  rw [mq_up_j (by omega), mq_up_j (by omega)]
theorem mq_end_01 {ρ : Nat → Nat → Nat} : mq_end ρ 0 1 = ρ 0 1 := by
  unfold mq_end mq_inc
  rw [mq_up_j (by omega), mq_up_j (by omega)]
theorem mq_begin_01 {ρ : Nat → Nat → Nat} {p : Nat} : mq_begin ρ p 0 1 ≤ ρ 0 1 + 1 := by
  unfold mq_begin
  cases mq_first ρ 2 (3 + p) with
  | none => exact Nat.le_succ _
  | some x =>
    show mq_go _ x 3 0 1 ≤ _
    rw [mq_go_01, mq_up_j (by omega)]
    exact Nat.le_refl _
theorem mq_serve_01 {ρ : Nat → Nat → Nat} {μ : Nat → Int64} {p : Nat} : (mq_serve ρ μ p).1 0 1 ≤ ρ 0 1 + 2 := by
  unfold mq_serve
  cases mq_first ρ 3 (3 + p) with
  | none =>
    have := mq_begin_01 (ρ := ρ) (p := p)
    show mq_begin ρ p 0 1 ≤ _
    omega
  | some x =>
    show (match mq_finD (mq_cd ρ p) p with | none => (mq_cd ρ p, μ) | some _ => _).1 0 1 ≤ _
    cases mq_finD (mq_cd ρ p) p with
    | none =>
      show mq_cd ρ p 0 1 ≤ _
      unfold mq_cd
      rw [mq_up_j (by omega)]
      omega
    | some y =>
      show mq_begin (mq_fin _ p x) p 0 1 ≤ _
      have h1 := mq_begin_01 (ρ := mq_fin (mq_work (mq_cd ρ p) (μ x) x).1 p x) (p := p)
      rw [mq_work_01] at h1
      unfold mq_cd at h1
      rw [mq_up_j (by omega)] at h1
      exact h1
theorem mq_srv_01 {ρ : Nat → Nat → Nat} {μ : Nat → Int64} : ∀ n, (mq_srv ρ μ n).1 0 1 ≤ ρ 0 1 + 2 * n := by
  intro n
  induction n with
  | zero => exact Nat.le_refl _
  | succ n ih =>
    have := mq_serve_01 (ρ := (mq_srv ρ μ n).1) (μ := (mq_srv ρ μ n).2) (p := n)
    show (mq_serve (mq_srv ρ μ n).1 (mq_srv ρ μ n).2 n).1 0 1 ≤ _
    omega
theorem mq_fetch_01 {ρ : Nat → Nat → Nat} {p : Nat} : mq_fetch ρ p 0 1 ≤ ρ 0 1 + 1 := by
  unfold mq_fetch
  cases mq_reqD ρ p with
  | none => exact Nat.le_succ _
  | some k => exact Nat.le_of_eq mq_reqM_sp.2.2.2.2.2.2.1
theorem mq_ftc_01 {ρ : Nat → Nat → Nat} : ∀ n, mq_ftc ρ n 0 1 ≤ ρ 0 1 + n := by
  intro n
  induction n with
  | zero => exact Nat.le_refl _
  | succ n ih =>
    have := mq_fetch_01 (ρ := mq_ftc ρ n) (p := n)
    show mq_fetch (mq_ftc ρ n) n 0 1 ≤ _
    omega
theorem mq_tick1_01 {ρ : Nat → Nat → Nat} {μ : Nat → Int64} : (mq_tick1 ρ μ).1 0 1 ≤ ρ 0 1 + 16 := by
  show mq_end (mq_mid ρ μ).1 0 1 ≤ _
  rw [mq_end_01]
  show mq_ftc (mq_srv (mq_ansN (mq_up ρ 0 2 0) 3) μ 4).1 4 0 1 ≤ _
  have h1 := mq_ftc_01 (ρ := (mq_srv (mq_ansN (mq_up ρ 0 2 0) 3) μ 4).1) 4
  have h2 := mq_srv_01 (ρ := mq_ansN (mq_up ρ 0 2 0) 3) (μ := μ) 4
  have h3 := mq_ansN_01 (ρ := ρ) (v := 0) 3
  omega

set_option maxHeartbeats 4000000 in
set_option maxRecDepth 100000 in
theorem k_X_tick (l : Launch) {D : va_G} {K : Nat → ClassId} {ad : Nat → Nat} {σ : Nat → Nat → Int32} {τ : Nat → Nat → Int64} {n : Nat} (hn : n ≤ 10000) {ρ : Nat → Nat → Nat} {μ : Nat → Int64} {lt : Int64} {pl : Nat → Nat → List Nat} (hR : rr_R σ τ ρ μ lt pl) (hmv : ρ 0 1 + 16 * n + 64 < 2 ^ 31) : Met l yX_tick (Cond.code yX_tick prog_1_method_4_code 4 (some .int) :: mx_T) { frames := 6, cells := 0, slots := 0, locals := 135 } (va_Pc [.ref (ad 0), .int (nI n)] (cx_P D K ad σ τ)) (cx_Qi D K ad (fun rr u => ∃ pl' : Nat → Nat → List Nat, rr = nI ((mq_tick ρ μ n).1 16 0) ∧ rr_R u.1 u.2 (mq_tick ρ μ n).1 (mq_tick ρ μ n).2 lt pl')) 0 0 (gx_A ad 70) := by
  refine gx_met (by decide) rfl (Nat.le_of_ble_eq_true rfl) ?_
  intro pg ev s mid as below mth c ls hx hb hr hml ht hown hlk hnm hargs hB hl
  obtain ⟨hV, hZ⟩ := hB
  have hS : va_S (gx_A ad 70) s.heap s.heap [] := va_S.rf
  have hl : lv_has ls 4 [(0, .ref (ad 0)), (1, .int (nI n))] := hl
  refine lv_iload_n hx hb dX_tick_0 rfl (lv_at hl 1 rfl) ?_
  refine lv_if_lt (tgt := 11) hx hb dX_tick_1 (by decide) (fun h1 => ?_) (fun h1 => ?_)
  · exact absurd h1 (nI_pos (by omega))
  · refine lv_iload_n hx hb dX_tick_4 rfl (lv_at hl 1 rfl) ?_
    refine lv_sipush (v := nI 10000) hx hb dX_tick_5 (by decide) ?_
    refine gx_icmp_le (a := n) (b := 10000) (tgt := 19) hx hb dX_tick_8 (by decide) (by omega) (by omega) (fun h8 => ?_) (fun h8 => ?_)
    · refine lv_iconst (v := nI 0) hx hb dX_tick_19 (by decide) ?_
      refine lv_istore_n (lv' := [(2, .int (nI 0)), (0, .ref (ad 0)), (1, .int (nI n))]) hx hb dX_tick_20 rfl hl (by decide) rfl (fun ls hl => ?_)
      have loop : ∀ (k : Nat) (i : Nat) (σ1 : Nat → Nat → Int32) (τ1 : Nat → Nat → Int64) (ρ1 : Nat → Nat → Nat) (μ1 : Nat → Int64) (pl1 : Nat → Nat → List Nat) (H : Heap) (locs : List Loc) (ls : Array Slot), i + k = n → mq_tick ρ μ i = (ρ1, μ1) → ρ1 0 1 ≤ ρ 0 1 + 16 * i → rr_R σ1 τ1 ρ1 μ1 lt pl1 → gx_V D mx_cl (mx_tys K) (cx_E ad K) ad 70 (σ1) (τ1) s H → va_S (gx_A ad 70) s.heap H locs → lv_has ls 4 [(2, .int (nI i)), (0, .ref (ad 0)), (1, .int (nI n))] → W pg l ev (headSpec (Cond.code yX_tick prog_1_method_4_code 4 (some .int) :: mx_T) { frames := 6, cells := 0, slots := 0, locals := 135 }).room s mid as below mth c H locs 0 0 (MQ below (cx_Qi D K ad (fun rr u => ∃ pl' : Nat → Nat → List Nat, rr = nI ((mq_tick ρ μ n).1 16 0) ∧ rr_R u.1 u.2 (mq_tick ρ μ n).1 (mq_tick ρ μ n).2 lt pl')) as s 0 0 (gx_A ad 70)) (F0 mid 21 ls []) := by
        intro k
        induction k with
        | zero =>
          intro i σ1 τ1 ρ1 μ1 pl1 H locs ls hk hs hm1 R1 hV hS hl
          refine lv_iload_n hx hb dX_tick_21 rfl (lv_at hl 0 rfl) ?_
          refine lv_iload_n hx hb dX_tick_22 rfl (lv_at hl 2 rfl) ?_
          refine gx_icmp_ge (a := i) (b := n) (tgt := 60) hx hb dX_tick_23 (by decide) (by omega) (by omega) (fun h23 => ?_) (fun h23 => ?_)
          · refine lv_aload_n hx hb dX_tick_60 rfl (lv_at hl 1 rfl) ?_
            refine gx_get (C := mR_X) (T := mT_X) (N' := 7) hx hb ht mh_X hown hV (by decide) cx_E_X rfl 5 (by decide) (ht _ mw_134) (fun _ h => h) rfl dX_tick_61 ?_
            refine lv_iconst (v := nI 0) hx hb dX_tick_64 (by decide) ?_
            refine gx_ialdv (v := nI (ρ1 16 0)) hx hb hV (by decide) 0 cx_E_Ct rfl 0 (by decide) (by decide) rfl (R1.2.2.2.2.2.2.1.2.2.1 0 (by omega)) dX_tick_65 ?_
            exact gx_iret hx hb hr hV hS ⟨pl1, by rw [show n = i by omega, hs], by rw [show n = i by omega, hs]; exact R1⟩ dX_tick_66 hlk
          · exact absurd h23 (by omega)
        | succ k ih =>
          intro i σ1 τ1 ρ1 μ1 pl1 H locs ls hk hs hm1 R1 hV hS hl
          refine lv_iload_n hx hb dX_tick_21 rfl (lv_at hl 0 rfl) ?_
          refine lv_iload_n hx hb dX_tick_22 rfl (lv_at hl 2 rfl) ?_
          refine gx_icmp_ge (a := i) (b := n) (tgt := 60) hx hb dX_tick_23 (by decide) (by omega) (by omega) (fun h23 => ?_) (fun h23 => ?_)
          · exact absurd h23 (by omega)
          · refine lv_aload_n hx hb dX_tick_26 rfl (lv_at hl 1 rfl) ?_
            refine gx_calli (va_runV (As := []) (rest := []) ⟨hx, hb, hml, hown, ht⟩ (k_X_runTick l R1 (by omega)) (cwV 0 ht (mx_gV (C := "MessageCrossbar") mw_273 mw_275 ms_1 mw_1 mw_276) rfl rfl rfl (by decide +kernel) ⟨Nat.le_of_ble_eq_true rfl, Nat.le_of_ble_eq_true rfl⟩) (gx_preV cx_ok hV hZ hS (q := (mR_X, mT_X, 7)) (by decide) cx_E_X rfl []) rfl rfl hl.1 rfl (lv_room (Nat.le_of_ble_eq_true rfl)) dX_tick_27 ⟨Nat.le_of_ble_eq_true rfl, Nat.le_of_ble_eq_true rfl⟩) hV hS (fun r9 σ' τ' H locs hp hV hS => ?_)
            obtain ⟨pl2, hr9, R2⟩ := hp
            generalize hσ2 : σ' = σ2 at hV R2
            generalize hτ2 : τ' = τ2 at hV R2
            have hs2 : mq_tick ρ μ (i + 1) = mq_tick1 ρ1 μ1 := by show mq_tick1 (mq_tick ρ μ i).1 (mq_tick ρ μ i).2 = _; rw [hs]
            have hm2 := mq_tick1_01 (ρ := ρ1) (μ := μ1)
            obtain ⟨ρ2, μ2, h12⟩ : ∃ x y, mq_tick1 ρ1 μ1 = (x, y) := ⟨_, _, rfl⟩
            have hq2 : (mq_mid ρ1 μ1).1 0 2 = 0 → (∀ p, p < 4 → ρ2 12 p = 0) → mq_quiet ρ2 ∧ ρ2 0 2 = 0 := by
              intro q0 q12
              have e1 : ρ2 = mq_end (mq_mid ρ1 μ1).1 := by have := congrArg Prod.fst h12; exact this.symm
              refine ⟨?_, by rw [e1, mq_end_02]; exact q0⟩
              have := mq_still (ρ := ρ1) (μ := μ1) (by omega) (fun p hp => by have := q12 p hp; rw [e1, mq_end_12] at this; exact this)
              rw [h12] at this
              exact this
            rw [h12] at R2 hs2 hm2
            have hm2 : ρ2 0 1 ≤ ρ1 0 1 + 16 := hm2
            by_cases hz : (mq_mid ρ1 μ1).1 0 2 = 0
            · rw [if_pos hz] at hr9
              subst hr9
              refine lv_istore_n (lv' := [(3, .int (nI 0)), (2, .int (nI i)), (0, .ref (ad 0)), (1, .int (nI n))]) hx hb dX_tick_30 rfl hl (by decide) rfl (fun ls hl => ?_)
              refine lv_iload_n hx hb dX_tick_31 rfl (lv_at hl 0 rfl) ?_
              refine gx_if_ne (a := 0) (tgt := 54) hx hb dX_tick_32 (by decide) (by omega) (fun h32 => ?_) (fun h32 => ?_)
              · exact absurd rfl h32
              · refine lv_aload_n hx hb dX_tick_35 rfl (lv_at hl 2 rfl) ?_
                refine gx_calli (va_runV (As := []) (rest := []) ⟨hx, hb, hml, hown, ht⟩ (k_X_anyJobRuns l (tl := ρ2 12) (fun q hq => ⟨(R2.2.2.1 q hq).2.2.1, (R2.2.2.1 q hq).2.2.2.2.1⟩)) (cwV 0 ht (mx_gV (C := "MessageCrossbar") mw_403 mw_405 ms_14 mw_1 mw_406) rfl rfl rfl (by decide +kernel) ⟨Nat.le_of_ble_eq_true rfl, Nat.le_of_ble_eq_true rfl⟩) (gx_preV cx_ok hV hZ hS (q := (mR_X, mT_X, 7)) (by decide) cx_E_X rfl []) rfl rfl hl.1 rfl (lv_room (Nat.le_of_ble_eq_true rfl)) dX_tick_36 ⟨Nat.le_of_ble_eq_true rfl, Nat.le_of_ble_eq_true rfl⟩) hV hS (fun r2 σ' τ' H locs hp hV hS => ?_)
                obtain ⟨rfl, hu⟩ := hp
                cases hu
                refine gx_ifb_ne (q := (mq_fnd (fun q => decide (0 < ρ2 12 q)) 0 4).isSome = true) (tgt := 54) hx hb dX_tick_39 (by decide) (fun h39 => ?_) (fun h39 => ?_)
                · refine lv_iinc (k := 1) (v := (nI (i + 1))) (lv' := [(2, .int (nI (i + 1))), (3, .int (nI 0)), (0, .ref (ad 0)), (1, .int (nI n))]) hx hb dX_tick_54 hl rfl (nI_succ i).symm (by decide) rfl (fun ls hl => ?_)
                  refine lv_goto (tgt := 21) hx hb dX_tick_57 (by decide) ?_
                  exact ih (i + 1) _ _ ρ2 μ2 pl2 H locs ls (by omega) hs2 (by omega) R2 hV hS (lv_sub hl [0, 2, 3] rfl)
                · refine lv_aload_n hx hb dX_tick_42 rfl (lv_at hl 2 rfl) ?_
                  refine lv_iload_n hx hb dX_tick_43 rfl (lv_at hl 3 rfl) ?_
                  refine lv_iconst (v := nI 1) hx hb dX_tick_44 (by decide) ?_
                  refine gx_isub (a := n) (b := 1) hx hb dX_tick_45 (by omega) ?_
                  refine lv_iload_n hx hb dX_tick_46 rfl (lv_at hl 1 rfl) ?_
                  refine gx_isub (a := (n - 1)) (b := i) hx hb dX_tick_47 (by omega) ?_
                  have h12z : ∀ p, p < 4 → ρ2 12 p = 0 := fun p hp => by have := (mq_fnd_sp (p := fun q => decide (0 < ρ2 12 q)) 4 0).2 (by cases hh : mq_fnd (fun q => decide (0 < ρ2 12 q)) 0 4 with | none => rfl | some y => rw [hh] at h39; exact absurd rfl h39) p (by omega) (by omega); simpa using this
                  obtain ⟨hqu, hq0⟩ := hq2 hz h12z
                  have R3 := R2.tickEnd (a := n - 1 - i) (b := n - 1 - i)
                  have hend : mq_tick ρ μ n = (mq_bump ρ2 (n - 1 - i), μ2) := by rw [show n = (i + 1) + (n - 1 - i) by omega, mq_tick_add, hs2]; rw [show i + 1 + (n - 1 - i) - 1 - i = n - 1 - i by omega]; exact hqu.tick hq0 (n - 1 - i)
                  refine gx_callv (va_runV (As := [.int (nI ((n - 1) - i))]) (rest := []) ⟨hx, hb, hml, hown, ht⟩ (k_X_countStillTicks l) (cwV 1 ht (mx_gV (C := "MessageCrossbar") mw_407 mw_409 ms_15 mw_1 mw_410) rfl rfl rfl (by decide +kernel) ⟨Nat.le_of_ble_eq_true rfl, Nat.le_of_ble_eq_true rfl⟩) (gx_preV cx_ok hV hZ hS (q := (mR_X, mT_X, 7)) (by decide) cx_E_X rfl [.int (nI ((n - 1) - i))]) rfl rfl hl.1 rfl (lv_room (Nat.le_of_ble_eq_true rfl)) dX_tick_48 ⟨Nat.le_of_ble_eq_true rfl, Nat.le_of_ble_eq_true rfl⟩) hV hS (fun σ' τ' H locs hp hV hS => ?_)
                  cases hp
                  refine lv_goto (tgt := 60) hx hb dX_tick_51 (by decide) ?_
                  refine lv_aload_n hx hb dX_tick_60 rfl (lv_at hl 2 rfl) ?_
                  refine gx_get (C := mR_X) (T := mT_X) (N' := 7) hx hb ht mh_X hown hV (by decide) cx_E_X rfl 5 (by decide) (ht _ mw_134) (fun _ h => h) rfl dX_tick_61 ?_
                  refine lv_iconst (v := nI 0) hx hb dX_tick_64 (by decide) ?_
                  refine gx_ialdv (v := nI (mq_bump ρ2 (n - 1 - i) 16 0)) hx hb hV (by decide) 0 cx_E_Ct rfl 0 (by decide) (by decide) rfl (R3.2.2.2.2.2.2.1.2.2.1 0 (by omega)) dX_tick_65 ?_
                  exact gx_iret hx hb hr hV hS ⟨pl2, by rw [hend], by rw [hend]; exact R3⟩ dX_tick_66 hlk
            · rw [if_neg hz] at hr9
              subst hr9
              refine lv_istore_n (lv' := [(3, .int (nI 1)), (2, .int (nI i)), (0, .ref (ad 0)), (1, .int (nI n))]) hx hb dX_tick_30 rfl hl (by decide) rfl (fun ls hl => ?_)
              refine lv_iload_n hx hb dX_tick_31 rfl (lv_at hl 0 rfl) ?_
              refine gx_if_ne (a := 1) (tgt := 54) hx hb dX_tick_32 (by decide) (by omega) (fun h32 => ?_) (fun h32 => ?_)
              · refine lv_iinc (k := 1) (v := (nI (i + 1))) (lv' := [(2, .int (nI (i + 1))), (3, .int (nI 1)), (0, .ref (ad 0)), (1, .int (nI n))]) hx hb dX_tick_54 hl rfl (nI_succ i).symm (by decide) rfl (fun ls hl => ?_)
                refine lv_goto (tgt := 21) hx hb dX_tick_57 (by decide) ?_
                exact ih (i + 1) _ _ ρ2 μ2 pl2 H locs ls (by omega) hs2 (by omega) R2 hV hS (lv_sub hl [0, 2, 3] rfl)
              · exact absurd h32 (by decide)
      exact loop n 0 _ _ _ _ _ _ _ ls (by omega) rfl (by omega) hR hV hS hl
    · exact absurd h8 (by omega)
