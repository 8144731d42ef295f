/-! the crossbar's own methods: requests; a tick -/
theorem mq_cnt4_iff {f : Nat → Bool} : mq_cnt f 4 < 4 ↔ mq_fnd (fun i => !f i) 0 4 ≠ none := by
  cases h0 : f 0 <;> cases h1 : f 1 <;> cases h2 : f 2 <;> cases h3 : f 3 <;> simp [mq_cnt, mq_fnd, h0, h1, h2, h3]
theorem rr_fr4 {σ : Nat → Nat → Int32} {τ : Nat → Nat → Int64} {ρ : Nat → Nat → Nat} {μ : Nat → Int64} {lt : Int64} {pl : Nat → Nat → List Nat} (h : rr_R σ τ ρ μ lt pl) {p : Nat} (hp : p < 4) : mq_fnd (fun q => decide (σ (23 + 6 * p) q = -1)) 0 4 = mq_free ρ p := by
  unfold mq_free
  refine mq_fnd_congr 4 0 (fun j _ hj => ?_)
  have := h.freeB hp (i := j) (by omega)
  cases hh : (mq_holder ρ p j).isNone with
  | true => rw [hh] at this; simpa using this
  | false => rw [hh] at this; simpa using this
theorem rr_room4 {σ : Nat → Nat → Int32} {τ : Nat → Nat → Int64} {ρ : Nat → Nat → Nat} {μ : Nat → Int64} {lt : Int64} {pl : Nat → Nat → List Nat} (h : rr_R σ τ ρ μ lt pl) {p : Nat} (hp : p < 4) : mq_cnt (fun q => decide (σ (23 + 6 * p) q ≠ -1)) 4 < 4 ↔ mq_free ρ p ≠ none := by
  rw [mq_cnt4_iff, ← rr_fr4 h hp]
  have : (fun i => !decide (σ (23 + 6 * p) i ≠ -1)) = fun q => decide (σ (23 + 6 * p) q = -1) := by
    funext q
    simp
  rw [this]

set_option maxHeartbeats 4000000 in
set_option maxRecDepth 100000 in
theorem k_X_nextRequestingMaster (l : Launch) {D : va_G} {K : Nat → ClassId} {ad : Nat → Nat} {σ : Nat → Nat → Int32} {τ : Nat → Nat → Int64} {p : Nat} (hp0 : p < 4) {ρ : Nat → Nat → Nat} {μ : Nat → Int64} {lt : Int64} {pl : Nat → Nat → List Nat} (hR : rr_R σ τ ρ μ lt pl) : Met l yX_nextRequestingMaster (Cond.code yX_nextRequestingMaster prog_1_method_26_code 5 (some .int) :: mx_T) { frames := 2, cells := 0, slots := 0, locals := 42 } (va_Pc [.ref (ad 0), .int (nI p)] (cx_P D K ad σ τ)) (cx_Qi D K ad (fun rr u => rr = mq_oI ((mq_reqD ρ p).map (fun k => (ρ 11 p + k) % 3)) ∧ u = (σ, τ))) 0 0 (gx_A ad 70) := by
  refine gx_met (by decide) rfl (Nat.le_of_ble_eq_true rfl) ?_
  intro pg ev s mid as below mth c ls hx hb hr hml ht hown hlk hnm hargs hB hl
  obtain ⟨hV, hZ⟩ := hB
  have hS : va_S (gx_A ad 70) s.heap s.heap [] := va_S.rf
  have hl : lv_has ls 5 [(0, .ref (ad 0)), (1, .int (nI p))] := hl
  have hR0 := hR
  obtain ⟨hL, hP, hJ, hM, hO, hG, hBB, hT⟩ := hR
  obtain ⟨-, -, -, -, -, -, lm, hlm, hlm1, hlm2⟩ := hJ p hp0
  have ok2 : mq_ok 2 (3 + p) := Or.inr ⟨by simp, by omega, by omega⟩
  have hrq := hL 2 (3 + p) ok2 (by omega)
  rw [show rr_ln 2 (3 + p) = 19 + 6 * p by simp [rr_ln], show rr_room 2 = 2 from rfl] at hrq
  refine lv_aload_n hx hb dX_nextRequestingMaster_0 rfl (lv_at hl 0 rfl) ?_
  refine gx_get (C := mR_X) (T := mT_X) (N' := 7) hx hb ht mh_X hown hV (by decide) cx_E_X rfl 1 (by decide) (ht _ mw_130) (fun _ h => h) rfl dX_nextRequestingMaster_1 ?_
  refine lv_iload_n hx hb dX_nextRequestingMaster_4 rfl (lv_at hl 1 rfl) ?_
  refine gx_aald hx hb hV (by decide) 5 cx_E_Ps rfl p hp0 (by decide) rfl rfl dX_nextRequestingMaster_5 ?_
  refine gx_calli (va_runV (As := []) (rest := []) ⟨hx, hb, hml, hown, ht⟩ (k_P_hasRoomForRequest l hp0 hrq.1.1 hrq.2) (cwV 0 ht (mx_gV (C := "MessageCrossbar$Port") mw_381 mw_382 mw_383 mw_4 mw_384) rfl rfl rfl (by decide +kernel) ⟨Nat.le_of_ble_eq_true rfl, Nat.le_of_ble_eq_true rfl⟩) (gx_preV cx_ok hV hZ hS (q := (mR_P, mT_P, 7)) (show 18 + 6 * p < 70 by omega) (cx_E_P hp0) rfl []) rfl rfl hl.1 rfl (lv_room (Nat.le_of_ble_eq_true rfl)) dX_nextRequestingMaster_6 ⟨Nat.le_of_ble_eq_true rfl, Nat.le_of_ble_eq_true rfl⟩) hV hS (fun r1 σ' τ' H locs hp hV hS => ?_)
  obtain ⟨rfl, hu⟩ := hp
  cases hu
  refine gx_ifb_ne (q := (pl 2 (3 + p)).length < 2 ∧ mq_cnt (fun q => decide (σ (23 + 6 * p) q ≠ -1)) 4 < 4) (tgt := 14) hx hb dX_nextRequestingMaster_9 (by decide) (fun h9 => ?_) (fun h9 => ?_)
  · refine lv_iconst (v := nI 1) hx hb dX_nextRequestingMaster_14 (by decide) ?_
    refine lv_istore_n (lv' := [(2, .int (nI 1)), (0, .ref (ad 0)), (1, .int (nI p))]) hx hb dX_nextRequestingMaster_15 rfl hl (by decide) rfl (fun ls hl => ?_)
    have loop : ∀ (k : Nat) (i : Nat) (H : Heap) (locs : List Loc) (ls : Array Slot), i + k = 3 → mq_fnd (mq_reqK ρ p) 0 3 = mq_fnd (mq_reqK ρ p) i k → gx_V D mx_cl (mx_tys K) (cx_E ad K) ad 70 (σ) (τ) s H → va_S (gx_A ad 70) s.heap H locs → lv_has ls 5 [(2, .int (nI (i + 1))), (0, .ref (ad 0)), (1, .int (nI p))] → W pg l ev (headSpec (Cond.code yX_nextRequestingMaster prog_1_method_26_code 5 (some .int) :: mx_T) { frames := 2, cells := 0, slots := 0, locals := 42 }).room s mid as below mth c H locs 0 0 (MQ below (cx_Qi D K ad (fun rr u => rr = mq_oI ((mq_reqD ρ p).map (fun k => (ρ 11 p + k) % 3)) ∧ u = (σ, τ))) as s 0 0 (gx_A ad 70)) (F0 mid 16 ls []) := by
      intro k
      induction k with
      | zero =>
        intro i H locs ls hk hf hV hS hl
        refine lv_iload_n hx hb dX_nextRequestingMaster_16 rfl (lv_at hl 0 rfl) ?_
        refine lv_iconst (v := nI 3) hx hb dX_nextRequestingMaster_17 (by decide) ?_
        refine gx_icmp_gt (a := (i + 1)) (b := 3) (tgt := 78) hx hb dX_nextRequestingMaster_18 (by decide) (by omega) (by omega) (fun h18 => ?_) (fun h18 => ?_)
        · refine lv_iconst (v := -1) hx hb dX_nextRequestingMaster_78 (by decide) ?_
          exact gx_iret hx hb hr hV hS ⟨by rw [show mq_reqD ρ p = none from (if_neg (by rw [hP.many ok2]; have := (rr_room4 hR0 hp0).mp h9.2; intro q; rcases q with q | q; exact this q; omega)).trans hf]; rfl, rfl⟩ dX_nextRequestingMaster_79 hlk
        · exact absurd h18 (by omega)
      | succ k ih =>
        intro i H locs ls hk hf hV hS hl
        refine lv_iload_n hx hb dX_nextRequestingMaster_16 rfl (lv_at hl 0 rfl) ?_
        refine lv_iconst (v := nI 3) hx hb dX_nextRequestingMaster_17 (by decide) ?_
        refine gx_icmp_gt (a := (i + 1)) (b := 3) (tgt := 78) hx hb dX_nextRequestingMaster_18 (by decide) (by omega) (by omega) (fun h18 => ?_) (fun h18 => ?_)
        · exact absurd h18 (by omega)
        · refine lv_aload_n hx hb dX_nextRequestingMaster_21 rfl (lv_at hl 1 rfl) ?_
          refine gx_get (C := mR_X) (T := mT_X) (N' := 7) hx hb ht mh_X hown hV (by decide) cx_E_X rfl 1 (by decide) (ht _ mw_130) (fun _ h => h) rfl dX_nextRequestingMaster_22 ?_
          refine lv_iload_n hx hb dX_nextRequestingMaster_25 rfl (lv_at hl 2 rfl) ?_
          refine gx_aald hx hb hV (by decide) 5 cx_E_Ps rfl p hp0 (by decide) rfl rfl dX_nextRequestingMaster_26 ?_
          refine gx_get (C := mR_P) (T := mT_P) (N' := 7) (v := .int (nI lm)) hx hb ht mh_P hown hV (show 18 + 6 * p < 70 by omega) (cx_E_P hp0) rfl 6 (by decide) (ht _ mw_87) (fun _ h => h) (congrArg (fun z => some (Value.int z)) hlm1) dX_nextRequestingMaster_27 ?_
          refine lv_iload_n hx hb dX_nextRequestingMaster_30 rfl (lv_at hl 0 rfl) ?_
          refine lv_iconst (v := nI 3) hx hb dX_nextRequestingMaster_31 (by decide) ?_
          refine gx_callp (va_runS (As := [.int (nI lm), .int (nI (i + 1)), .int (nI 3)]) (rest := []) ⟨hx, hb, hml, hown, ht⟩ (k_X_stepBehind l (a := lm) (b := i + 1) (n := 3) (by omega) (by omega) (by omega)) (cwS 3 ht (mx_gS mw_290 mw_291 mw_1 mw_292) rfl rfl rfl (by decide +kernel) ⟨Nat.le_of_ble_eq_true rfl, Nat.le_of_ble_eq_true rfl⟩) (gx_preP [.int (nI lm), .int (nI (i + 1)), .int (nI 3)]) rfl rfl hl.1 rfl (lv_room (Nat.le_of_ble_eq_true rfl)) dX_nextRequestingMaster_32 ⟨Nat.le_of_ble_eq_true rfl, Nat.le_of_ble_eq_true rfl⟩) hV hS (fun r2 H locs hp hV hS => ?_)
          rw [show (if 3 ≤ lm + (i + 1) then lm + (i + 1) - 3 else lm + (i + 1)) = (ρ 11 p + i) % 3 by split <;> omega] at hp
          subst hp
          have hq4 : (ρ 11 p + i) % 3 < 3 := by omega
          have okq : mq_ok 1 ((ρ 11 p + i) % 3) := Or.inl ⟨by simp, hq4⟩
          have hlq := hL 1 _ okq (by omega)
          have hfq := rr_firstI hL hP okq (by omega)
          rw [show rr_ln 1 ((ρ 11 p + i) % 3) = 3 + 5 * ((ρ 11 p + i) % 3) by simp [rr_ln]] at hlq hfq
          refine lv_istore_n (lv' := [(3, .int (nI ((ρ 11 p + i) % 3))), (2, .int (nI (i + 1))), (0, .ref (ad 0)), (1, .int (nI p))]) hx hb dX_nextRequestingMaster_35 rfl hl (by decide) rfl (fun ls hl => ?_)
          refine lv_aload_n hx hb dX_nextRequestingMaster_36 rfl (lv_at hl 2 rfl) ?_
          refine gx_get (C := mR_X) (T := mT_X) (N' := 7) hx hb ht mh_X hown hV (by decide) cx_E_X rfl 0 (by decide) (ht _ mw_129) (fun _ h => h) rfl dX_nextRequestingMaster_37 ?_
          refine lv_iload_n hx hb dX_nextRequestingMaster_40 rfl (lv_at hl 0 rfl) ?_
          refine gx_aald hx hb hV (by decide) 4 cx_E_Ms rfl ((ρ 11 p + i) % 3) hq4 (by decide) rfl rfl dX_nextRequestingMaster_41 ?_
          refine gx_get (C := mR_M) (T := mT_M) (N' := 5) hx hb ht mh_M hown hV (show 2 + 5 * ((ρ 11 p + i) % 3) < 70 by omega) (cx_E_M hq4) rfl 0 (by decide) (ht _ mw_45) (fun _ h => h) rfl dX_nextRequestingMaster_42 ?_
          refine gx_calli (va_runV (As := []) (rest := []) ⟨hx, hb, hml, hown, ht⟩ (k_L_first l (cx_isL_W hq4) hlq.1.1 hlq.2) (cwV 0 ht (mx_gV (C := "MessageCrossbar$Line") mw_293 mw_294 mw_295 mw_3 mw_296) rfl rfl rfl (by decide +kernel) ⟨Nat.le_of_ble_eq_true rfl, Nat.le_of_ble_eq_true rfl⟩) (gx_preV cx_ok hV hZ hS (q := (mR_L, mT_L, 2)) ((cx_isL_W hq4)).lt.1 (cx_E_L (cx_isL_W hq4)).1 rfl []) rfl rfl hl.1 rfl (lv_room (Nat.le_of_ble_eq_true rfl)) dX_nextRequestingMaster_45 ⟨Nat.le_of_ble_eq_true rfl, Nat.le_of_ble_eq_true rfl⟩) hV hS (fun r3 σ' τ' H locs hp hV hS => ?_)
          obtain ⟨hp, hu⟩ := hp
          cases hu
          rw [hfq] at hp
          subst hp
          cases hq : mq_first ρ 1 ((ρ 11 p + i) % 3) with
          | none =>
            refine lv_istore (lv' := [(4, .int (-1)), (3, .int (nI ((ρ 11 p + i) % 3))), (2, .int (nI (i + 1))), (0, .ref (ad 0)), (1, .int (nI p))]) hx hb dX_nextRequestingMaster_48 hl (by decide) rfl (fun ls hl => ?_)
            refine lv_iload hx hb dX_nextRequestingMaster_50 (lv_at hl 0 rfl) ?_
            refine lv_iconst (v := -1) hx hb dX_nextRequestingMaster_52 (by decide) ?_
            refine lv_icmp_eq (tgt := 72) hx hb dX_nextRequestingMaster_53 (by decide) (fun h53 => ?_) (fun h53 => ?_)
            · refine lv_iinc (k := 2) (v := (nI ((i + 1) + 1))) (lv' := [(2, .int (nI ((i + 1) + 1))), (4, .int (-1)), (3, .int (nI ((ρ 11 p + i) % 3))), (0, .ref (ad 0)), (1, .int (nI p))]) hx hb dX_nextRequestingMaster_72 hl rfl (nI_succ (i + 1)).symm (by decide) rfl (fun ls hl => ?_)
              refine lv_goto (tgt := 16) hx hb dX_nextRequestingMaster_75 (by decide) ?_
              exact ih (i + 1) H locs ls (by omega) (by rw [hf, mq_fnd_f (by simp [mq_reqK, hq])]) hV hS (lv_sub hl [0, 3, 4] rfl)
            · exact absurd rfl h53
          | some x =>
            have hx24 := rr_first_lt hP okq hq
            obtain ⟨tx, htx⟩ := mq_first_of hP okq hq
            have hx1 := (hP.mem okq (x := x) (by rw [htx]; simp)).2.1
            obtain ⟨-, -, ⟨had, had4, -⟩, -⟩ := hG x hx24 (by rw [hx1]; decide)
            refine lv_istore (lv' := [(4, .int (nI x)), (3, .int (nI ((ρ 11 p + i) % 3))), (2, .int (nI (i + 1))), (0, .ref (ad 0)), (1, .int (nI p))]) hx hb dX_nextRequestingMaster_48 hl (by decide) rfl (fun ls hl => ?_)
            refine lv_iload hx hb dX_nextRequestingMaster_50 (lv_at hl 0 rfl) ?_
            refine lv_iconst (v := -1) hx hb dX_nextRequestingMaster_52 (by decide) ?_
            refine lv_icmp_eq (tgt := 72) hx hb dX_nextRequestingMaster_53 (by decide) (fun h53 => ?_) (fun h53 => ?_)
            · exact absurd h53 (rr_m1 hx24)
            · refine lv_aload_n hx hb dX_nextRequestingMaster_56 rfl (lv_at hl 3 rfl) ?_
              refine gx_get (C := mR_X) (T := mT_X) (N' := 7) hx hb ht mh_X hown hV (by decide) cx_E_X rfl 2 (by decide) (ht _ mw_131) (fun _ h => h) rfl dX_nextRequestingMaster_57 ?_
              refine lv_iload hx hb dX_nextRequestingMaster_60 (lv_at hl 0 rfl) ?_
              refine gx_aald hx hb hV (by decide) 6 cx_E_Gs rfl x hx24 (by decide) rfl rfl dX_nextRequestingMaster_62 ?_
              refine lv_iload_n hx hb dX_nextRequestingMaster_63 rfl (lv_at hl 4 rfl) ?_
              refine gx_calli (va_runV (As := [.int (nI p)]) (rest := []) ⟨hx, hb, hml, hown, ht⟩ (k_G_goesTo l hx24 had had4 hp0) (cwV 1 ht (mx_gV (C := "MessageCrossbar$Message") mw_389 mw_390 mw_391 mw_5 mw_392) rfl rfl rfl (by decide +kernel) ⟨Nat.le_of_ble_eq_true rfl, Nat.le_of_ble_eq_true rfl⟩) (gx_preV cx_ok hV hZ hS (q := (mR_G, mT_G, 5)) (show 43 + x < 70 by omega) (cx_E_G hx24) rfl [.int (nI p)]) rfl rfl hl.1 rfl (lv_room (Nat.le_of_ble_eq_true rfl)) dX_nextRequestingMaster_64 ⟨Nat.le_of_ble_eq_true rfl, Nat.le_of_ble_eq_true rfl⟩) hV hS (fun r4 σ' τ' H locs hp hV hS => ?_)
              obtain ⟨rfl, hu⟩ := hp
              cases hu
              refine gx_ifb_eq (q := mq_port (ρ 5 x) = p) (tgt := 72) hx hb dX_nextRequestingMaster_67 (by decide) (fun h67 => ?_) (fun h67 => ?_)
              · refine lv_iinc (k := 2) (v := (nI ((i + 1) + 1))) (lv' := [(2, .int (nI ((i + 1) + 1))), (4, .int (nI x)), (3, .int (nI ((ρ 11 p + i) % 3))), (0, .ref (ad 0)), (1, .int (nI p))]) hx hb dX_nextRequestingMaster_72 hl rfl (nI_succ (i + 1)).symm (by decide) rfl (fun ls hl => ?_)
                refine lv_goto (tgt := 16) hx hb dX_nextRequestingMaster_75 (by decide) ?_
                exact ih (i + 1) H locs ls (by omega) (by rw [hf, mq_fnd_f (by simp [mq_reqK, hq, h67])]) hV hS (lv_sub hl [0, 3, 4] rfl)
              · refine lv_iload_n hx hb dX_nextRequestingMaster_70 rfl (lv_at hl 1 rfl) ?_
                exact gx_iret hx hb hr hV hS ⟨by rw [show mq_reqD ρ p = some i from (if_neg (by rw [hP.many ok2]; have := (rr_room4 hR0 hp0).mp h9.2; intro q; rcases q with q | q; exact this q; omega)).trans (hf.trans (mq_fnd_t (by simp [mq_reqK, hq, h67])))]; rfl, rfl⟩ dX_nextRequestingMaster_71 hlk
    exact loop 3 0 _ _ ls (by omega) rfl hV hS hl
  · refine lv_iconst (v := -1) hx hb dX_nextRequestingMaster_12 (by decide) ?_
    exact gx_iret hx hb hr hV hS ⟨by rw [show mq_reqD ρ p = none from if_pos (by rw [hP.many ok2]; by_cases hz : mq_free ρ p = none; exact Or.inl hz; exact Or.inr (Nat.not_le.mp fun q => h9 ⟨by omega, (rr_room4 hR0 hp0).mpr hz⟩))]; rfl, rfl⟩ dX_nextRequestingMaster_13 hlk

set_option maxHeartbeats 4000000 in
set_option maxRecDepth 100000 in
theorem k_X_moveRequest (l : Launch) {D : va_G} {K : Nat → ClassId} {ad : Nat → Nat} {σ : Nat → Nat → Int32} {τ : Nat → Nat → Int64} {p m x nq i : Nat} {t : List Nat} (hp0 : p < 4) (hm : m < 3) (hA : cx_ln σ (3 + 5 * m) (x :: t)) (hl8 : t.length + 1 ≤ 8) (hqn : σ (19 + 6 * p) 1 = nI nq) (hnq : nq < 2) (hfr : mq_fnd (fun q => decide (σ (23 + 6 * p) q = -1)) 0 4 = some i) : Met l yX_moveRequest (Cond.code yX_moveRequest prog_1_method_27_code 4 none :: mx_T) { frames := 1, cells := 0, slots := 0, locals := 22 } (va_Pc [.ref (ad 0), .int (nI m), .int (nI p)] (cx_P D K ad σ τ)) (cx_Qv D K ad (fun u => u = (cx_mvr σ p m t.length nq x i, τ))) 0 0 (gx_A ad 70) := by
  refine gx_met (by decide) rfl (Nat.le_of_ble_eq_true rfl) ?_
  intro pg ev s mid as below mth c ls hx hb hr hml ht hown hlk hnm hargs hB hl
  obtain ⟨hV, hZ⟩ := hB
  have hS : va_S (gx_A ad 70) s.heap s.heap [] := va_S.rf
  have hl : lv_has ls 4 [(0, .ref (ad 0)), (1, .int (nI m)), (2, .int (nI p))] := hl
  refine lv_aload_n hx hb dX_moveRequest_0 rfl (lv_at hl 0 rfl) ?_
  refine gx_get (C := mR_X) (T := mT_X) (N' := 7) hx hb ht mh_X hown hV (by decide) cx_E_X rfl 0 (by decide) (ht _ mw_129) (fun _ h => h) rfl dX_moveRequest_1 ?_
  refine lv_iload_n hx hb dX_moveRequest_4 rfl (lv_at hl 1 rfl) ?_
  refine gx_aald hx hb hV (by decide) 4 cx_E_Ms rfl m hm (by decide) rfl rfl dX_moveRequest_5 ?_
  refine gx_get (C := mR_M) (T := mT_M) (N' := 5) hx hb ht mh_M hown hV (show 2 + 5 * m < 70 by omega) (cx_E_M hm) rfl 0 (by decide) (ht _ mw_45) (fun _ h => h) rfl dX_moveRequest_6 ?_
  refine gx_calli (va_runV (As := []) (rest := []) ⟨hx, hb, hml, hown, ht⟩ (k_L_removeFirst l (t := t.length) (cx_isL_W hm) hA.1 hl8) (cwV 0 ht (mx_gV (C := "MessageCrossbar$Line") mw_304 mw_305 mw_306 mw_3 mw_307) rfl rfl rfl (by decide +kernel) ⟨Nat.le_of_ble_eq_true rfl, Nat.le_of_ble_eq_true rfl⟩) (gx_preV cx_ok hV hZ hS (q := (mR_L, mT_L, 2)) ((cx_isL_W hm)).lt.1 (cx_E_L (cx_isL_W hm)).1 rfl []) rfl rfl hl.1 rfl (lv_room (Nat.le_of_ble_eq_true rfl)) dX_moveRequest_9 ⟨Nat.le_of_ble_eq_true rfl, Nat.le_of_ble_eq_true rfl⟩) hV hS (fun r1 σ' τ' H locs hp hV hS => ?_)
  obtain ⟨h9, hu⟩ := hp
  rw [hA.first] at h9
  subst h9
  cases hu
  refine lv_istore_n (lv' := [(3, .int (nI x)), (0, .ref (ad 0)), (1, .int (nI m)), (2, .int (nI p))]) hx hb dX_moveRequest_12 rfl hl (by decide) rfl (fun ls hl => ?_)
  refine lv_aload_n hx hb dX_moveRequest_13 rfl (lv_at hl 1 rfl) ?_
  refine gx_get (C := mR_X) (T := mT_X) (N' := 7) hx hb ht mh_X hown hV (by decide) cx_E_X rfl 1 (by decide) (ht _ mw_130) (fun _ h => h) rfl dX_moveRequest_14 ?_
  refine lv_iload_n hx hb dX_moveRequest_17 rfl (lv_at hl 3 rfl) ?_
  refine gx_aald hx hb hV (by decide) 5 cx_E_Ps rfl p hp0 (by decide) rfl rfl dX_moveRequest_18 ?_
  refine lv_iload_n hx hb dX_moveRequest_19 rfl (lv_at hl 0 rfl) ?_
  refine gx_callv (va_runV (As := [.int (nI x)]) (rest := []) ⟨hx, hb, hml, hown, ht⟩ (k_P_takeLeastId l hp0) (cwV 1 ht (mx_gV (C := "MessageCrossbar$Port") mw_399 mw_400 mw_401 mw_4 mw_402) rfl rfl rfl (by decide +kernel) ⟨Nat.le_of_ble_eq_true rfl, Nat.le_of_ble_eq_true rfl⟩) (gx_preV cx_ok hV hZ hS (q := (mR_P, mT_P, 7)) (show 18 + 6 * p < 70 by omega) (cx_E_P hp0) rfl [.int (nI x)]) rfl rfl hl.1 rfl (lv_room (Nat.le_of_ble_eq_true rfl)) dX_moveRequest_20 ⟨Nat.le_of_ble_eq_true rfl, Nat.le_of_ble_eq_true rfl⟩) hV hS (fun σ' τ' H locs hp hV hS => ?_)
  rw [cx_rem_n (by omega) (by omega), hfr] at hp
  cases hp
  have hV : gx_V D mx_cl (mx_tys K) (cx_E ad K) ad 70 (cx_up (cx_rem σ (3 + 5 * m) t.length) (23 + 6 * p) i (nI x)) τ s H := hV
  refine lv_aload_n hx hb dX_moveRequest_23 rfl (lv_at hl 1 rfl) ?_
  refine gx_get (C := mR_X) (T := mT_X) (N' := 7) hx hb ht mh_X hown hV (by decide) cx_E_X rfl 1 (by decide) (ht _ mw_130) (fun _ h => h) rfl dX_moveRequest_24 ?_
  refine lv_iload_n hx hb dX_moveRequest_27 rfl (lv_at hl 3 rfl) ?_
  refine gx_aald hx hb hV (by decide) 5 cx_E_Ps rfl p hp0 (by decide) rfl rfl dX_moveRequest_28 ?_
  refine gx_get (C := mR_P) (T := mT_P) (N' := 7) hx hb ht mh_P hown hV (show 18 + 6 * p < 70 by omega) (cx_E_P hp0) rfl 0 (by decide) (ht _ mw_75) (fun _ h => h) rfl dX_moveRequest_29 ?_
  refine lv_iload_n hx hb dX_moveRequest_32 rfl (lv_at hl 0 rfl) ?_
  refine gx_callv (va_runV (As := [.int (nI x)]) (rest := []) ⟨hx, hb, hml, hown, ht⟩ (k_L_append l (cx_isL_Q hp0) (by rw [cx_up_J (by omega), cx_rem_n (by omega) (by omega)]; exact hqn) hnq) (cwV 1 ht (mx_gV (C := "MessageCrossbar$Line") mw_255 mw_256 mw_257 mw_3 mw_258) rfl rfl rfl (by decide +kernel) ⟨Nat.le_of_ble_eq_true rfl, Nat.le_of_ble_eq_true rfl⟩) (gx_preV cx_ok hV hZ hS (q := (mR_L, mT_L, 2)) ((cx_isL_Q hp0)).lt.1 (cx_E_L (cx_isL_Q hp0)).1 rfl [.int (nI x)]) rfl rfl hl.1 rfl (lv_room (Nat.le_of_ble_eq_true rfl)) dX_moveRequest_33 ⟨Nat.le_of_ble_eq_true rfl, Nat.le_of_ble_eq_true rfl⟩) hV hS (fun σ' τ' H locs hp hV hS => ?_)
  cases hp
  refine lv_aload_n hx hb dX_moveRequest_36 rfl (lv_at hl 1 rfl) ?_
  refine gx_get (C := mR_X) (T := mT_X) (N' := 7) hx hb ht mh_X hown hV (by decide) cx_E_X rfl 1 (by decide) (ht _ mw_130) (fun _ h => h) rfl dX_moveRequest_37 ?_
  refine lv_iload_n hx hb dX_moveRequest_40 rfl (lv_at hl 3 rfl) ?_
  refine gx_aald hx hb hV (by decide) 5 cx_E_Ps rfl p hp0 (by decide) rfl rfl dX_moveRequest_41 ?_
  refine lv_iload_n hx hb dX_moveRequest_42 rfl (lv_at hl 2 rfl) ?_
  refine gx_put cx_loc (C := mR_P) (T := mT_P) (N' := 7) (ty := .int) (v := .int (nI m)) hx hb ht mh_P mt_P mk_P mn_P hown hV hS (show 18 + 6 * p < 70 by omega) (cx_E_P hp0) rfl 6 (by decide) (ht _ mw_87) (fun _ h => h) rfl (by decide +kernel) rfl rfl (Nat.le_of_ble_eq_true rfl) dX_moveRequest_43 (cx_up (cx_app (cx_up (cx_rem σ (3 + 5 * m) t.length) (23 + 6 * p) i (nI x)) (19 + 6 * p) nq (nI x)) (18 + 6 * p) 6 (nI m)) τ (by rw [cx_E_P hp0]; simp [cx_up, gx_upL]) (fun _ h => cx_up_J h) (fun _ _ => rfl) (fun H locs hV hS => ?_)
  refine lv_aload_n hx hb dX_moveRequest_46 rfl (lv_at hl 1 rfl) ?_
  refine gx_get (C := mR_X) (T := mT_X) (N' := 7) hx hb ht mh_X hown hV (by decide) cx_E_X rfl 5 (by decide) (ht _ mw_134) (fun _ h => h) rfl dX_moveRequest_47 ?_
  refine lv_iconst (v := nI 2) hx hb dX_moveRequest_50 (by decide) ?_
  refine lv_dup2_11 hx hb dX_moveRequest_51 rfl rfl ?_
  refine gx_ialdv (v := σ 69 2) hx hb hV (by decide) 0 cx_E_Ct rfl 2 (by decide) (by decide) rfl (by simp (disch := omega) only [cx_up_J, cx_app_n, cx_rel_n, cx_rem_n]) dX_moveRequest_52 ?_
  refine lv_iconst (v := nI 1) hx hb dX_moveRequest_53 (by decide) ?_
  refine lv_iadd hx hb dX_moveRequest_54 ?_
  refine gx_iast cx_loc hx hb hV hS (by decide) 0 cx_E_Ct rfl 2 (by decide) (by decide) rfl dX_moveRequest_55 (cx_up (cx_up (cx_app (cx_up (cx_rem σ (3 + 5 * m) t.length) (23 + 6 * p) i (nI x)) (19 + 6 * p) nq (nI x)) (18 + 6 * p) 6 (nI m)) 69 2 (σ 69 2 + (nI 1))) (by rw [cx_E_Ct, cx_up_upd]) (fun _ h => cx_up_J h) (fun H locs hV hS => ?_)
  exact gx_vret hx hb hr hV hS rfl dX_moveRequest_56 hlk

set_option maxHeartbeats 4000000 in
set_option maxRecDepth 100000 in
theorem k_X_moveRequests (l : Launch) {D : va_G} {K : Nat → ClassId} {ad : Nat → Nat} {σ : Nat → Nat → Int32} {τ : Nat → Nat → Int64} {ρ : Nat → Nat → Nat} {μ : Nat → Int64} {lt : Int64} {pl : Nat → Nat → List Nat} (hR : rr_R σ τ ρ μ lt pl) : Met l yX_moveRequests (Cond.code yX_moveRequests prog_1_method_25_code 4 (some .boolean) :: mx_T) { frames := 3, cells := 0, slots := 0, locals := 66 } (va_Pc [.ref (ad 0)] (cx_P D K ad σ τ)) (cx_Qi D K ad (fun rr u => ∃ (f : Nat) (pl' : Nat → Nat → List Nat), rr = nI f ∧ f ≤ 1 ∧ mq_ftc ρ 4 0 2 = (if f = 1 then 1 else ρ 0 2) ∧ rr_R u.1 u.2 (mq_ftc ρ 4) μ lt pl')) 0 0 (gx_A ad 70) := by
  refine gx_met (by decide) rfl (Nat.le_of_ble_eq_true rfl) ?_
  intro pg ev s mid as below mth c ls hx hb hr hml ht hown hlk hnm hargs hB hl
  obtain ⟨hV, hZ⟩ := hB
  have hS : va_S (gx_A ad 70) s.heap s.heap [] := va_S.rf
  have hl : lv_has ls 4 [(0, .ref (ad 0))] := hl
  refine lv_iconst (v := nI 0) hx hb dX_moveRequests_0 (by decide) ?_
  refine lv_istore_n (lv' := [(1, .int (nI 0)), (0, .ref (ad 0))]) hx hb dX_moveRequests_1 rfl hl (by decide) rfl (fun ls hl => ?_)
  refine lv_iconst (v := nI 0) hx hb dX_moveRequests_2 (by decide) ?_
  refine lv_istore_n (lv' := [(2, .int (nI 0)), (1, .int (nI 0)), (0, .ref (ad 0))]) hx hb dX_moveRequests_3 rfl hl (by decide) rfl (fun ls hl => ?_)
  have loop : ∀ (k : Nat) (i f : Nat) (σ1 : Nat → Nat → Int32) (pl1 : Nat → Nat → List Nat) (H : Heap) (locs : List Loc) (ls : Array Slot), i + k = 4 → f ≤ 1 → mq_ftc ρ i 0 2 = (if f = 1 then 1 else ρ 0 2) → rr_R σ1 τ (mq_ftc ρ i) μ lt pl1 → gx_V D mx_cl (mx_tys K) (cx_E ad K) ad 70 (σ1) (τ) s H → va_S (gx_A ad 70) s.heap H locs → lv_has ls 4 [(2, .int (nI i)), (1, .int (nI f)), (0, .ref (ad 0))] → W pg l ev (headSpec (Cond.code yX_moveRequests prog_1_method_25_code 4 (some .boolean) :: mx_T) { frames := 3, cells := 0, slots := 0, locals := 66 }).room s mid as below mth c H locs 0 0 (MQ below (cx_Qi D K ad (fun rr u => ∃ (f : Nat) (pl' : Nat → Nat → List Nat), rr = nI f ∧ f ≤ 1 ∧ mq_ftc ρ 4 0 2 = (if f = 1 then 1 else ρ 0 2) ∧ rr_R u.1 u.2 (mq_ftc ρ 4) μ lt pl')) as s 0 0 (gx_A ad 70)) (F0 mid 4 ls []) := by
    intro k
    induction k with
    | zero =>
      intro i f σ1 pl1 H locs ls hk hf1 hf2 R1 hV hS hl
      refine lv_iload_n hx hb dX_moveRequests_4 rfl (lv_at hl 0 rfl) ?_
      refine lv_iconst (v := nI 4) hx hb dX_moveRequests_5 (by decide) ?_
      refine gx_icmp_ge (a := i) (b := 4) (tgt := 34) hx hb dX_moveRequests_6 (by decide) (by omega) (by omega) (fun h6 => ?_) (fun h6 => ?_)
      · refine lv_iload_n hx hb dX_moveRequests_34 rfl (lv_at hl 1 rfl) ?_
        exact gx_zret hx hb hr (cx_nb1 hf1) hV hS ⟨f, pl1, rfl, hf1, by rw [show 4 = i by omega]; exact hf2, by rw [show 4 = i by omega]; exact R1⟩ dX_moveRequests_35 hlk
      · exact absurd h6 (by omega)
    | succ k ih =>
      intro i f σ1 pl1 H locs ls hk hf1 hf2 R1 hV hS hl
      refine lv_iload_n hx hb dX_moveRequests_4 rfl (lv_at hl 0 rfl) ?_
      refine lv_iconst (v := nI 4) hx hb dX_moveRequests_5 (by decide) ?_
      refine gx_icmp_ge (a := i) (b := 4) (tgt := 34) hx hb dX_moveRequests_6 (by decide) (by omega) (by omega) (fun h6 => ?_) (fun h6 => ?_)
      · exact absurd h6 (by omega)
      · refine lv_aload_n hx hb dX_moveRequests_9 rfl (lv_at hl 2 rfl) ?_
        refine lv_iload_n hx hb dX_moveRequests_10 rfl (lv_at hl 0 rfl) ?_
        refine gx_calli (va_runV (As := [.int (nI i)]) (rest := []) ⟨hx, hb, hml, hown, ht⟩ (k_X_nextRequestingMaster l (p := i) (by omega) R1) (cwV 1 ht (mx_gV (C := "MessageCrossbar") mw_377 mw_379 ms_12 mw_1 mw_380) rfl rfl rfl (by decide +kernel) ⟨Nat.le_of_ble_eq_true rfl, Nat.le_of_ble_eq_true rfl⟩) (gx_preV cx_ok hV hZ hS (q := (mR_X, mT_X, 7)) (by decide) cx_E_X rfl [.int (nI i)]) rfl rfl hl.1 rfl (lv_room (Nat.le_of_ble_eq_true rfl)) dX_moveRequests_11 ⟨Nat.le_of_ble_eq_true rfl, Nat.le_of_ble_eq_true rfl⟩) hV hS (fun r1 σ' τ' H locs hp hV hS => ?_)
        obtain ⟨rfl, hu⟩ := hp
        cases hu
        cases hd : mq_reqD (mq_ftc ρ i) i with
        | none =>
          refine lv_istore_n (lv' := [(3, .int (-1)), (2, .int (nI i)), (1, .int (nI f)), (0, .ref (ad 0))]) hx hb dX_moveRequests_14 rfl hl (by decide) rfl (fun ls hl => ?_)
          refine lv_iload_n hx hb dX_moveRequests_15 rfl (lv_at hl 0 rfl) ?_
          refine lv_iconst (v := -1) hx hb dX_moveRequests_16 (by decide) ?_
          refine lv_icmp_eq (tgt := 28) hx hb dX_moveRequests_17 (by decide) (fun h17 => ?_) (fun h17 => ?_)
          · refine lv_iinc (k := 1) (v := (nI (i + 1))) (lv' := [(2, .int (nI (i + 1))), (3, .int (-1)), (1, .int (nI f)), (0, .ref (ad 0))]) hx hb dX_moveRequests_28 hl rfl (nI_succ i).symm (by decide) rfl (fun ls hl => ?_)
            refine lv_goto (tgt := 4) hx hb dX_moveRequests_31 (by decide) ?_
            exact ih (i + 1) f σ1 pl1 H locs ls (by omega) hf1 (by show mq_fetch (mq_ftc ρ i) i 0 2 = _; rw [rr_reqN hd]; exact hf2) (by show rr_R σ1 τ (mq_fetch (mq_ftc ρ i) i) μ lt pl1; rw [rr_reqN hd]; exact R1) hV hS (lv_sub hl [0, 2, 3] rfl)
          · exact absurd rfl h17
        | some q =>
          obtain ⟨hq3, hl2, id, x, t, hfree, hid, hno, hxt, hxp, hgo⟩ := rr_reqD R1.2.1 (show i < 4 by omega) hd
          have hp3 : (mq_ftc ρ i 11 i + q) % 3 < 3 := by omega
          have ok1 : mq_ok 1 ((mq_ftc ρ i 11 i + q) % 3) := Or.inl ⟨by simp, hp3⟩
          have ok2 : mq_ok 2 (3 + i) := Or.inr ⟨by simp, by omega, by omega⟩
          have hA := R1.1 1 _ ok1 (by omega)
          rw [hxt, show rr_ln 1 ((mq_ftc ρ i 11 i + q) % 3) = 3 + 5 * ((mq_ftc ρ i 11 i + q) % 3) by simp [rr_ln]] at hA
          have hQ := (R1.1 2 (3 + i) ok2 (by omega)).1.1
          rw [show rr_ln 2 (3 + i) = 19 + 6 * i by simp [rr_ln]] at hQ
          have R2 := R1.req (show i < 4 by omega) hp3 hxt hxp hl2 hid hno
          refine lv_istore_n (lv' := [(3, .int (nI ((mq_ftc ρ i 11 i + q) % 3))), (2, .int (nI i)), (1, .int (nI f)), (0, .ref (ad 0))]) hx hb dX_moveRequests_14 rfl hl (by decide) rfl (fun ls hl => ?_)
          refine lv_iload_n hx hb dX_moveRequests_15 rfl (lv_at hl 0 rfl) ?_
          refine lv_iconst (v := -1) hx hb dX_moveRequests_16 (by decide) ?_
          refine lv_icmp_eq (tgt := 28) hx hb dX_moveRequests_17 (by decide) (fun h17 => ?_) (fun h17 => ?_)
          · exact absurd h17 (rr_m1 (by omega))
          · refine lv_aload_n hx hb dX_moveRequests_20 rfl (lv_at hl 3 rfl) ?_
            refine lv_iload_n hx hb dX_moveRequests_21 rfl (lv_at hl 0 rfl) ?_
            refine lv_iload_n hx hb dX_moveRequests_22 rfl (lv_at hl 1 rfl) ?_
            refine gx_callv (va_runV (As := [.int (nI ((mq_ftc ρ i 11 i + q) % 3)), .int (nI i)]) (rest := []) ⟨hx, hb, hml, hown, ht⟩ (k_X_moveRequest l (show i < 4 by omega) hp3 hA.1 hA.2 hQ hl2 ((rr_fr4 R1 (show i < 4 by omega)).trans hfree)) (cwV 2 ht (mx_gV (C := "MessageCrossbar") mw_395 mw_397 ms_13 mw_1 mw_398) rfl rfl rfl (by decide +kernel) ⟨Nat.le_of_ble_eq_true rfl, Nat.le_of_ble_eq_true rfl⟩) (gx_preV cx_ok hV hZ hS (q := (mR_X, mT_X, 7)) (by decide) cx_E_X rfl [.int (nI ((mq_ftc ρ i 11 i + q) % 3)), .int (nI i)]) rfl rfl hl.1 rfl (lv_room (Nat.le_of_ble_eq_true rfl)) dX_moveRequests_23 ⟨Nat.le_of_ble_eq_true rfl, Nat.le_of_ble_eq_true rfl⟩) hV hS (fun σ' τ' H locs hp hV hS => ?_)
            cases hp
            refine lv_iconst (v := nI 1) hx hb dX_moveRequests_26 (by decide) ?_
            refine lv_istore_n (lv' := [(1, .int (nI 1)), (3, .int (nI ((mq_ftc ρ i 11 i + q) % 3))), (2, .int (nI i)), (0, .ref (ad 0))]) hx hb dX_moveRequests_27 rfl hl (by decide) rfl (fun ls hl => ?_)
            refine lv_iinc (k := 2) (v := (nI (i + 1))) (lv' := [(2, .int (nI (i + 1))), (1, .int (nI 1)), (3, .int (nI ((mq_ftc ρ i 11 i + q) % 3))), (0, .ref (ad 0))]) hx hb dX_moveRequests_28 hl rfl (nI_succ i).symm (by decide) rfl (fun ls hl => ?_)
            refine lv_goto (tgt := 4) hx hb dX_moveRequests_31 (by decide) ?_
            exact ih (i + 1) 1 _ _ H locs ls (by omega) (Nat.le_refl 1) (by show mq_fetch (mq_ftc ρ i) i 0 2 = 1; rw [hgo]; exact mq_reqM_sp.2.2.2.2.2.2.2) (by show rr_R _ τ (mq_fetch (mq_ftc ρ i) i) μ lt _; rw [hgo]; exact R2) hV hS (lv_sub hl [0, 1, 3] rfl)
  exact loop 4 0 0 _ _ _ _ ls (by omega) (by omega) rfl hR hV hS hl

theorem mq_mid_eq {ρ ρa ρf : Nat → Nat → Nat} {μ μs : Nat → Int64} {ρs : Nat → Nat → Nat} (ha : mq_ansN (mq_up ρ 0 2 0) 3 = ρa) (hs : mq_srv ρa μ 4 = (ρs, μs)) (hf : mq_ftc ρs 4 = ρf) : mq_mid ρ μ = (ρf, μs) := by
  unfold mq_mid
  rw [ha, hs, hf]
theorem rr_R.flag {σ : Nat → Nat → Int32} {τ : Nat → Nat → Int64} {ρ : Nat → Nat → Nat} {μ : Nat → Int64} {lt : Int64} {pl : Nat → Nat → List Nat} (h : rr_R σ τ ρ μ lt pl) (v : Nat) : rr_R σ τ (mq_up ρ 0 2 v) μ lt pl := h
theorem rr_R.tickEnd {σ : Nat → Nat → Int32} {τ : Nat → Nat → Int64} {ρ : Nat → Nat → Nat} {μ : Nat → Int64} {lt : Int64} {pl : Nat → Nat → List Nat} (h : rr_R σ τ ρ μ lt pl) {a b : Nat} : rr_R (cx_up (cx_up σ 69 0 (σ 69 0 + nI a)) 69 7 (σ 69 7 + nI b)) τ (mq_up (mq_up ρ 16 0 (ρ 16 0 + a)) 16 7 (ρ 16 7 + b)) μ lt pl := by
  obtain ⟨hL, hP, hJ, hM, hO, hG, hB, hT⟩ := h
  refine ⟨(hL.upF (rr_freeB (by omega))).upF (rr_freeB (by omega)), hP, ?_, ?_, ?_, ?_, ?_, hT⟩
  · intro q hq
    rw [cx_up_J (by omega), cx_up_J (by omega)]
    exact hJ q hq
  · exact hM.keep (fun q hq => by rw [cx_up_J (by omega), cx_up_J (by omega)]) (fun _ => Iff.rfl) (fun _ => rfl) (fun _ => rfl)
  · exact hO.keep (fun q hq => by rw [cx_up_J (by omega), cx_up_J (by omega)]) (fun _ _ => Iff.rfl) (fun _ => rfl) (fun _ => rfl)
  · exact hG.keep (fun _ _ z => z) (fun q hq => by rw [cx_up_J (by omega), cx_up_J (by omega)]) (fun _ => rfl) (fun _ => rfl) (fun _ => rfl) (fun _ => rfl) (fun _ _ => rfl) (fun _ _ => rfl)
  · obtain ⟨h1, h2, h3, h4⟩ := hB
    refine ⟨fun q hq => ?_, fun q hq => ?_, fun q hq => ?_, ?_⟩
    · rw [cx_up_J (by omega), cx_up_J (by omega)]
      exact h1 q hq
    · rw [cx_up_J (by omega), cx_up_J (by omega)]
      exact h2 q hq
    · have e0 := h3 0 (by omega)
      have e7 := h3 7 (by omega)
      by_cases q7 : q = 7
      · subst q7
        rw [cx_up_s, mq_up_s, e7, nI_add]
      · rw [cx_up_k q7, mq_up_k q7]
        by_cases q0 : q = 0
        · subst q0
          rw [cx_up_s, mq_up_s, e0, nI_add]
        · rw [cx_up_k q0, mq_up_k q0]
          exact h3 q hq
    · rw [mq_up_k (by omega), mq_up_k (by omega)]
      exact h4
theorem mq_flag3 {a b c : Nat} (ha : a ≤ 1) (hb : b ≤ 1) (hc : c ≤ 1) {x y z : Nat} (h1 : x = if a = 1 then 1 else 0) (h2 : y = if b = 1 then 1 else x) (h3 : z = if c = 1 then 1 else y) : z = if a = 1 ∨ b = 1 ∨ c = 1 then 1 else 0 := by
  subst h1 h2 h3
  by_cases q1 : a = 1 <;> by_cases q2 : b = 1 <;> by_cases q3 : c = 1 <;> simp [q1, q2, q3]

theorem mq_end1 {ρ : Nat → Nat → Nat} (h : ρ 0 2 = 1) : mq_end ρ = mq_up (mq_up ρ 16 0 (ρ 16 0 + 1)) 16 7 (ρ 16 7 + 0) := by
  unfold mq_end mq_inc
  rw [h]
  rfl
theorem mq_end0 {ρ : Nat → Nat → Nat} (h : ρ 0 2 = 0) : mq_end ρ = mq_up (mq_up ρ 16 0 (ρ 16 0 + 1)) 16 7 (ρ 16 7 + 1) := by
  unfold mq_end mq_inc
  rw [h]
  rfl
theorem cx_t0 {σ : Nat → Nat → Int32} {v : Int32} : cx_up (cx_up σ 69 0 v) 69 7 (σ 69 7 + nI 0) = cx_up σ 69 0 v := by
  apply cx_up_same
  rw [cx_up_k (by omega)]
  show σ 69 7 = σ 69 7 + 0
  rw [Int32.add_zero]
theorem mq_ans_01 {ρ : Nat → Nat → Nat} {m : Nat} : mq_answers ρ m 0 1 ≤ ρ 0 1 + 1 := by
  unfold mq_answers
  cases mq_ansD ρ m with
  | none => exact Nat.le_succ _
  | some k => exact Nat.le_of_eq mq_ansM_sp.2.2.2.2.2.1
theorem mq_ansN_01 {ρ : Nat → Nat → Nat} {v : Nat} : ∀ n, mq_ansN (mq_up ρ 0 2 v) n 0 1 ≤ ρ 0 1 + n := by
  intro n
  induction n with
  | zero => exact Nat.le_of_eq (mq_up_k (by omega))
  | succ n ih =>
    show mq_answers (mq_ansN (mq_up ρ 0 2 v) n) n 0 1 ≤ _
    have := mq_ans_01 (ρ := mq_ansN (mq_up ρ 0 2 v) n) (m := n)
    omega

set_option maxHeartbeats 4000000 in
set_option maxRecDepth 100000 in
theorem k_X_runTick (l : Launch) {D : va_G} {K : Nat → ClassId} {ad : Nat → Nat} {σ : Nat → Nat → Int32} {τ : Nat → Nat → Int64} {ρ : Nat → Nat → Nat} {μ : Nat → Int64} {lt : Int64} {pl : Nat → Nat → List Nat} (hR : rr_R σ τ ρ μ lt pl) (hmv : ρ 0 1 + 32 < 2 ^ 31) : Met l yX_runTick (Cond.code yX_runTick prog_1_method_13_code 5 (some .boolean) :: mx_T) { frames := 5, cells := 0, slots := 0, locals := 111 } (va_Pc [.ref (ad 0)] (cx_P D K ad σ τ)) (cx_Qi D K ad (fun rr u => ∃ pl' : Nat → Nat → List Nat, rr = (if (mq_mid ρ μ).1 0 2 = 0 then nI 0 else nI 1) ∧ rr_R u.1 u.2 (mq_tick1 ρ μ).1 (mq_tick1 ρ μ).2 lt pl')) 0 0 (gx_A ad 70) := by
  refine gx_met (by decide) rfl (Nat.le_of_ble_eq_true rfl) ?_
  intro pg ev s mid as below mth c ls hx hb hr hml ht hown hlk hnm hargs hB hl
  obtain ⟨hV, hZ⟩ := hB
  have hS : va_S (gx_A ad 70) s.heap s.heap [] := va_S.rf
  have hl : lv_has ls 5 [(0, .ref (ad 0))] := hl
  refine lv_aload_n hx hb dX_runTick_0 rfl (lv_at hl 0 rfl) ?_
  refine gx_calli (va_runV (As := []) (rest := []) ⟨hx, hb, hml, hown, ht⟩ (k_X_moveAnswers l (hR.flag 0)) (cwV 0 ht (mx_gV (C := "MessageCrossbar") mw_277 mw_279 ms_2 mw_1 mw_280) rfl rfl rfl (by decide +kernel) ⟨Nat.le_of_ble_eq_true rfl, Nat.le_of_ble_eq_true rfl⟩) (gx_preV cx_ok hV hZ hS (q := (mR_X, mT_X, 7)) (by decide) cx_E_X rfl []) rfl rfl hl.1 rfl (lv_room (Nat.le_of_ble_eq_true rfl)) dX_runTick_1 ⟨Nat.le_of_ble_eq_true rfl, Nat.le_of_ble_eq_true rfl⟩) hV hS (fun r1 σ' τ' H locs hp hV hS => ?_)
  obtain ⟨fa, pla, rfl, hfa, hfa2, Ra⟩ := hp
  generalize hga : mq_ansN (mq_up ρ 0 2 0) 3 = ρa at hfa2 Ra
  have hm1 : ρa 0 1 ≤ ρ 0 1 + 3 := by rw [← hga]; exact mq_ansN_01 3
  generalize hσa : σ' = σa at hV Ra
  generalize hτa : τ' = τa at hV Ra
  refine lv_istore_n (lv' := [(1, .int (nI fa)), (0, .ref (ad 0))]) hx hb dX_runTick_4 rfl hl (by decide) rfl (fun ls hl => ?_)
  refine lv_aload_n hx hb dX_runTick_5 rfl (lv_at hl 1 rfl) ?_
  refine gx_calli (va_runV (As := []) (rest := []) ⟨hx, hb, hml, hown, ht⟩ (k_X_servePorts l Ra (by omega)) (cwV 0 ht (mx_gV (C := "MessageCrossbar") mw_312 mw_314 ms_5 mw_1 mw_315) rfl rfl rfl (by decide +kernel) ⟨Nat.le_of_ble_eq_true rfl, Nat.le_of_ble_eq_true rfl⟩) (gx_preV cx_ok hV hZ hS (q := (mR_X, mT_X, 7)) (by decide) cx_E_X rfl []) rfl rfl hl.1 rfl (lv_room (Nat.le_of_ble_eq_true rfl)) dX_runTick_6 ⟨Nat.le_of_ble_eq_true rfl, Nat.le_of_ble_eq_true rfl⟩) hV hS (fun r2 σ' τ' H locs hp hV hS => ?_)
  obtain ⟨fb, plb, rfl, hfb, hfb2, Rb⟩ := hp
  obtain ⟨ρb, μb, hgb⟩ : ∃ x y, mq_srv ρa μ 4 = (x, y) := ⟨_, _, rfl⟩
  rw [hgb] at hfb2 Rb
  generalize hσb : σ' = σb at hV Rb
  generalize hτb : τ' = τb at hV Rb
  refine lv_istore_n (lv' := [(2, .int (nI fb)), (1, .int (nI fa)), (0, .ref (ad 0))]) hx hb dX_runTick_9 rfl hl (by decide) rfl (fun ls hl => ?_)
  refine lv_aload_n hx hb dX_runTick_10 rfl (lv_at hl 2 rfl) ?_
  refine gx_calli (va_runV (As := []) (rest := []) ⟨hx, hb, hml, hown, ht⟩ (k_X_moveRequests l Rb) (cwV 0 ht (mx_gV (C := "MessageCrossbar") mw_373 mw_375 ms_11 mw_1 mw_376) rfl rfl rfl (by decide +kernel) ⟨Nat.le_of_ble_eq_true rfl, Nat.le_of_ble_eq_true rfl⟩) (gx_preV cx_ok hV hZ hS (q := (mR_X, mT_X, 7)) (by decide) cx_E_X rfl []) rfl rfl hl.1 rfl (lv_room (Nat.le_of_ble_eq_true rfl)) dX_runTick_11 ⟨Nat.le_of_ble_eq_true rfl, Nat.le_of_ble_eq_true rfl⟩) hV hS (fun r3 σ' τ' H locs hp hV hS => ?_)
  obtain ⟨fc, plc, rfl, hfc, hfc2, Rc⟩ := hp
  generalize hgc : mq_ftc ρb 4 = ρc at hfc2 Rc
  have hmid := mq_mid_eq (μ := μ) hga hgb hgc
  have hfl := mq_flag3 hfa hfb hfc hfa2 hfb2 hfc2
  generalize hσc : σ' = σc at hV Rc
  generalize hτc : τ' = τc at hV Rc
  refine lv_istore_n (lv' := [(3, .int (nI fc)), (2, .int (nI fb)), (1, .int (nI fa)), (0, .ref (ad 0))]) hx hb dX_runTick_14 rfl hl (by decide) rfl (fun ls hl => ?_)
  refine lv_iload_n hx hb dX_runTick_15 rfl (lv_at hl 2 rfl) ?_
  refine gx_if_ne (a := fa) (tgt := 27) hx hb dX_runTick_16 (by decide) (by omega) (fun h16 => ?_) (fun h16 => ?_)
  · refine lv_iconst (v := nI 1) hx hb dX_runTick_27 (by decide) ?_
    refine lv_goto (tgt := 32) hx hb dX_runTick_28 (by decide) ?_
    have hz : ρc 0 2 = 1 := by rw [hfl]; exact if_pos (by omega)
    refine lv_istore (lv' := [(4, .int (nI 1)), (3, .int (nI fc)), (2, .int (nI fb)), (1, .int (nI fa)), (0, .ref (ad 0))]) hx hb dX_runTick_32 hl (by decide) rfl (fun ls hl => ?_)
    refine lv_aload_n hx hb dX_runTick_34 rfl (lv_at hl 4 rfl) ?_
    refine gx_get (C := mR_X) (T := mT_X) (N' := 7) hx hb ht mh_X hown hV (by decide) cx_E_X rfl 5 (by decide) (ht _ mw_134) (fun _ h => h) rfl dX_runTick_35 ?_
    refine lv_iconst (v := nI 0) hx hb dX_runTick_38 (by decide) ?_
    refine lv_dup2_11 hx hb dX_runTick_39 rfl rfl ?_
    refine gx_iald hx hb hV (by decide) 0 cx_E_Ct rfl 0 (by decide) (by decide) rfl dX_runTick_40 ?_
    refine lv_iconst (v := nI 1) hx hb dX_runTick_41 (by decide) ?_
    refine lv_iadd hx hb dX_runTick_42 ?_
    refine gx_iast cx_loc hx hb hV hS (by decide) 0 cx_E_Ct rfl 0 (by decide) (by decide) rfl dX_runTick_43 (cx_up σc 69 0 ((σc 69 0) + (nI 1))) (by rw [cx_E_Ct, cx_up_upd]) (fun _ h => cx_up_J h) (fun H locs hV hS => ?_)
    refine lv_iload hx hb dX_runTick_44 (lv_at hl 0 rfl) ?_
    refine gx_if_ne (a := 1) (tgt := 60) hx hb dX_runTick_46 (by decide) (by omega) (fun h46 => ?_) (fun h46 => ?_)
    · refine lv_iload hx hb dX_runTick_60 (lv_at hl 0 rfl) ?_
      exact gx_zret hx hb hr rfl hV hS ⟨plc, by rw [hmid]; show nI 1 = if ρc 0 2 = 0 then nI 0 else nI 1; rw [hz]; rfl, by show rr_R _ _ (mq_end (mq_mid ρ μ).1) (mq_mid ρ μ).2 lt plc; rw [hmid]; show rr_R _ _ (mq_end ρc) μb lt plc; rw [mq_end1 hz]; have := Rc.tickEnd (a := 1) (b := 0); rw [cx_t0] at this; exact this⟩ dX_runTick_62 hlk
    · exact absurd h46 (by decide)
  · refine lv_iload_n hx hb dX_runTick_19 rfl (lv_at hl 1 rfl) ?_
    refine gx_if_ne (a := fb) (tgt := 27) hx hb dX_runTick_20 (by decide) (by omega) (fun h20 => ?_) (fun h20 => ?_)
    · refine lv_iconst (v := nI 1) hx hb dX_runTick_27 (by decide) ?_
      refine lv_goto (tgt := 32) hx hb dX_runTick_28 (by decide) ?_
      have hz : ρc 0 2 = 1 := by rw [hfl]; exact if_pos (by omega)
      refine lv_istore (lv' := [(4, .int (nI 1)), (3, .int (nI fc)), (2, .int (nI fb)), (1, .int (nI fa)), (0, .ref (ad 0))]) hx hb dX_runTick_32 hl (by decide) rfl (fun ls hl => ?_)
      refine lv_aload_n hx hb dX_runTick_34 rfl (lv_at hl 4 rfl) ?_
      refine gx_get (C := mR_X) (T := mT_X) (N' := 7) hx hb ht mh_X hown hV (by decide) cx_E_X rfl 5 (by decide) (ht _ mw_134) (fun _ h => h) rfl dX_runTick_35 ?_
      refine lv_iconst (v := nI 0) hx hb dX_runTick_38 (by decide) ?_
      refine lv_dup2_11 hx hb dX_runTick_39 rfl rfl ?_
      refine gx_iald hx hb hV (by decide) 0 cx_E_Ct rfl 0 (by decide) (by decide) rfl dX_runTick_40 ?_
      refine lv_iconst (v := nI 1) hx hb dX_runTick_41 (by decide) ?_
      refine lv_iadd hx hb dX_runTick_42 ?_
      refine gx_iast cx_loc hx hb hV hS (by decide) 0 cx_E_Ct rfl 0 (by decide) (by decide) rfl dX_runTick_43 (cx_up σc 69 0 ((σc 69 0) + (nI 1))) (by rw [cx_E_Ct, cx_up_upd]) (fun _ h => cx_up_J h) (fun H locs hV hS => ?_)
      refine lv_iload hx hb dX_runTick_44 (lv_at hl 0 rfl) ?_
      refine gx_if_ne (a := 1) (tgt := 60) hx hb dX_runTick_46 (by decide) (by omega) (fun h46 => ?_) (fun h46 => ?_)
      · refine lv_iload hx hb dX_runTick_60 (lv_at hl 0 rfl) ?_
        exact gx_zret hx hb hr rfl hV hS ⟨plc, by rw [hmid]; show nI 1 = if ρc 0 2 = 0 then nI 0 else nI 1; rw [hz]; rfl, by show rr_R _ _ (mq_end (mq_mid ρ μ).1) (mq_mid ρ μ).2 lt plc; rw [hmid]; show rr_R _ _ (mq_end ρc) μb lt plc; rw [mq_end1 hz]; have := Rc.tickEnd (a := 1) (b := 0); rw [cx_t0] at this; exact this⟩ dX_runTick_62 hlk
      · exact absurd h46 (by decide)
    · refine lv_iload_n hx hb dX_runTick_23 rfl (lv_at hl 0 rfl) ?_
      refine gx_if_eq (a := fc) (tgt := 31) hx hb dX_runTick_24 (by decide) (by omega) (fun h24 => ?_) (fun h24 => ?_)
      · refine lv_iconst (v := nI 0) hx hb dX_runTick_31 (by decide) ?_
        have hz : ρc 0 2 = 0 := by rw [hfl]; exact if_neg (by omega)
        refine lv_istore (lv' := [(4, .int (nI 0)), (3, .int (nI fc)), (2, .int (nI fb)), (1, .int (nI fa)), (0, .ref (ad 0))]) hx hb dX_runTick_32 hl (by decide) rfl (fun ls hl => ?_)
        refine lv_aload_n hx hb dX_runTick_34 rfl (lv_at hl 4 rfl) ?_
        refine gx_get (C := mR_X) (T := mT_X) (N' := 7) hx hb ht mh_X hown hV (by decide) cx_E_X rfl 5 (by decide) (ht _ mw_134) (fun _ h => h) rfl dX_runTick_35 ?_
        refine lv_iconst (v := nI 0) hx hb dX_runTick_38 (by decide) ?_
        refine lv_dup2_11 hx hb dX_runTick_39 rfl rfl ?_
        refine gx_iald hx hb hV (by decide) 0 cx_E_Ct rfl 0 (by decide) (by decide) rfl dX_runTick_40 ?_
        refine lv_iconst (v := nI 1) hx hb dX_runTick_41 (by decide) ?_
        refine lv_iadd hx hb dX_runTick_42 ?_
        refine gx_iast cx_loc hx hb hV hS (by decide) 0 cx_E_Ct rfl 0 (by decide) (by decide) rfl dX_runTick_43 (cx_up σc 69 0 ((σc 69 0) + (nI 1))) (by rw [cx_E_Ct, cx_up_upd]) (fun _ h => cx_up_J h) (fun H locs hV hS => ?_)
        refine lv_iload hx hb dX_runTick_44 (lv_at hl 0 rfl) ?_
        refine gx_if_ne (a := 0) (tgt := 60) hx hb dX_runTick_46 (by decide) (by omega) (fun h46 => ?_) (fun h46 => ?_)
        · exact absurd h46 (by decide)
        · refine lv_aload_n hx hb dX_runTick_49 rfl (lv_at hl 4 rfl) ?_
          refine gx_get (C := mR_X) (T := mT_X) (N' := 7) hx hb ht mh_X hown hV (by decide) cx_E_X rfl 5 (by decide) (ht _ mw_134) (fun _ h => h) rfl dX_runTick_50 ?_
          refine lv_bipush (v := nI 7) hx hb dX_runTick_53 (by decide) ?_
          refine lv_dup2_11 hx hb dX_runTick_55 rfl rfl ?_
          refine gx_ialdv (v := σc 69 7) hx hb hV (by decide) 0 cx_E_Ct rfl 7 (by decide) (by decide) rfl (cx_up_k (by decide)) dX_runTick_56 ?_
          refine lv_iconst (v := nI 1) hx hb dX_runTick_57 (by decide) ?_
          refine lv_iadd hx hb dX_runTick_58 ?_
          refine gx_iast cx_loc hx hb hV hS (by decide) 0 cx_E_Ct rfl 7 (by decide) (by decide) rfl dX_runTick_59 (cx_up (cx_up σc 69 0 ((σc 69 0) + (nI 1))) 69 7 (σc 69 7 + (nI 1))) (by rw [cx_E_Ct, cx_up_upd]) (fun _ h => cx_up_J h) (fun H locs hV hS => ?_)
          refine lv_iload hx hb dX_runTick_60 (lv_at hl 0 rfl) ?_
          exact gx_zret hx hb hr rfl hV hS ⟨plc, by rw [hmid]; show nI 0 = if ρc 0 2 = 0 then nI 0 else nI 1; rw [hz]; rfl, by show rr_R _ _ (mq_end (mq_mid ρ μ).1) (mq_mid ρ μ).2 lt plc; rw [hmid]; show rr_R _ _ (mq_end ρc) μb lt plc; rw [mq_end0 hz]; exact Rc.tickEnd (a := 1) (b := 1)⟩ dX_runTick_62 hlk
      · refine lv_iconst (v := nI 1) hx hb dX_runTick_27 (by decide) ?_
        refine lv_goto (tgt := 32) hx hb dX_runTick_28 (by decide) ?_
        have hz : ρc 0 2 = 1 := by rw [hfl]; exact if_pos (by omega)
        refine lv_istore (lv' := [(4, .int (nI 1)), (3, .int (nI fc)), (2, .int (nI fb)), (1, .int (nI fa)), (0, .ref (ad 0))]) hx hb dX_runTick_32 hl (by decide) rfl (fun ls hl => ?_)
        refine lv_aload_n hx hb dX_runTick_34 rfl (lv_at hl 4 rfl) ?_
        refine gx_get (C := mR_X) (T := mT_X) (N' := 7) hx hb ht mh_X hown hV (by decide) cx_E_X rfl 5 (by decide) (ht _ mw_134) (fun _ h => h) rfl dX_runTick_35 ?_
        refine lv_iconst (v := nI 0) hx hb dX_runTick_38 (by decide) ?_
        refine lv_dup2_11 hx hb dX_runTick_39 rfl rfl ?_
        refine gx_iald hx hb hV (by decide) 0 cx_E_Ct rfl 0 (by decide) (by decide) rfl dX_runTick_40 ?_
        refine lv_iconst (v := nI 1) hx hb dX_runTick_41 (by decide) ?_
        refine lv_iadd hx hb dX_runTick_42 ?_
        refine gx_iast cx_loc hx hb hV hS (by decide) 0 cx_E_Ct rfl 0 (by decide) (by decide) rfl dX_runTick_43 (cx_up σc 69 0 ((σc 69 0) + (nI 1))) (by rw [cx_E_Ct, cx_up_upd]) (fun _ h => cx_up_J h) (fun H locs hV hS => ?_)
        refine lv_iload hx hb dX_runTick_44 (lv_at hl 0 rfl) ?_
        refine gx_if_ne (a := 1) (tgt := 60) hx hb dX_runTick_46 (by decide) (by omega) (fun h46 => ?_) (fun h46 => ?_)
        · refine lv_iload hx hb dX_runTick_60 (lv_at hl 0 rfl) ?_
          exact gx_zret hx hb hr rfl hV hS ⟨plc, by rw [hmid]; show nI 1 = if ρc 0 2 = 0 then nI 0 else nI 1; rw [hz]; rfl, by show rr_R _ _ (mq_end (mq_mid ρ μ).1) (mq_mid ρ μ).2 lt plc; rw [hmid]; show rr_R _ _ (mq_end ρc) μb lt plc; rw [mq_end1 hz]; have := Rc.tickEnd (a := 1) (b := 0); rw [cx_t0] at this; exact this⟩ dX_runTick_62 hlk
        · exact absurd h46 (by decide)
