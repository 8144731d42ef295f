/-! the crossbar's own methods: answers -/
theorem rr_firstI {σ : Nat → Nat → Int32} {ρ : Nat → Nat → Nat} {pl : Nat → Nat → List Nat} (hL : rr_L σ pl) (hP : mq_Pl ρ pl) {w g : Nat} (hk : mq_ok w g) (hw : w ≠ 3) : (if (pl w g).length = 0 then -1 else σ (rr_ln w g + 1) 0) = mq_oI (mq_first ρ w g) := by
  rw [hP.first hk]
  have h := (hL w g hk hw).1
  cases hh : pl w g with
  | nil => rfl
  | cons x t =>
    rw [hh] at h
    rw [if_neg (by simp), h.first]
    rfl
theorem rr_first_lt {ρ : Nat → Nat → Nat} {pl : Nat → Nat → List Nat} (hP : mq_Pl ρ pl) {w g x : Nat} (hk : mq_ok w g) (h : mq_first ρ w g = some x) : x < 24 := by
  obtain ⟨t, ht⟩ := mq_first_of hP hk h
  exact (hP.mem hk (x := x) (by rw [ht]; simp)).1
theorem cx_m8 {x : Nat} (hx : x < 24) : nI x >>> (nI 3 &&& 31) = nI (x / 8) := pk_shrN (by omega) (nI 3 &&& 31) 3 (by decide)

set_option maxHeartbeats 4000000 in
set_option maxRecDepth 100000 in
theorem k_X_anyJobRuns (l : Launch) {D : va_G} {K : Nat → ClassId} {ad : Nat → Nat} {σ : Nat → Nat → Int32} {τ : Nat → Nat → Int64} {tl : Nat → Nat} (htl : ∀ q, q < 4 → σ (18 + 6 * q) 4 = nI (tl q) ∧ tl q < 16) : Met l yX_anyJobRuns (Cond.code yX_anyJobRuns prog_1_method_14_code 2 (some .boolean) :: mx_T) { frames := 0, cells := 0, slots := 0, locals := 0 } (va_Pc [.ref (ad 0)] (cx_P D K ad σ τ)) (cx_Qi D K ad (fun rr u => rr = (if (mq_fnd (fun q => decide (0 < tl q)) 0 4).isSome = true then nI 1 else nI 0) ∧ u = (σ, τ))) 0 0 (gx_A ad 70) := by
  refine gx_met (by decide) rfl (Nat.le_of_ble_eq_true rfl) ?_
  intro pg ev s mid as below mth c ls hx hb hr hml ht hown hlk hnm hargs hB hl
  obtain ⟨hV, hZ⟩ := hB
  have hS : va_S (gx_A ad 70) s.heap s.heap [] := va_S.rf
  have hl : lv_has ls 2 [(0, .ref (ad 0))] := hl
  refine lv_iconst (v := nI 0) hx hb dX_anyJobRuns_0 (by decide) ?_
  refine lv_istore_n (lv' := [(1, .int (nI 0)), (0, .ref (ad 0))]) hx hb dX_anyJobRuns_1 rfl hl (by decide) rfl (fun ls hl => ?_)
  have loop : ∀ (k : Nat) (i : Nat) (H : Heap) (locs : List Loc) (ls : Array Slot), i + k = 4 → mq_fnd (fun q => decide (0 < tl q)) 0 4 = mq_fnd (fun q => decide (0 < tl q)) i k → gx_V D mx_cl (mx_tys K) (cx_E ad K) ad 70 (σ) (τ) s H → va_S (gx_A ad 70) s.heap H locs → lv_has ls 2 [(1, .int (nI i)), (0, .ref (ad 0))] → W pg l ev (headSpec (Cond.code yX_anyJobRuns prog_1_method_14_code 2 (some .boolean) :: mx_T) { frames := 0, cells := 0, slots := 0, locals := 0 }).room s mid as below mth c H locs 0 0 (MQ below (cx_Qi D K ad (fun rr u => rr = (if (mq_fnd (fun q => decide (0 < tl q)) 0 4).isSome = true then nI 1 else nI 0) ∧ u = (σ, τ))) as s 0 0 (gx_A ad 70)) (F0 mid 2 ls []) := by
    intro k
    induction k with
    | zero =>
      intro i H locs ls hk hf hV hS hl
      refine lv_iload_n hx hb dX_anyJobRuns_2 rfl (lv_at hl 0 rfl) ?_
      refine lv_iconst (v := nI 4) hx hb dX_anyJobRuns_3 (by decide) ?_
      refine gx_icmp_ge (a := i) (b := 4) (tgt := 27) hx hb dX_anyJobRuns_4 (by decide) (by omega) (by omega) (fun h4 => ?_) (fun h4 => ?_)
      · refine lv_iconst (v := nI 0) hx hb dX_anyJobRuns_27 (by decide) ?_
        exact gx_zret hx hb hr rfl hV hS ⟨by rw [hf]; rfl, rfl⟩ dX_anyJobRuns_28 hlk
      · exact absurd h4 (by omega)
    | succ k ih =>
      intro i H locs ls hk hf hV hS hl
      refine lv_iload_n hx hb dX_anyJobRuns_2 rfl (lv_at hl 0 rfl) ?_
      refine lv_iconst (v := nI 4) hx hb dX_anyJobRuns_3 (by decide) ?_
      refine gx_icmp_ge (a := i) (b := 4) (tgt := 27) hx hb dX_anyJobRuns_4 (by decide) (by omega) (by omega) (fun h4 => ?_) (fun h4 => ?_)
      · exact absurd h4 (by omega)
      · refine lv_aload_n hx hb dX_anyJobRuns_7 rfl (lv_at hl 1 rfl) ?_
        refine gx_get (C := mR_X) (T := mT_X) (N' := 7) hx hb ht mh_X hown hV (by decide) cx_E_X rfl 1 (by decide) (ht _ mw_130) (fun _ h => h) rfl dX_anyJobRuns_8 ?_
        refine lv_iload_n hx hb dX_anyJobRuns_11 rfl (lv_at hl 0 rfl) ?_
        refine gx_aald hx hb hV (by decide) 5 cx_E_Ps rfl i (by omega) (by decide) rfl rfl dX_anyJobRuns_12 ?_
        refine gx_get (C := mR_P) (T := mT_P) (N' := 7) (v := .int (nI (tl i))) hx hb ht mh_P hown hV (show 18 + 6 * i < 70 by omega) (cx_E_P (by omega)) rfl 4 (by decide) (ht _ mw_83) (fun _ h => h) (congrArg (fun z => some (Value.int z)) (htl i (by omega)).1) dX_anyJobRuns_13 ?_
        refine gx_if_le (a := (tl i)) (tgt := 21) hx hb dX_anyJobRuns_16 (by decide) (by have := (htl i (by omega)).2; omega) (fun h16 => ?_) (fun h16 => ?_)
        · refine lv_iinc (k := 0) (v := (nI (i + 1))) (lv' := [(1, .int (nI (i + 1))), (0, .ref (ad 0))]) hx hb dX_anyJobRuns_21 hl rfl (nI_succ i).symm (by decide) rfl (fun ls hl => ?_)
          refine lv_goto (tgt := 2) hx hb dX_anyJobRuns_24 (by decide) ?_
          exact ih (i + 1) H locs ls (by omega) (by rw [hf, mq_fnd_f (by simpa using h16)]) hV hS hl
        · refine lv_iconst (v := nI 1) hx hb dX_anyJobRuns_19 (by decide) ?_
          exact gx_zret hx hb hr rfl hV hS ⟨by rw [hf, mq_fnd_t (by simpa using h16)]; rfl, rfl⟩ dX_anyJobRuns_20 hlk
  exact loop 4 0 _ _ ls (by omega) rfl hV hS hl

set_option maxHeartbeats 4000000 in
set_option maxRecDepth 100000 in
theorem k_X_countStillTicks (l : Launch) {D : va_G} {K : Nat → ClassId} {ad : Nat → Nat} {σ : Nat → Nat → Int32} {τ : Nat → Nat → Int64} {n : Int32} : Met l yX_countStillTicks (Cond.code yX_countStillTicks prog_1_method_15_code 2 none :: mx_T) { frames := 0, cells := 0, slots := 0, locals := 0 } (va_Pc [.ref (ad 0), .int n] (cx_P D K ad σ τ)) (cx_Qv D K ad (fun u => u = (cx_up (cx_up σ 69 0 (σ 69 0 + n)) 69 7 (σ 69 7 + n), τ))) 0 0 (gx_A ad 70) := by
  refine gx_met (by decide) rfl (Nat.le_of_ble_eq_true rfl) ?_
  intro pg ev s mid as below mth c ls hx hb hr hml ht hown hlk hnm hargs hB hl
  obtain ⟨hV, hZ⟩ := hB
  have hS : va_S (gx_A ad 70) s.heap s.heap [] := va_S.rf
  have hl : lv_has ls 2 [(0, .ref (ad 0)), (1, .int n)] := hl
  refine lv_aload_n hx hb dX_countStillTicks_0 rfl (lv_at hl 0 rfl) ?_
  refine gx_get (C := mR_X) (T := mT_X) (N' := 7) hx hb ht mh_X hown hV (by decide) cx_E_X rfl 5 (by decide) (ht _ mw_134) (fun _ h => h) rfl dX_countStillTicks_1 ?_
  refine lv_iconst (v := nI 0) hx hb dX_countStillTicks_4 (by decide) ?_
  refine lv_dup2_11 hx hb dX_countStillTicks_5 rfl rfl ?_
  refine gx_iald hx hb hV (by decide) 0 cx_E_Ct rfl 0 (by decide) (by decide) rfl dX_countStillTicks_6 ?_
  refine lv_iload_n hx hb dX_countStillTicks_7 rfl (lv_at hl 1 rfl) ?_
  refine lv_iadd hx hb dX_countStillTicks_8 ?_
  refine gx_iast cx_loc hx hb hV hS (by decide) 0 cx_E_Ct rfl 0 (by decide) (by decide) rfl dX_countStillTicks_9 (cx_up σ 69 0 ((σ 69 0) + n)) (by rw [cx_E_Ct, cx_up_upd]) (fun _ h => cx_up_J h) (fun H locs hV hS => ?_)
  refine lv_aload_n hx hb dX_countStillTicks_10 rfl (lv_at hl 0 rfl) ?_
  refine gx_get (C := mR_X) (T := mT_X) (N' := 7) hx hb ht mh_X hown hV (by decide) cx_E_X rfl 5 (by decide) (ht _ mw_134) (fun _ h => h) rfl dX_countStillTicks_11 ?_
  refine lv_bipush (v := nI 7) hx hb dX_countStillTicks_14 (by decide) ?_
  refine lv_dup2_11 hx hb dX_countStillTicks_16 rfl rfl ?_
  refine gx_ialdv (v := σ 69 7) hx hb hV (by decide) 0 cx_E_Ct rfl 7 (by decide) (by decide) rfl (cx_up_k (by decide)) dX_countStillTicks_17 ?_
  refine lv_iload_n hx hb dX_countStillTicks_18 rfl (lv_at hl 1 rfl) ?_
  refine lv_iadd hx hb dX_countStillTicks_19 ?_
  refine gx_iast cx_loc hx hb hV hS (by decide) 0 cx_E_Ct rfl 7 (by decide) (by decide) rfl dX_countStillTicks_20 (cx_up (cx_up σ 69 0 ((σ 69 0) + n)) 69 7 (σ 69 7 + n)) (by rw [cx_E_Ct, cx_up_upd]) (fun _ h => cx_up_J h) (fun H locs hV hS => ?_)
  exact gx_vret hx hb hr hV hS rfl dX_countStillTicks_21 hlk

set_option maxHeartbeats 4000000 in
set_option maxRecDepth 100000 in
theorem k_X_nextAnsweringPort (l : Launch) {D : va_G} {K : Nat → ClassId} {ad : Nat → Nat} {σ : Nat → Nat → Int32} {τ : Nat → Nat → Int64} {m : Nat} (hm : m < 3) {ρ : Nat → Nat → Nat} {μ : Nat → Int64} {lt : Int64} {pl : Nat → Nat → List Nat} (hR : rr_R σ τ ρ μ lt pl) : Met l yX_nextAnsweringPort (Cond.code yX_nextAnsweringPort prog_1_method_17_code 5 (some .int) :: mx_T) { frames := 2, cells := 0, slots := 0, locals := 40 } (va_Pc [.ref (ad 0), .int (nI m)] (cx_P D K ad σ τ)) (cx_Qi D K ad (fun rr u => rr = mq_oI ((mq_ansD ρ m).map (fun k => (ρ 10 m + k) % 4)) ∧ u = (σ, τ))) 0 0 (gx_A ad 70) := by
  refine gx_met (by decide) rfl (Nat.le_of_ble_eq_true rfl) ?_
  intro pg ev s mid as below mth c ls hx hb hr hml ht hown hlk hnm hargs hB hl
  obtain ⟨hV, hZ⟩ := hB
  have hS : va_S (gx_A ad 70) s.heap s.heap [] := va_S.rf
  have hl : lv_has ls 5 [(0, .ref (ad 0)), (1, .int (nI m))] := hl
  obtain ⟨hL, hP, hJ, hM, hO, hG, hBB, hT⟩ := hR
  obtain ⟨⟨lp, hlp, hlp1, hlp2⟩, ⟨h9a, h9b⟩, -⟩ := hM m hm
  have ok5 : mq_ok 5 m := Or.inl ⟨by simp, hm⟩
  have hbx := hL 5 m ok5 (by omega)
  rw [show rr_ln 5 m = 5 + 5 * m by simp [rr_ln], show rr_room 5 = 4 from rfl] at hbx
  refine lv_aload_n hx hb dX_nextAnsweringPort_0 rfl (lv_at hl 0 rfl) ?_
  refine gx_get (C := mR_X) (T := mT_X) (N' := 7) hx hb ht mh_X hown hV (by decide) cx_E_X rfl 0 (by decide) (ht _ mw_129) (fun _ h => h) rfl dX_nextAnsweringPort_1 ?_
  refine lv_iload_n hx hb dX_nextAnsweringPort_4 rfl (lv_at hl 1 rfl) ?_
  refine gx_aald hx hb hV (by decide) 4 cx_E_Ms rfl m hm (by decide) rfl rfl dX_nextAnsweringPort_5 ?_
  refine gx_calli (va_runV (As := []) (rest := []) ⟨hx, hb, hml, hown, ht⟩ (k_M_hasRoomForAnswer l hm (ac := 1 - ρ 9 m) (n := (pl 5 m).length) h9b (by omega) hbx.1.1 hbx.2) (cwV 0 ht (mx_gV (C := "MessageCrossbar$Master") mw_285 mw_286 mw_287 mw_2 mw_288) rfl rfl rfl (by decide +kernel) ⟨Nat.le_of_ble_eq_true rfl, Nat.le_of_ble_eq_true rfl⟩) (gx_preV cx_ok hV hZ hS (q := (mR_M, mT_M, 5)) (show 2 + 5 * m < 70 by omega) (cx_E_M hm) rfl []) rfl rfl hl.1 rfl (lv_room (Nat.le_of_ble_eq_true rfl)) dX_nextAnsweringPort_6 ⟨Nat.le_of_ble_eq_true rfl, Nat.le_of_ble_eq_true rfl⟩) hV hS (fun r1 σ' τ' H locs hp hV hS => ?_)
  obtain ⟨rfl, hu⟩ := hp
  cases hu
  refine gx_ifb_ne (q := 1 - ρ 9 m ≠ 0 ∧ (pl 5 m).length < 4) (tgt := 14) hx hb dX_nextAnsweringPort_9 (by decide) (fun h9 => ?_) (fun h9 => ?_)
  · refine lv_iconst (v := nI 1) hx hb dX_nextAnsweringPort_14 (by decide) ?_
    refine lv_istore_n (lv' := [(2, .int (nI 1)), (0, .ref (ad 0)), (1, .int (nI m))]) hx hb dX_nextAnsweringPort_15 rfl hl (by decide) rfl (fun ls hl => ?_)
    have loop : ∀ (k : Nat) (i : Nat) (H : Heap) (locs : List Loc) (ls : Array Slot), i + k = 4 → mq_fnd (mq_ansK ρ m) 0 4 = mq_fnd (mq_ansK ρ m) i k → gx_V D mx_cl (mx_tys K) (cx_E ad K) ad 70 (σ) (τ) s H → va_S (gx_A ad 70) s.heap H locs → lv_has ls 5 [(2, .int (nI (i + 1))), (0, .ref (ad 0)), (1, .int (nI m))] → W pg l ev (headSpec (Cond.code yX_nextAnsweringPort prog_1_method_17_code 5 (some .int) :: mx_T) { frames := 2, cells := 0, slots := 0, locals := 40 }).room s mid as below mth c H locs 0 0 (MQ below (cx_Qi D K ad (fun rr u => rr = mq_oI ((mq_ansD ρ m).map (fun k => (ρ 10 m + k) % 4)) ∧ u = (σ, τ))) as s 0 0 (gx_A ad 70)) (F0 mid 16 ls []) := by
      intro k
      induction k with
      | zero =>
        intro i H locs ls hk hf hV hS hl
        refine lv_iload_n hx hb dX_nextAnsweringPort_16 rfl (lv_at hl 0 rfl) ?_
        refine lv_iconst (v := nI 4) hx hb dX_nextAnsweringPort_17 (by decide) ?_
        refine gx_icmp_gt (a := (i + 1)) (b := 4) (tgt := 73) hx hb dX_nextAnsweringPort_18 (by decide) (by omega) (by omega) (fun h18 => ?_) (fun h18 => ?_)
        · refine lv_iconst (v := -1) hx hb dX_nextAnsweringPort_73 (by decide) ?_
          exact gx_iret hx hb hr hV hS ⟨by rw [show mq_ansD ρ m = none from (if_neg (by rw [hP.many ok5]; omega)).trans hf]; rfl, rfl⟩ dX_nextAnsweringPort_74 hlk
        · exact absurd h18 (by omega)
      | succ k ih =>
        intro i H locs ls hk hf hV hS hl
        refine lv_iload_n hx hb dX_nextAnsweringPort_16 rfl (lv_at hl 0 rfl) ?_
        refine lv_iconst (v := nI 4) hx hb dX_nextAnsweringPort_17 (by decide) ?_
        refine gx_icmp_gt (a := (i + 1)) (b := 4) (tgt := 73) hx hb dX_nextAnsweringPort_18 (by decide) (by omega) (by omega) (fun h18 => ?_) (fun h18 => ?_)
        · exact absurd h18 (by omega)
        · refine lv_aload_n hx hb dX_nextAnsweringPort_21 rfl (lv_at hl 1 rfl) ?_
          refine gx_get (C := mR_X) (T := mT_X) (N' := 7) hx hb ht mh_X hown hV (by decide) cx_E_X rfl 0 (by decide) (ht _ mw_129) (fun _ h => h) rfl dX_nextAnsweringPort_22 ?_
          refine lv_iload_n hx hb dX_nextAnsweringPort_25 rfl (lv_at hl 2 rfl) ?_
          refine gx_aald hx hb hV (by decide) 4 cx_E_Ms rfl m hm (by decide) rfl rfl dX_nextAnsweringPort_26 ?_
          refine gx_get (C := mR_M) (T := mT_M) (N' := 5) (v := .int (nI lp)) hx hb ht mh_M hown hV (show 2 + 5 * m < 70 by omega) (cx_E_M hm) rfl 4 (by decide) (ht _ mw_53) (fun _ h => h) (congrArg (fun z => some (Value.int z)) hlp1) dX_nextAnsweringPort_27 ?_
          refine lv_iload_n hx hb dX_nextAnsweringPort_30 rfl (lv_at hl 0 rfl) ?_
          refine lv_iconst (v := nI 4) hx hb dX_nextAnsweringPort_31 (by decide) ?_
          refine gx_callp (va_runS (As := [.int (nI lp), .int (nI (i + 1)), .int (nI 4)]) (rest := []) ⟨hx, hb, hml, hown, ht⟩ (k_X_stepBehind l (a := lp) (b := i + 1) (n := 4) (by omega) (by omega) (by omega)) (cwS 3 ht (mx_gS mw_290 mw_291 mw_1 mw_292) rfl rfl rfl (by decide +kernel) ⟨Nat.le_of_ble_eq_true rfl, Nat.le_of_ble_eq_true rfl⟩) (gx_preP [.int (nI lp), .int (nI (i + 1)), .int (nI 4)]) rfl rfl hl.1 rfl (lv_room (Nat.le_of_ble_eq_true rfl)) dX_nextAnsweringPort_32 ⟨Nat.le_of_ble_eq_true rfl, Nat.le_of_ble_eq_true rfl⟩) hV hS (fun r2 H locs hp hV hS => ?_)
          rw [show (if 4 ≤ lp + (i + 1) then lp + (i + 1) - 4 else lp + (i + 1)) = (ρ 10 m + i) % 4 by split <;> omega] at hp
          subst hp
          have hq4 : (ρ 10 m + i) % 4 < 4 := by omega
          have okq : mq_ok 4 (3 + (ρ 10 m + i) % 4) := Or.inr ⟨by simp, by omega, by omega⟩
          have hlq := hL 4 _ okq (by omega)
          have hfq := rr_firstI hL hP okq (by omega)
          rw [show rr_ln 4 (3 + (ρ 10 m + i) % 4) = 21 + 6 * ((ρ 10 m + i) % 4) by simp [rr_ln]] at hlq hfq
          refine lv_istore_n (lv' := [(3, .int (nI ((ρ 10 m + i) % 4))), (2, .int (nI (i + 1))), (0, .ref (ad 0)), (1, .int (nI m))]) hx hb dX_nextAnsweringPort_35 rfl hl (by decide) rfl (fun ls hl => ?_)
          refine lv_aload_n hx hb dX_nextAnsweringPort_36 rfl (lv_at hl 2 rfl) ?_
          refine gx_get (C := mR_X) (T := mT_X) (N' := 7) hx hb ht mh_X hown hV (by decide) cx_E_X rfl 1 (by decide) (ht _ mw_130) (fun _ h => h) rfl dX_nextAnsweringPort_37 ?_
          refine lv_iload_n hx hb dX_nextAnsweringPort_40 rfl (lv_at hl 0 rfl) ?_
          refine gx_aald hx hb hV (by decide) 5 cx_E_Ps rfl ((ρ 10 m + i) % 4) hq4 (by decide) rfl rfl dX_nextAnsweringPort_41 ?_
          refine gx_get (C := mR_P) (T := mT_P) (N' := 7) hx hb ht mh_P hown hV (show 18 + 6 * ((ρ 10 m + i) % 4) < 70 by omega) (cx_E_P hq4) rfl 1 (by decide) (ht _ mw_77) (fun _ h => h) rfl dX_nextAnsweringPort_42 ?_
          refine gx_calli (va_runV (As := []) (rest := []) ⟨hx, hb, hml, hown, ht⟩ (k_L_first l (cx_isL_A hq4) hlq.1.1 hlq.2) (cwV 0 ht (mx_gV (C := "MessageCrossbar$Line") mw_293 mw_294 mw_295 mw_3 mw_296) rfl rfl rfl (by decide +kernel) ⟨Nat.le_of_ble_eq_true rfl, Nat.le_of_ble_eq_true rfl⟩) (gx_preV cx_ok hV hZ hS (q := (mR_L, mT_L, 2)) ((cx_isL_A hq4)).lt.1 (cx_E_L (cx_isL_A hq4)).1 rfl []) rfl rfl hl.1 rfl (lv_room (Nat.le_of_ble_eq_true rfl)) dX_nextAnsweringPort_45 ⟨Nat.le_of_ble_eq_true rfl, Nat.le_of_ble_eq_true rfl⟩) hV hS (fun r3 σ' τ' H locs hp hV hS => ?_)
          obtain ⟨hp, hu⟩ := hp
          cases hu
          rw [hfq] at hp
          subst hp
          cases hq : mq_first ρ 4 (3 + (ρ 10 m + i) % 4) with
          | none =>
            refine lv_istore (lv' := [(4, .int (-1)), (3, .int (nI ((ρ 10 m + i) % 4))), (2, .int (nI (i + 1))), (0, .ref (ad 0)), (1, .int (nI m))]) hx hb dX_nextAnsweringPort_48 hl (by decide) rfl (fun ls hl => ?_)
            refine lv_iload hx hb dX_nextAnsweringPort_50 (lv_at hl 0 rfl) ?_
            refine lv_iconst (v := -1) hx hb dX_nextAnsweringPort_52 (by decide) ?_
            refine lv_icmp_eq (tgt := 67) hx hb dX_nextAnsweringPort_53 (by decide) (fun h53 => ?_) (fun h53 => ?_)
            · refine lv_iinc (k := 2) (v := (nI ((i + 1) + 1))) (lv' := [(2, .int (nI ((i + 1) + 1))), (4, .int (-1)), (3, .int (nI ((ρ 10 m + i) % 4))), (0, .ref (ad 0)), (1, .int (nI m))]) hx hb dX_nextAnsweringPort_67 hl rfl (nI_succ (i + 1)).symm (by decide) rfl (fun ls hl => ?_)
              refine lv_goto (tgt := 16) hx hb dX_nextAnsweringPort_70 (by decide) ?_
              exact ih (i + 1) H locs ls (by omega) (by rw [hf, mq_fnd_f (by simp [mq_ansK, hq])]) hV hS (lv_sub hl [0, 3, 4] rfl)
            · exact absurd rfl h53
          | some x =>
            have hx24 := rr_first_lt hP okq hq
            refine lv_istore (lv' := [(4, .int (nI x)), (3, .int (nI ((ρ 10 m + i) % 4))), (2, .int (nI (i + 1))), (0, .ref (ad 0)), (1, .int (nI m))]) hx hb dX_nextAnsweringPort_48 hl (by decide) rfl (fun ls hl => ?_)
            refine lv_iload hx hb dX_nextAnsweringPort_50 (lv_at hl 0 rfl) ?_
            refine lv_iconst (v := -1) hx hb dX_nextAnsweringPort_52 (by decide) ?_
            refine lv_icmp_eq (tgt := 67) hx hb dX_nextAnsweringPort_53 (by decide) (fun h53 => ?_) (fun h53 => ?_)
            · exact absurd h53 (rr_m1 hx24)
            · refine lv_iload hx hb dX_nextAnsweringPort_56 (lv_at hl 0 rfl) ?_
              refine gx_callp (va_runS (As := [.int (nI x)]) (rest := []) ⟨hx, hb, hml, hown, ht⟩ (k_X_masterOf l) (cwS 1 ht (mx_gS mw_297 mw_298 mw_1 mw_299) rfl rfl rfl (by decide +kernel) ⟨Nat.le_of_ble_eq_true rfl, Nat.le_of_ble_eq_true rfl⟩) (gx_preP [.int (nI x)]) rfl rfl hl.1 rfl (lv_room (Nat.le_of_ble_eq_true rfl)) dX_nextAnsweringPort_58 ⟨Nat.le_of_ble_eq_true rfl, Nat.le_of_ble_eq_true rfl⟩) hV hS (fun r4 H locs hp hV hS => ?_)
              rw [cx_m8 hx24] at hp
              subst hp
              refine lv_iload_n hx hb dX_nextAnsweringPort_61 rfl (lv_at hl 4 rfl) ?_
              refine gx_icmp_ne (a := (x / 8)) (b := m) (tgt := 67) hx hb dX_nextAnsweringPort_62 (by decide) (by omega) (by omega) (fun h62 => ?_) (fun h62 => ?_)
              · refine lv_iinc (k := 2) (v := (nI ((i + 1) + 1))) (lv' := [(2, .int (nI ((i + 1) + 1))), (4, .int (nI x)), (3, .int (nI ((ρ 10 m + i) % 4))), (0, .ref (ad 0)), (1, .int (nI m))]) hx hb dX_nextAnsweringPort_67 hl rfl (nI_succ (i + 1)).symm (by decide) rfl (fun ls hl => ?_)
                refine lv_goto (tgt := 16) hx hb dX_nextAnsweringPort_70 (by decide) ?_
                exact ih (i + 1) H locs ls (by omega) (by rw [hf, mq_fnd_f (by simp [mq_ansK, hq, h62])]) hV hS (lv_sub hl [0, 3, 4] rfl)
              · refine lv_iload_n hx hb dX_nextAnsweringPort_65 rfl (lv_at hl 1 rfl) ?_
                exact gx_iret hx hb hr hV hS ⟨by rw [show mq_ansD ρ m = some i from (if_neg (by rw [hP.many ok5]; omega)).trans (hf.trans (mq_fnd_t (by simp [mq_ansK, hq, h62])))]; rfl, rfl⟩ dX_nextAnsweringPort_66 hlk
    exact loop 4 0 _ _ ls (by omega) rfl hV hS hl
  · refine lv_iconst (v := -1) hx hb dX_nextAnsweringPort_12 (by decide) ?_
    exact gx_iret hx hb hr hV hS ⟨by rw [show mq_ansD ρ m = none from if_pos (by rw [hP.many ok5]; omega)]; rfl, rfl⟩ dX_nextAnsweringPort_13 hlk

set_option maxHeartbeats 4000000 in
set_option maxRecDepth 100000 in
theorem k_X_moveAnswer (l : Launch) {D : va_G} {K : Nat → ClassId} {ad : Nat → Nat} {σ : Nat → Nat → Int32} {τ : Nat → Nat → Int64} {p m x nb : Nat} {t : List Nat} (hp0 : p < 4) (hm : m < 3) (hA : cx_ln σ (21 + 6 * p) (x :: t)) (hl2 : t.length + 1 ≤ 2) (hbx : σ (5 + 5 * m) 1 = nI nb) (hnb : nb < 4) : Met l yX_moveAnswer (Cond.code yX_moveAnswer prog_1_method_18_code 4 none :: mx_T) { frames := 1, cells := 0, slots := 0, locals := 22 } (va_Pc [.ref (ad 0), .int (nI p), .int (nI m)] (cx_P D K ad σ τ)) (cx_Qv D K ad (fun u => u = (cx_mva σ p m t.length nb x, τ))) 0 0 (gx_A ad 70) := by
  refine gx_met (by decide) rfl (Nat.le_of_ble_eq_true rfl) ?_
  intro pg ev s mid as below mth c ls hx hb hr hml ht hown hlk hnm hargs hB hl
  obtain ⟨hV, hZ⟩ := hB
  have hS : va_S (gx_A ad 70) s.heap s.heap [] := va_S.rf
  have hl : lv_has ls 4 [(0, .ref (ad 0)), (1, .int (nI p)), (2, .int (nI m))] := hl
  refine lv_aload_n hx hb dX_moveAnswer_0 rfl (lv_at hl 0 rfl) ?_
  refine gx_get (C := mR_X) (T := mT_X) (N' := 7) hx hb ht mh_X hown hV (by decide) cx_E_X rfl 1 (by decide) (ht _ mw_130) (fun _ h => h) rfl dX_moveAnswer_1 ?_
  refine lv_iload_n hx hb dX_moveAnswer_4 rfl (lv_at hl 1 rfl) ?_
  refine gx_aald hx hb hV (by decide) 5 cx_E_Ps rfl p hp0 (by decide) rfl rfl dX_moveAnswer_5 ?_
  refine gx_get (C := mR_P) (T := mT_P) (N' := 7) hx hb ht mh_P hown hV (show 18 + 6 * p < 70 by omega) (cx_E_P hp0) rfl 1 (by decide) (ht _ mw_77) (fun _ h => h) rfl dX_moveAnswer_6 ?_
  refine gx_calli (va_runV (As := []) (rest := []) ⟨hx, hb, hml, hown, ht⟩ (k_L_removeFirst l (t := t.length) (cx_isL_A hp0) hA.1 hl2) (cwV 0 ht (mx_gV (C := "MessageCrossbar$Line") mw_304 mw_305 mw_306 mw_3 mw_307) rfl rfl rfl (by decide +kernel) ⟨Nat.le_of_ble_eq_true rfl, Nat.le_of_ble_eq_true rfl⟩) (gx_preV cx_ok hV hZ hS (q := (mR_L, mT_L, 2)) ((cx_isL_A hp0)).lt.1 (cx_E_L (cx_isL_A hp0)).1 rfl []) rfl rfl hl.1 rfl (lv_room (Nat.le_of_ble_eq_true rfl)) dX_moveAnswer_9 ⟨Nat.le_of_ble_eq_true rfl, Nat.le_of_ble_eq_true rfl⟩) hV hS (fun r1 σ' τ' H locs hp hV hS => ?_)
  obtain ⟨h9, hu⟩ := hp
  rw [hA.first] at h9
  subst h9
  cases hu
  refine lv_istore_n (lv' := [(3, .int (nI x)), (0, .ref (ad 0)), (1, .int (nI p)), (2, .int (nI m))]) hx hb dX_moveAnswer_12 rfl hl (by decide) rfl (fun ls hl => ?_)
  refine lv_aload_n hx hb dX_moveAnswer_13 rfl (lv_at hl 1 rfl) ?_
  refine gx_get (C := mR_X) (T := mT_X) (N' := 7) hx hb ht mh_X hown hV (by decide) cx_E_X rfl 1 (by decide) (ht _ mw_130) (fun _ h => h) rfl dX_moveAnswer_14 ?_
  refine lv_iload_n hx hb dX_moveAnswer_17 rfl (lv_at hl 2 rfl) ?_
  refine gx_aald hx hb hV (by decide) 5 cx_E_Ps rfl p hp0 (by decide) rfl rfl dX_moveAnswer_18 ?_
  refine lv_iload_n hx hb dX_moveAnswer_19 rfl (lv_at hl 0 rfl) ?_
  refine gx_callv (va_runV (As := [.int (nI x)]) (rest := []) ⟨hx, hb, hml, hown, ht⟩ (k_P_releaseId l hp0) (cwV 1 ht (mx_gV (C := "MessageCrossbar$Port") mw_308 mw_309 mw_310 mw_4 mw_311) rfl rfl rfl (by decide +kernel) ⟨Nat.le_of_ble_eq_true rfl, Nat.le_of_ble_eq_true rfl⟩) (gx_preV cx_ok hV hZ hS (q := (mR_P, mT_P, 7)) (show 18 + 6 * p < 70 by omega) (cx_E_P hp0) rfl [.int (nI x)]) rfl rfl hl.1 rfl (lv_room (Nat.le_of_ble_eq_true rfl)) dX_moveAnswer_20 ⟨Nat.le_of_ble_eq_true rfl, Nat.le_of_ble_eq_true rfl⟩) hV hS (fun σ' τ' H locs hp hV hS => ?_)
  cases hp
  refine lv_aload_n hx hb dX_moveAnswer_23 rfl (lv_at hl 1 rfl) ?_
  refine gx_get (C := mR_X) (T := mT_X) (N' := 7) hx hb ht mh_X hown hV (by decide) cx_E_X rfl 0 (by decide) (ht _ mw_129) (fun _ h => h) rfl dX_moveAnswer_24 ?_
  refine lv_iload_n hx hb dX_moveAnswer_27 rfl (lv_at hl 3 rfl) ?_
  refine gx_aald hx hb hV (by decide) 4 cx_E_Ms rfl m hm (by decide) rfl rfl dX_moveAnswer_28 ?_
  refine gx_get (C := mR_M) (T := mT_M) (N' := 5) hx hb ht mh_M hown hV (show 2 + 5 * m < 70 by omega) (cx_E_M hm) rfl 1 (by decide) (ht _ mw_47) (fun _ h => h) rfl dX_moveAnswer_29 ?_
  refine lv_iload_n hx hb dX_moveAnswer_32 rfl (lv_at hl 0 rfl) ?_
  refine gx_callv (va_runV (As := [.int (nI x)]) (rest := []) ⟨hx, hb, hml, hown, ht⟩ (k_L_append l (cx_isL_B hm) (by rw [cx_rel_n (by omega), cx_rem_n (by omega) (by omega)]; exact hbx) hnb) (cwV 1 ht (mx_gV (C := "MessageCrossbar$Line") mw_255 mw_256 mw_257 mw_3 mw_258) rfl rfl rfl (by decide +kernel) ⟨Nat.le_of_ble_eq_true rfl, Nat.le_of_ble_eq_true rfl⟩) (gx_preV cx_ok hV hZ hS (q := (mR_L, mT_L, 2)) ((cx_isL_B hm)).lt.1 (cx_E_L (cx_isL_B hm)).1 rfl [.int (nI x)]) rfl rfl hl.1 rfl (lv_room (Nat.le_of_ble_eq_true rfl)) dX_moveAnswer_33 ⟨Nat.le_of_ble_eq_true rfl, Nat.le_of_ble_eq_true rfl⟩) hV hS (fun σ' τ' H locs hp hV hS => ?_)
  cases hp
  refine lv_aload_n hx hb dX_moveAnswer_36 rfl (lv_at hl 1 rfl) ?_
  refine gx_get (C := mR_X) (T := mT_X) (N' := 7) hx hb ht mh_X hown hV (by decide) cx_E_X rfl 0 (by decide) (ht _ mw_129) (fun _ h => h) rfl dX_moveAnswer_37 ?_
  refine lv_iload_n hx hb dX_moveAnswer_40 rfl (lv_at hl 3 rfl) ?_
  refine gx_aald hx hb hV (by decide) 4 cx_E_Ms rfl m hm (by decide) rfl rfl dX_moveAnswer_41 ?_
  refine lv_iload_n hx hb dX_moveAnswer_42 rfl (lv_at hl 2 rfl) ?_
  refine gx_put cx_loc (C := mR_M) (T := mT_M) (N' := 5) (ty := .int) (v := .int (nI p)) hx hb ht mh_M mt_M mk_M mn_M hown hV hS (show 2 + 5 * m < 70 by omega) (cx_E_M hm) rfl 4 (by decide) (ht _ mw_53) (fun _ h => h) rfl (by decide +kernel) rfl rfl (Nat.le_of_ble_eq_true rfl) dX_moveAnswer_43 (cx_up (cx_app (cx_rel (cx_rem σ (21 + 6 * p) t.length) p (nI x)) (5 + 5 * m) nb (nI x)) (2 + 5 * m) 4 (nI p)) τ (by rw [cx_E_M hm]; simp [cx_up, gx_upL]) (fun _ h => cx_up_J h) (fun _ _ => rfl) (fun H locs hV hS => ?_)
  refine lv_aload_n hx hb dX_moveAnswer_46 rfl (lv_at hl 1 rfl) ?_
  refine gx_get (C := mR_X) (T := mT_X) (N' := 7) hx hb ht mh_X hown hV (by decide) cx_E_X rfl 5 (by decide) (ht _ mw_134) (fun _ h => h) rfl dX_moveAnswer_47 ?_
  refine lv_iconst (v := nI 4) hx hb dX_moveAnswer_50 (by decide) ?_
  refine lv_dup2_11 hx hb dX_moveAnswer_51 rfl rfl ?_
  refine gx_ialdv (v := σ 69 4) hx hb hV (by decide) 0 cx_E_Ct rfl 4 (by decide) (by decide) rfl (by simp (disch := omega) only [cx_up_J, cx_app_n, cx_rel_n, cx_rem_n]) dX_moveAnswer_52 ?_
  refine lv_iconst (v := nI 1) hx hb dX_moveAnswer_53 (by decide) ?_
  refine lv_iadd hx hb dX_moveAnswer_54 ?_
  refine gx_iast cx_loc hx hb hV hS (by decide) 0 cx_E_Ct rfl 4 (by decide) (by decide) rfl dX_moveAnswer_55 (cx_up (cx_up (cx_app (cx_rel (cx_rem σ (21 + 6 * p) t.length) p (nI x)) (5 + 5 * m) nb (nI x)) (2 + 5 * m) 4 (nI p)) 69 4 (σ 69 4 + (nI 1))) (by rw [cx_E_Ct, cx_up_upd]) (fun _ h => cx_up_J h) (fun H locs hV hS => ?_)
  exact gx_vret hx hb hr hV hS rfl dX_moveAnswer_56 hlk

theorem cx_nb1 {f : Nat} (h : f ≤ 1) : narrow .boolean (.int (nI f)) = .int (nI f) := by
  have : f = 0 ∨ f = 1 := by omega
  rcases this with rfl | rfl <;> rfl

set_option maxHeartbeats 4000000 in
set_option maxRecDepth 100000 in
theorem k_X_moveAnswers (l : Launch) {D : va_G} {K : Nat → ClassId} {ad : Nat → Nat} {σ : Nat → Nat → Int32} {τ : Nat → Nat → Int64} {ρ : Nat → Nat → Nat} {μ : Nat → Int64} {lt : Int64} {pl : Nat → Nat → List Nat} (hR : rr_R σ τ ρ μ lt pl) : Met l yX_moveAnswers (Cond.code yX_moveAnswers prog_1_method_16_code 4 (some .boolean) :: mx_T) { frames := 3, cells := 0, slots := 0, locals := 64 } (va_Pc [.ref (ad 0)] (cx_P D K ad σ τ)) (cx_Qi D K ad (fun rr u => ∃ (f : Nat) (pl' : Nat → Nat → List Nat), rr = nI f ∧ f ≤ 1 ∧ mq_ansN ρ 3 0 2 = (if f = 1 then 1 else ρ 0 2) ∧ rr_R u.1 u.2 (mq_ansN ρ 3) μ lt pl')) 0 0 (gx_A ad 70) := by
  refine gx_met (by decide) rfl (Nat.le_of_ble_eq_true rfl) ?_
  intro pg ev s mid as below mth c ls hx hb hr hml ht hown hlk hnm hargs hB hl
  obtain ⟨hV, hZ⟩ := hB
  have hS : va_S (gx_A ad 70) s.heap s.heap [] := va_S.rf
  have hl : lv_has ls 4 [(0, .ref (ad 0))] := hl
  refine lv_iconst (v := nI 0) hx hb dX_moveAnswers_0 (by decide) ?_
  refine lv_istore_n (lv' := [(1, .int (nI 0)), (0, .ref (ad 0))]) hx hb dX_moveAnswers_1 rfl hl (by decide) rfl (fun ls hl => ?_)
  refine lv_iconst (v := nI 0) hx hb dX_moveAnswers_2 (by decide) ?_
  refine lv_istore_n (lv' := [(2, .int (nI 0)), (1, .int (nI 0)), (0, .ref (ad 0))]) hx hb dX_moveAnswers_3 rfl hl (by decide) rfl (fun ls hl => ?_)
  have loop : ∀ (k : Nat) (i f : Nat) (σ1 : Nat → Nat → Int32) (pl1 : Nat → Nat → List Nat) (H : Heap) (locs : List Loc) (ls : Array Slot), i + k = 3 → f ≤ 1 → mq_ansN ρ i 0 2 = (if f = 1 then 1 else ρ 0 2) → rr_R σ1 τ (mq_ansN ρ i) μ lt pl1 → gx_V D mx_cl (mx_tys K) (cx_E ad K) ad 70 (σ1) (τ) s H → va_S (gx_A ad 70) s.heap H locs → lv_has ls 4 [(2, .int (nI i)), (1, .int (nI f)), (0, .ref (ad 0))] → W pg l ev (headSpec (Cond.code yX_moveAnswers prog_1_method_16_code 4 (some .boolean) :: mx_T) { frames := 3, cells := 0, slots := 0, locals := 64 }).room s mid as below mth c H locs 0 0 (MQ below (cx_Qi D K ad (fun rr u => ∃ (f : Nat) (pl' : Nat → Nat → List Nat), rr = nI f ∧ f ≤ 1 ∧ mq_ansN ρ 3 0 2 = (if f = 1 then 1 else ρ 0 2) ∧ rr_R u.1 u.2 (mq_ansN ρ 3) μ lt pl')) as s 0 0 (gx_A ad 70)) (F0 mid 4 ls []) := by
    intro k
    induction k with
    | zero =>
      intro i f σ1 pl1 H locs ls hk hf1 hf2 R1 hV hS hl
      refine lv_iload_n hx hb dX_moveAnswers_4 rfl (lv_at hl 0 rfl) ?_
      refine lv_iconst (v := nI 3) hx hb dX_moveAnswers_5 (by decide) ?_
      refine gx_icmp_ge (a := i) (b := 3) (tgt := 34) hx hb dX_moveAnswers_6 (by decide) (by omega) (by omega) (fun h6 => ?_) (fun h6 => ?_)
      · refine lv_iload_n hx hb dX_moveAnswers_34 rfl (lv_at hl 1 rfl) ?_
        exact gx_zret hx hb hr (cx_nb1 hf1) hV hS ⟨f, pl1, rfl, hf1, by rw [show 3 = i by omega]; exact hf2, by rw [show 3 = i by omega]; exact R1⟩ dX_moveAnswers_35 hlk
      · exact absurd h6 (by omega)
    | succ k ih =>
      intro i f σ1 pl1 H locs ls hk hf1 hf2 R1 hV hS hl
      refine lv_iload_n hx hb dX_moveAnswers_4 rfl (lv_at hl 0 rfl) ?_
      refine lv_iconst (v := nI 3) hx hb dX_moveAnswers_5 (by decide) ?_
      refine gx_icmp_ge (a := i) (b := 3) (tgt := 34) hx hb dX_moveAnswers_6 (by decide) (by omega) (by omega) (fun h6 => ?_) (fun h6 => ?_)
      · exact absurd h6 (by omega)
      · refine lv_aload_n hx hb dX_moveAnswers_9 rfl (lv_at hl 2 rfl) ?_
        refine lv_iload_n hx hb dX_moveAnswers_10 rfl (lv_at hl 0 rfl) ?_
        refine gx_calli (va_runV (As := [.int (nI i)]) (rest := []) ⟨hx, hb, hml, hown, ht⟩ (k_X_nextAnsweringPort l (m := i) (by omega) R1) (cwV 1 ht (mx_gV (C := "MessageCrossbar") mw_281 mw_283 ms_3 mw_1 mw_284) rfl rfl rfl (by decide +kernel) ⟨Nat.le_of_ble_eq_true rfl, Nat.le_of_ble_eq_true rfl⟩) (gx_preV cx_ok hV hZ hS (q := (mR_X, mT_X, 7)) (by decide) cx_E_X rfl [.int (nI i)]) rfl rfl hl.1 rfl (lv_room (Nat.le_of_ble_eq_true rfl)) dX_moveAnswers_11 ⟨Nat.le_of_ble_eq_true rfl, Nat.le_of_ble_eq_true rfl⟩) hV hS (fun r1 σ' τ' H locs hp hV hS => ?_)
        obtain ⟨rfl, hu⟩ := hp
        cases hu
        cases hd : mq_ansD (mq_ansN ρ i) i with
        | none =>
          refine lv_istore_n (lv' := [(3, .int (-1)), (2, .int (nI i)), (1, .int (nI f)), (0, .ref (ad 0))]) hx hb dX_moveAnswers_14 rfl hl (by decide) rfl (fun ls hl => ?_)
          refine lv_iload_n hx hb dX_moveAnswers_15 rfl (lv_at hl 0 rfl) ?_
          refine lv_iconst (v := -1) hx hb dX_moveAnswers_16 (by decide) ?_
          refine lv_icmp_eq (tgt := 28) hx hb dX_moveAnswers_17 (by decide) (fun h17 => ?_) (fun h17 => ?_)
          · refine lv_iinc (k := 1) (v := (nI (i + 1))) (lv' := [(2, .int (nI (i + 1))), (3, .int (-1)), (1, .int (nI f)), (0, .ref (ad 0))]) hx hb dX_moveAnswers_28 hl rfl (nI_succ i).symm (by decide) rfl (fun ls hl => ?_)
            refine lv_goto (tgt := 4) hx hb dX_moveAnswers_31 (by decide) ?_
            exact ih (i + 1) f σ1 pl1 H locs ls (by omega) hf1 (by show mq_answers (mq_ansN ρ i) i 0 2 = _; rw [rr_ansN hd]; exact hf2) (by show rr_R σ1 τ (mq_answers (mq_ansN ρ i) i) μ lt pl1; rw [rr_ansN hd]; exact R1) hV hS (lv_sub hl [0, 2, 3] rfl)
          · exact absurd rfl h17
        | some q =>
          obtain ⟨hq4, hbl, x, t, hxt, hx8, hgo⟩ := rr_ansD R1.2.1 (show i < 3 by omega) hd
          have hp4 : (mq_ansN ρ i 10 i + q) % 4 < 4 := by omega
          have ok4 : mq_ok 4 (3 + (mq_ansN ρ i 10 i + q) % 4) := Or.inr ⟨by simp, by omega, by omega⟩
          have ok5 : mq_ok 5 i := Or.inl ⟨by simp, by omega⟩
          have hA := R1.1 4 _ ok4 (by omega)
          rw [hxt, show rr_ln 4 (3 + (mq_ansN ρ i 10 i + q) % 4) = 21 + 6 * ((mq_ansN ρ i 10 i + q) % 4) by simp [rr_ln]] at hA
          have hB5 := (R1.1 5 i ok5 (by omega)).1.1
          rw [show rr_ln 5 i = 5 + 5 * i by simp [rr_ln]] at hB5
          have R2 := R1.ans (show i < 3 by omega) hp4 hxt hx8 hbl
          refine lv_istore_n (lv' := [(3, .int (nI ((mq_ansN ρ i 10 i + q) % 4))), (2, .int (nI i)), (1, .int (nI f)), (0, .ref (ad 0))]) hx hb dX_moveAnswers_14 rfl hl (by decide) rfl (fun ls hl => ?_)
          refine lv_iload_n hx hb dX_moveAnswers_15 rfl (lv_at hl 0 rfl) ?_
          refine lv_iconst (v := -1) hx hb dX_moveAnswers_16 (by decide) ?_
          refine lv_icmp_eq (tgt := 28) hx hb dX_moveAnswers_17 (by decide) (fun h17 => ?_) (fun h17 => ?_)
          · exact absurd h17 (rr_m1 (by omega))
          · refine lv_aload_n hx hb dX_moveAnswers_20 rfl (lv_at hl 3 rfl) ?_
            refine lv_iload_n hx hb dX_moveAnswers_21 rfl (lv_at hl 0 rfl) ?_
            refine lv_iload_n hx hb dX_moveAnswers_22 rfl (lv_at hl 1 rfl) ?_
            refine gx_callv (va_runV (As := [.int (nI ((mq_ansN ρ i 10 i + q) % 4)), .int (nI i)]) (rest := []) ⟨hx, hb, hml, hown, ht⟩ (k_X_moveAnswer l hp4 (show i < 3 by omega) hA.1 hA.2 hB5 hbl) (cwV 2 ht (mx_gV (C := "MessageCrossbar") mw_300 mw_302 ms_4 mw_1 mw_303) rfl rfl rfl (by decide +kernel) ⟨Nat.le_of_ble_eq_true rfl, Nat.le_of_ble_eq_true rfl⟩) (gx_preV cx_ok hV hZ hS (q := (mR_X, mT_X, 7)) (by decide) cx_E_X rfl [.int (nI ((mq_ansN ρ i 10 i + q) % 4)), .int (nI i)]) rfl rfl hl.1 rfl (lv_room (Nat.le_of_ble_eq_true rfl)) dX_moveAnswers_23 ⟨Nat.le_of_ble_eq_true rfl, Nat.le_of_ble_eq_true rfl⟩) hV hS (fun σ' τ' H locs hp hV hS => ?_)
            cases hp
            refine lv_iconst (v := nI 1) hx hb dX_moveAnswers_26 (by decide) ?_
            refine lv_istore_n (lv' := [(1, .int (nI 1)), (3, .int (nI ((mq_ansN ρ i 10 i + q) % 4))), (2, .int (nI i)), (0, .ref (ad 0))]) hx hb dX_moveAnswers_27 rfl hl (by decide) rfl (fun ls hl => ?_)
            refine lv_iinc (k := 2) (v := (nI (i + 1))) (lv' := [(2, .int (nI (i + 1))), (1, .int (nI 1)), (3, .int (nI ((mq_ansN ρ i 10 i + q) % 4))), (0, .ref (ad 0))]) hx hb dX_moveAnswers_28 hl rfl (nI_succ i).symm (by decide) rfl (fun ls hl => ?_)
            refine lv_goto (tgt := 4) hx hb dX_moveAnswers_31 (by decide) ?_
            exact ih (i + 1) 1 _ _ H locs ls (by omega) (Nat.le_refl 1) (by show mq_answers (mq_ansN ρ i) i 0 2 = 1; rw [hgo]; exact mq_ansM_sp.2.2.2.2.2.2) (by show rr_R _ τ (mq_answers (mq_ansN ρ i) i) μ lt _; rw [hgo]; exact R2) hV hS (lv_sub hl [0, 1, 3] rfl)
  exact loop 3 0 0 _ _ _ _ ls (by omega) (by omega) rfl hR hV hS hl
