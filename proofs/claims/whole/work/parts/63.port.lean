/-! Port -/

theorem mq_cnt_f {f : Nat → Bool} {i : Nat} (h : f i = false) : mq_cnt f (i + 1) = mq_cnt f i := by
  show mq_cnt f i + (if f i = true then 1 else 0) = _
  rw [h]
  rfl
theorem mq_cnt_t {f : Nat → Bool} {i : Nat} (h : f i = true) : mq_cnt f (i + 1) = mq_cnt f i + 1 := by
  show mq_cnt f i + (if f i = true then 1 else 0) = _
  rw [h]
  rfl
theorem mq_cnt_le (f : Nat → Bool) : ∀ n, mq_cnt f n ≤ n := by
  intro n
  induction n with
  | zero => exact Nat.le_refl _
  | succ n ih =>
    show mq_cnt f n + (if f n = true then 1 else 0) ≤ n + 1
    split <;> omega
theorem mq_cnt_le4 (f : Nat → Bool) : mq_cnt f 4 < 2 ^ 31 := by
  have := mq_cnt_le f 4
  omega
theorem mq_fnd_f {f : Nat → Bool} {i k : Nat} (h : f i = false) : mq_fnd f i (k + 1) = mq_fnd f (i + 1) k := by
  show (if f i = true then some i else mq_fnd f (i + 1) k) = _
  rw [h]
  rfl
theorem mq_fnd_t {f : Nat → Bool} {i k : Nat} (h : f i = true) : mq_fnd f i (k + 1) = some i := by
  show (if f i = true then some i else mq_fnd f (i + 1) k) = _
  rw [h]
  rfl
/-- the first i owners set free, where they are the key -/
def cx_relN (σ : Nat → Nat → Int32) (p : Nat) (key : Int32) (i : Nat) : Nat → Nat → Int32 := fun j k => if j = 23 + 6 * p ∧ k < i ∧ σ (23 + 6 * p) k = key then -1 else σ j k
theorem cx_relN_0 {σ : Nat → Nat → Int32} {p : Nat} {key : Int32} : cx_relN σ p key 0 = σ := by
  funext j k
  unfold cx_relN
  rw [if_neg (by omega)]
theorem cx_relN_r {σ : Nat → Nat → Int32} {p i : Nat} {key : Int32} : cx_relN σ p key i (23 + 6 * p) i = σ (23 + 6 * p) i := by
  unfold cx_relN
  rw [if_neg (by omega)]
theorem cx_relN_f {σ : Nat → Nat → Int32} {p i : Nat} {key : Int32} (h : ¬ σ (23 + 6 * p) i = key) : cx_relN σ p key (i + 1) = cx_relN σ p key i := by
  funext j k
  unfold cx_relN
  by_cases hk : k = i
  · subst hk
    rw [if_neg (fun q => h q.2.2), if_neg (fun q => h q.2.2)]
  · by_cases hl : k < i
    · simp [hl, Nat.lt_succ_of_lt hl]
    · have : ¬ k < i + 1 := by omega
      simp [hl, this]
theorem cx_relN_t {σ : Nat → Nat → Int32} {p i : Nat} {key : Int32} (h : σ (23 + 6 * p) i = key) : cx_relN σ p key (i + 1) = cx_up (cx_relN σ p key i) (23 + 6 * p) i (-1) := by
  funext j k
  unfold cx_relN cx_up
  by_cases hj : j = 23 + 6 * p
  · subst hj
    by_cases hk : k = i
    · subst hk
      simp [h]
    · by_cases hl : k < i
      · simp [hk, hl, Nat.lt_succ_of_lt hl]
      · have : ¬ k < i + 1 := by omega
        simp [hk, hl, this]
  · simp [hj]

set_option maxHeartbeats 4000000 in
set_option maxRecDepth 100000 in
theorem k_P_countDown (l : Launch) {D : va_G} {K : Nat → ClassId} {ad : Nat → Nat} {σ : Nat → Nat → Int32} {τ : Nat → Nat → Int64} {p : Nat} (hp0 : p < 4) {t : Nat} (htt : σ (18 + 6 * p) 4 = nI t) (ht16 : t < 16) : Met l yP_countDown (Cond.code yP_countDown prog_5_method_2_code 1 none :: mx_T) { frames := 0, cells := 0, slots := 0, locals := 0 } (va_Pc [.ref (ad (18 + 6 * p))] (cx_P D K ad σ τ)) (cx_Qv D K ad (fun u => u = (cx_up σ (18 + 6 * p) 4 (nI (t - 1)), τ))) 0 0 (gx_A ad 70) := by
  refine gx_met (by decide) rfl (Nat.le_of_ble_eq_true rfl) ?_
  intro pg ev s mid as below mth c ls hx hb hr hml ht hown hlk hnm hargs hB hl
  obtain ⟨hV, hZ⟩ := hB
  have hS : va_S (gx_A ad 70) s.heap s.heap [] := va_S.rf
  have hl : lv_has ls 1 [(0, .ref (ad (18 + 6 * p)))] := hl
  refine lv_aload_n hx hb dP_countDown_0 rfl (lv_at hl 0 rfl) ?_
  refine gx_get (C := mR_P) (T := mT_P) (N' := 7) (v := .int (nI t)) hx hb ht mh_P hown hV (show 18 + 6 * p < 70 by omega) (cx_E_P hp0) rfl 4 (by decide) (ht _ mw_82) (fun _ h => h) (congrArg (fun z => some (Value.int z)) htt) dP_countDown_1 ?_
  refine gx_if_le (a := t) (tgt := 17) hx hb dP_countDown_4 (by decide) (by omega) (fun h4 => ?_) (fun h4 => ?_)
  · exact gx_vret hx hb hr hV hS (by rw [cx_up_same (by rw [htt, h4])]) dP_countDown_17 hlk
  · refine lv_aload_n hx hb dP_countDown_7 rfl (lv_at hl 0 rfl) ?_
    refine lv_dup hx hb dP_countDown_8 rfl ?_
    refine gx_get (C := mR_P) (T := mT_P) (N' := 7) (v := .int (nI t)) hx hb ht mh_P hown hV (show 18 + 6 * p < 70 by omega) (cx_E_P hp0) rfl 4 (by decide) (ht _ mw_82) (fun _ h => h) (congrArg (fun z => some (Value.int z)) htt) dP_countDown_9 ?_
    refine lv_iconst (v := nI 1) hx hb dP_countDown_12 (by decide) ?_
    refine gx_isub (a := t) (b := 1) hx hb dP_countDown_13 (by omega) ?_
    refine gx_put cx_loc (C := mR_P) (T := mT_P) (N' := 7) (ty := .int) (v := .int (nI (t - 1))) hx hb ht mh_P mt_P mk_P mn_P hown hV hS (show 18 + 6 * p < 70 by omega) (cx_E_P hp0) rfl 4 (by decide) (ht _ mw_82) (fun _ h => h) rfl (by decide +kernel) rfl rfl (Nat.le_of_ble_eq_true rfl) dP_countDown_14 (cx_up σ (18 + 6 * p) 4 (nI (t - 1))) τ (by rw [cx_E_P hp0]; simp [cx_up, gx_upL]) (fun _ h => cx_up_J h) (fun _ _ => rfl) (fun H locs hV hS => ?_)
    exact gx_vret hx hb hr hV hS rfl dP_countDown_17 hlk

set_option maxHeartbeats 4000000 in
set_option maxRecDepth 100000 in
theorem k_P_canFinishJob (l : Launch) {D : va_G} {K : Nat → ClassId} {ad : Nat → Nat} {σ : Nat → Nat → Int32} {τ : Nat → Nat → Int64} {p : Nat} (hp0 : p < 4) {t n : Nat} (htt : σ (18 + 6 * p) 4 = nI t) (ht16 : t < 16) (hn : σ (21 + 6 * p) 1 = nI n) (hn2 : n ≤ 2) : Met l yP_canFinishJob (Cond.code yP_canFinishJob prog_5_method_3_code 1 (some .boolean) :: mx_T) { frames := 1, cells := 0, slots := 0, locals := 20 } (va_Pc [.ref (ad (18 + 6 * p))] (cx_P D K ad σ τ)) (cx_Qi D K ad (fun rr u => rr = (if σ (18 + 6 * p) 3 ≠ -1 ∧ t = 0 ∧ n < 2 then nI 1 else nI 0) ∧ u = (σ, τ))) 0 0 (gx_A ad 70) := by
  refine gx_met (by decide) rfl (Nat.le_of_ble_eq_true rfl) ?_
  intro pg ev s mid as below mth c ls hx hb hr hml ht hown hlk hnm hargs hB hl
  obtain ⟨hV, hZ⟩ := hB
  have hS : va_S (gx_A ad 70) s.heap s.heap [] := va_S.rf
  have hl : lv_has ls 1 [(0, .ref (ad (18 + 6 * p)))] := hl
  refine lv_aload_n hx hb dP_canFinishJob_0 rfl (lv_at hl 0 rfl) ?_
  refine gx_get (C := mR_P) (T := mT_P) (N' := 7) hx hb ht mh_P hown hV (show 18 + 6 * p < 70 by omega) (cx_E_P hp0) rfl 3 (by decide) (ht _ mw_80) (fun _ h => h) rfl dP_canFinishJob_1 ?_
  refine lv_iconst (v := -1) hx hb dP_canFinishJob_4 (by decide) ?_
  refine lv_icmp_eq (tgt := 29) hx hb dP_canFinishJob_5 (by decide) (fun h5 => ?_) (fun h5 => ?_)
  · refine lv_iconst (v := nI 0) hx hb dP_canFinishJob_29 (by decide) ?_
    exact gx_zret hx hb hr rfl hV hS ⟨(if_neg (fun q => q.1 h5)).symm, rfl⟩ dP_canFinishJob_30 hlk
  · refine lv_aload_n hx hb dP_canFinishJob_8 rfl (lv_at hl 0 rfl) ?_
    refine gx_get (C := mR_P) (T := mT_P) (N' := 7) (v := .int (nI t)) hx hb ht mh_P hown hV (show 18 + 6 * p < 70 by omega) (cx_E_P hp0) rfl 4 (by decide) (ht _ mw_82) (fun _ h => h) (congrArg (fun z => some (Value.int z)) htt) dP_canFinishJob_9 ?_
    refine gx_if_ne (a := t) (tgt := 29) hx hb dP_canFinishJob_12 (by decide) (by omega) (fun h12 => ?_) (fun h12 => ?_)
    · refine lv_iconst (v := nI 0) hx hb dP_canFinishJob_29 (by decide) ?_
      exact gx_zret hx hb hr rfl hV hS ⟨(if_neg (fun q => h12 q.2.1)).symm, rfl⟩ dP_canFinishJob_30 hlk
    · refine lv_aload_n hx hb dP_canFinishJob_15 rfl (lv_at hl 0 rfl) ?_
      refine gx_get (C := mR_P) (T := mT_P) (N' := 7) hx hb ht mh_P hown hV (show 18 + 6 * p < 70 by omega) (cx_E_P hp0) rfl 1 (by decide) (ht _ mw_76) (fun _ h => h) rfl dP_canFinishJob_16 ?_
      refine gx_calli (va_runV (As := []) (rest := []) ⟨hx, hb, hml, hown, ht⟩ (k_L_isFull l (cx_isL_A hp0) hn hn2) (cwV 0 ht (mx_gV (C := "MessageCrossbar$Line") mw_324 mw_248 mw_249 mw_3 mw_250) rfl rfl rfl (by decide +kernel) ⟨Nat.le_of_ble_eq_true rfl, Nat.le_of_ble_eq_true rfl⟩) (gx_preV cx_ok hV hZ hS (q := (mR_L, mT_L, 2)) ((cx_isL_A hp0)).lt.1 (cx_E_L (cx_isL_A hp0)).1 rfl []) rfl rfl hl.1 rfl (lv_room (Nat.le_of_ble_eq_true rfl)) dP_canFinishJob_19 ⟨Nat.le_of_ble_eq_true rfl, Nat.le_of_ble_eq_true rfl⟩) hV hS (fun r1 σ' τ' H locs hp hV hS => ?_)
      obtain ⟨rfl, hu⟩ := hp
      cases hu
      refine gx_ifb_ne (q := 2 ≤ n) (tgt := 29) hx hb dP_canFinishJob_22 (by decide) (fun h22 => ?_) (fun h22 => ?_)
      · refine lv_iconst (v := nI 0) hx hb dP_canFinishJob_29 (by decide) ?_
        exact gx_zret hx hb hr rfl hV hS ⟨(if_neg (fun q => by omega)).symm, rfl⟩ dP_canFinishJob_30 hlk
      · refine lv_iconst (v := nI 1) hx hb dP_canFinishJob_25 (by decide) ?_
        refine lv_goto (tgt := 30) hx hb dP_canFinishJob_26 (by decide) ?_
        exact gx_zret hx hb hr rfl hV hS ⟨(if_pos ⟨h5, h12, by omega⟩).symm, rfl⟩ dP_canFinishJob_30 hlk

set_option maxHeartbeats 4000000 in
set_option maxRecDepth 100000 in
theorem k_P_canBeginJob (l : Launch) {D : va_G} {K : Nat → ClassId} {ad : Nat → Nat} {σ : Nat → Nat → Int32} {τ : Nat → Nat → Int64} {p : Nat} (hp0 : p < 4) {n : Nat} (hn : σ (19 + 6 * p) 1 = nI n) (hn2 : n ≤ 2) : Met l yP_canBeginJob (Cond.code yP_canBeginJob prog_5_method_4_code 1 (some .boolean) :: mx_T) { frames := 0, cells := 0, slots := 0, locals := 0 } (va_Pc [.ref (ad (18 + 6 * p))] (cx_P D K ad σ τ)) (cx_Qi D K ad (fun rr u => rr = (if σ (18 + 6 * p) 3 = -1 ∧ 0 < n then nI 1 else nI 0) ∧ u = (σ, τ))) 0 0 (gx_A ad 70) := by
  refine gx_met (by decide) rfl (Nat.le_of_ble_eq_true rfl) ?_
  intro pg ev s mid as below mth c ls hx hb hr hml ht hown hlk hnm hargs hB hl
  obtain ⟨hV, hZ⟩ := hB
  have hS : va_S (gx_A ad 70) s.heap s.heap [] := va_S.rf
  have hl : lv_has ls 1 [(0, .ref (ad (18 + 6 * p)))] := hl
  refine lv_aload_n hx hb dP_canBeginJob_0 rfl (lv_at hl 0 rfl) ?_
  refine gx_get (C := mR_P) (T := mT_P) (N' := 7) hx hb ht mh_P hown hV (show 18 + 6 * p < 70 by omega) (cx_E_P hp0) rfl 3 (by decide) (ht _ mw_80) (fun _ h => h) rfl dP_canBeginJob_1 ?_
  refine lv_iconst (v := -1) hx hb dP_canBeginJob_4 (by decide) ?_
  refine lv_icmp_ne (tgt := 22) hx hb dP_canBeginJob_5 (by decide) (fun h5 => ?_) (fun h5 => ?_)
  · refine lv_iconst (v := nI 0) hx hb dP_canBeginJob_22 (by decide) ?_
    exact gx_zret hx hb hr rfl hV hS ⟨(if_neg (fun q => h5 q.1)).symm, rfl⟩ dP_canBeginJob_23 hlk
  · refine lv_aload_n hx hb dP_canBeginJob_8 rfl (lv_at hl 0 rfl) ?_
    refine gx_get (C := mR_P) (T := mT_P) (N' := 7) hx hb ht mh_P hown hV (show 18 + 6 * p < 70 by omega) (cx_E_P hp0) rfl 0 (by decide) (ht _ mw_74) (fun _ h => h) rfl dP_canBeginJob_9 ?_
    refine gx_get (C := mR_L) (T := mT_L) (N' := 2) (v := .int (nI n)) hx hb ht mh_L hown hV ((cx_isL_Q hp0)).lt.1 (cx_E_L (cx_isL_Q hp0)).1 rfl 1 (by decide) (ht _ mw_37) (fun _ h => h) (congrArg (fun z => some (Value.int z)) hn) dP_canBeginJob_12 ?_
    refine gx_if_le (a := n) (tgt := 22) hx hb dP_canBeginJob_15 (by decide) (by omega) (fun h15 => ?_) (fun h15 => ?_)
    · refine lv_iconst (v := nI 0) hx hb dP_canBeginJob_22 (by decide) ?_
      exact gx_zret hx hb hr rfl hV hS ⟨(if_neg (fun q => by omega)).symm, rfl⟩ dP_canBeginJob_23 hlk
    · refine lv_iconst (v := nI 1) hx hb dP_canBeginJob_18 (by decide) ?_
      refine lv_goto (tgt := 23) hx hb dP_canBeginJob_19 (by decide) ?_
      exact gx_zret hx hb hr rfl hV hS ⟨(if_pos ⟨h5, h15⟩).symm, rfl⟩ dP_canBeginJob_23 hlk

set_option maxHeartbeats 4000000 in
set_option maxRecDepth 100000 in
theorem k_P_finishJob (l : Launch) {D : va_G} {K : Nat → ClassId} {ad : Nat → Nat} {σ : Nat → Nat → Int32} {τ : Nat → Nat → Int64} {p : Nat} (hp0 : p < 4) {x n : Nat} (hx2 : x < 24) (hjb : σ (18 + 6 * p) 3 = nI x) (hn : σ (21 + 6 * p) 1 = nI n) (hn2 : n < 2) : Met l yP_finishJob (Cond.code yP_finishJob prog_5_method_5_code 2 (some .int) :: mx_T) { frames := 1, cells := 0, slots := 0, locals := 21 } (va_Pc [.ref (ad (18 + 6 * p))] (cx_P D K ad σ τ)) (cx_Qi D K ad (fun rr u => rr = nI x ∧ u = (cx_up (cx_up (cx_app σ (21 + 6 * p) n (nI x)) (18 + 6 * p) 3 (-1)) (18 + 6 * p) 5 (σ (18 + 6 * p) 5 + 1), τ))) 0 0 (gx_A ad 70) := by
  refine gx_met (by decide) rfl (Nat.le_of_ble_eq_true rfl) ?_
  intro pg ev s mid as below mth c ls hx hb hr hml ht hown hlk hnm hargs hB hl
  obtain ⟨hV, hZ⟩ := hB
  have hS : va_S (gx_A ad 70) s.heap s.heap [] := va_S.rf
  have hl : lv_has ls 2 [(0, .ref (ad (18 + 6 * p)))] := hl
  refine lv_aload_n hx hb dP_finishJob_0 rfl (lv_at hl 0 rfl) ?_
  refine gx_get (C := mR_P) (T := mT_P) (N' := 7) (v := .int (nI x)) hx hb ht mh_P hown hV (show 18 + 6 * p < 70 by omega) (cx_E_P hp0) rfl 3 (by decide) (ht _ mw_80) (fun _ h => h) (congrArg (fun z => some (Value.int z)) hjb) dP_finishJob_1 ?_
  refine lv_istore_n (lv' := [(1, .int (nI x)), (0, .ref (ad (18 + 6 * p)))]) hx hb dP_finishJob_4 rfl hl (by decide) rfl (fun ls hl => ?_)
  refine lv_iload_n hx hb dP_finishJob_5 rfl (lv_at hl 0 rfl) ?_
  refine lv_iconst (v := -1) hx hb dP_finishJob_6 (by decide) ?_
  refine lv_icmp_eq (tgt := 33) hx hb dP_finishJob_7 (by decide) (fun h7 => ?_) (fun h7 => ?_)
  · exact absurd h7 (rr_m1 hx2)
  · refine lv_aload_n hx hb dP_finishJob_10 rfl (lv_at hl 1 rfl) ?_
    refine gx_get (C := mR_P) (T := mT_P) (N' := 7) hx hb ht mh_P hown hV (show 18 + 6 * p < 70 by omega) (cx_E_P hp0) rfl 1 (by decide) (ht _ mw_76) (fun _ h => h) rfl dP_finishJob_11 ?_
    refine lv_iload_n hx hb dP_finishJob_14 rfl (lv_at hl 0 rfl) ?_
    refine gx_callv (va_runV (As := [.int (nI x)]) (rest := []) ⟨hx, hb, hml, hown, ht⟩ (k_L_append l (cx_isL_A hp0) hn hn2) (cwV 1 ht (mx_gV (C := "MessageCrossbar$Line") mw_333 mw_256 mw_257 mw_3 mw_258) rfl rfl rfl (by decide +kernel) ⟨Nat.le_of_ble_eq_true rfl, Nat.le_of_ble_eq_true rfl⟩) (gx_preV cx_ok hV hZ hS (q := (mR_L, mT_L, 2)) ((cx_isL_A hp0)).lt.1 (cx_E_L (cx_isL_A hp0)).1 rfl [.int (nI x)]) rfl rfl hl.1 rfl (lv_room (Nat.le_of_ble_eq_true rfl)) dP_finishJob_15 ⟨Nat.le_of_ble_eq_true rfl, Nat.le_of_ble_eq_true rfl⟩) hV hS (fun σ' τ' H locs hp hV hS => ?_)
    cases hp
    refine lv_aload_n hx hb dP_finishJob_18 rfl (lv_at hl 1 rfl) ?_
    refine lv_iconst (v := -1) hx hb dP_finishJob_19 (by decide) ?_
    refine gx_put cx_loc (C := mR_P) (T := mT_P) (N' := 7) (ty := .int) (v := .int (-1)) hx hb ht mh_P mt_P mk_P mn_P hown hV hS (show 18 + 6 * p < 70 by omega) (cx_E_P hp0) rfl 3 (by decide) (ht _ mw_80) (fun _ h => h) rfl (by decide +kernel) rfl rfl (Nat.le_of_ble_eq_true rfl) dP_finishJob_20 (cx_up (cx_app σ (21 + 6 * p) n (nI x)) (18 + 6 * p) 3 (-1)) τ (by rw [cx_E_P hp0]; simp [cx_up, gx_upL]) (fun _ h => cx_up_J h) (fun _ _ => rfl) (fun H locs hV hS => ?_)
    refine lv_aload_n hx hb dP_finishJob_23 rfl (lv_at hl 1 rfl) ?_
    refine lv_dup hx hb dP_finishJob_24 rfl ?_
    refine gx_get (C := mR_P) (T := mT_P) (N' := 7) (v := .int (σ (18 + 6 * p) 5)) hx hb ht mh_P hown hV (show 18 + 6 * p < 70 by omega) (cx_E_P hp0) rfl 5 (by decide) (ht _ mw_84) (fun _ h => h) (congrArg (fun z => some (Value.int z)) ((cx_up_k (by omega)).trans (by rw [cx_app_n (by omega) (by omega)]))) dP_finishJob_25 ?_
    refine lv_iconst (v := nI 1) hx hb dP_finishJob_28 (by decide) ?_
    refine lv_iadd hx hb dP_finishJob_29 ?_
    refine gx_put cx_loc (C := mR_P) (T := mT_P) (N' := 7) (ty := .int) (v := .int (σ (18 + 6 * p) 5 + 1)) hx hb ht mh_P mt_P mk_P mn_P hown hV hS (show 18 + 6 * p < 70 by omega) (cx_E_P hp0) rfl 5 (by decide) (ht _ mw_84) (fun _ h => h) rfl (by decide +kernel) rfl rfl (Nat.le_of_ble_eq_true rfl) dP_finishJob_30 (cx_up (cx_up (cx_app σ (21 + 6 * p) n (nI x)) (18 + 6 * p) 3 (-1)) (18 + 6 * p) 5 (σ (18 + 6 * p) 5 + 1)) τ (by rw [cx_E_P hp0]; simp [cx_up, gx_upL]) (fun _ h => cx_up_J h) (fun _ _ => rfl) (fun H locs hV hS => ?_)
    refine lv_iload_n hx hb dP_finishJob_33 rfl (lv_at hl 0 rfl) ?_
    exact gx_iret hx hb hr hV hS ⟨rfl, rfl⟩ dP_finishJob_34 hlk

set_option maxHeartbeats 4000000 in
set_option maxRecDepth 100000 in
theorem k_P_idsInUse (l : Launch) {D : va_G} {K : Nat → ClassId} {ad : Nat → Nat} {σ : Nat → Nat → Int32} {τ : Nat → Nat → Int64} {p : Nat} (hp0 : p < 4) : Met l yP_idsInUse (Cond.code yP_idsInUse prog_5_method_7_code 3 (some .int) :: mx_T) { frames := 0, cells := 0, slots := 0, locals := 0 } (va_Pc [.ref (ad (18 + 6 * p))] (cx_P D K ad σ τ)) (cx_Qi D K ad (fun rr u => rr = nI (mq_cnt (fun q => decide (σ (23 + 6 * p) q ≠ -1)) 4) ∧ u = (σ, τ))) 0 0 (gx_A ad 70) := by
  refine gx_met (by decide) rfl (Nat.le_of_ble_eq_true rfl) ?_
  intro pg ev s mid as below mth c ls hx hb hr hml ht hown hlk hnm hargs hB hl
  obtain ⟨hV, hZ⟩ := hB
  have hS : va_S (gx_A ad 70) s.heap s.heap [] := va_S.rf
  have hl : lv_has ls 3 [(0, .ref (ad (18 + 6 * p)))] := hl
  refine lv_iconst (v := nI 0) hx hb dP_idsInUse_0 (by decide) ?_
  refine lv_istore_n (lv' := [(1, .int (nI 0)), (0, .ref (ad (18 + 6 * p)))]) hx hb dP_idsInUse_1 rfl hl (by decide) rfl (fun ls hl => ?_)
  refine lv_iconst (v := nI 0) hx hb dP_idsInUse_2 (by decide) ?_
  refine lv_istore_n (lv' := [(2, .int (nI 0)), (1, .int (nI 0)), (0, .ref (ad (18 + 6 * p)))]) hx hb dP_idsInUse_3 rfl hl (by decide) rfl (fun ls hl => ?_)
  have loop : ∀ (k : Nat) (i : Nat) (H : Heap) (locs : List Loc) (ls : Array Slot), i + k = 4 → gx_V D mx_cl (mx_tys K) (cx_E ad K) ad 70 (σ) (τ) s H → va_S (gx_A ad 70) s.heap H locs → lv_has ls 3 [(2, .int (nI i)), (1, .int (nI (mq_cnt (fun q => decide (σ (23 + 6 * p) q ≠ -1)) i))), (0, .ref (ad (18 + 6 * p)))] → W pg l ev (headSpec (Cond.code yP_idsInUse prog_5_method_7_code 3 (some .int) :: mx_T) { frames := 0, cells := 0, slots := 0, locals := 0 }).room s mid as below mth c H locs 0 0 (MQ below (cx_Qi D K ad (fun rr u => rr = nI (mq_cnt (fun q => decide (σ (23 + 6 * p) q ≠ -1)) 4) ∧ u = (σ, τ))) as s 0 0 (gx_A ad 70)) (F0 mid 4 ls []) := by
    intro k
    induction k with
    | zero =>
      intro i H locs ls hk hV hS hl
      refine lv_iload_n hx hb dP_idsInUse_4 rfl (lv_at hl 0 rfl) ?_
      refine lv_iconst (v := nI 4) hx hb dP_idsInUse_5 (by decide) ?_
      refine gx_icmp_ge (a := i) (b := 4) (tgt := 28) hx hb dP_idsInUse_6 (by decide) (by omega) (by omega) (fun h6 => ?_) (fun h6 => ?_)
      · refine lv_iload_n hx hb dP_idsInUse_28 rfl (lv_at hl 1 rfl) ?_
        exact gx_iret hx hb hr hV hS ⟨by rw [show i = 4 by omega], rfl⟩ dP_idsInUse_29 hlk
      · exact absurd h6 (by omega)
    | succ k ih =>
      intro i H locs ls hk hV hS hl
      refine lv_iload_n hx hb dP_idsInUse_4 rfl (lv_at hl 0 rfl) ?_
      refine lv_iconst (v := nI 4) hx hb dP_idsInUse_5 (by decide) ?_
      refine gx_icmp_ge (a := i) (b := 4) (tgt := 28) hx hb dP_idsInUse_6 (by decide) (by omega) (by omega) (fun h6 => ?_) (fun h6 => ?_)
      · exact absurd h6 (by omega)
      · refine lv_aload_n hx hb dP_idsInUse_9 rfl (lv_at hl 2 rfl) ?_
        refine gx_get (C := mR_P) (T := mT_P) (N' := 7) hx hb ht mh_P hown hV (show 18 + 6 * p < 70 by omega) (cx_E_P hp0) rfl 2 (by decide) (ht _ mw_78) (fun _ h => h) rfl dP_idsInUse_10 ?_
        refine lv_iload_n hx hb dP_idsInUse_13 rfl (lv_at hl 0 rfl) ?_
        refine gx_iald hx hb hV (show 23 + 6 * p < 70 by omega) 0 (cx_E_O hp0) rfl i (by omega) (by decide) rfl dP_idsInUse_14 ?_
        refine lv_iconst (v := -1) hx hb dP_idsInUse_15 (by decide) ?_
        refine lv_icmp_eq (tgt := 22) hx hb dP_idsInUse_16 (by decide) (fun h16 => ?_) (fun h16 => ?_)
        · refine lv_iinc (k := 0) (v := (nI (i + 1))) (lv' := [(2, .int (nI (i + 1))), (1, .int (nI (mq_cnt (fun q => decide (σ (23 + 6 * p) q ≠ -1)) i))), (0, .ref (ad (18 + 6 * p)))]) hx hb dP_idsInUse_22 hl rfl (nI_succ i).symm (by decide) rfl (fun ls hl => ?_)
          refine lv_goto (tgt := 4) hx hb dP_idsInUse_25 (by decide) ?_
          exact ih (i + 1) H locs ls (by omega) hV hS (by rw [mq_cnt_f (by simpa using h16)]; exact hl)
        · refine lv_iinc (k := 1) (v := (nI ((mq_cnt (fun q => decide (σ (23 + 6 * p) q ≠ -1)) i) + 1))) (lv' := [(1, .int (nI ((mq_cnt (fun q => decide (σ (23 + 6 * p) q ≠ -1)) i) + 1))), (2, .int (nI i)), (0, .ref (ad (18 + 6 * p)))]) hx hb dP_idsInUse_19 hl rfl (nI_succ (mq_cnt (fun q => decide (σ (23 + 6 * p) q ≠ -1)) i)).symm (by decide) rfl (fun ls hl => ?_)
          refine lv_iinc (k := 1) (v := (nI (i + 1))) (lv' := [(2, .int (nI (i + 1))), (1, .int (nI ((mq_cnt (fun q => decide (σ (23 + 6 * p) q ≠ -1)) i) + 1))), (0, .ref (ad (18 + 6 * p)))]) hx hb dP_idsInUse_22 hl rfl (nI_succ i).symm (by decide) rfl (fun ls hl => ?_)
          refine lv_goto (tgt := 4) hx hb dP_idsInUse_25 (by decide) ?_
          exact ih (i + 1) H locs ls (by omega) hV hS (by rw [mq_cnt_t (by simpa using h16)]; exact hl)
  exact loop 4 0 _ _ ls (by omega) hV hS hl

set_option maxHeartbeats 4000000 in
set_option maxRecDepth 100000 in
theorem k_P_hasRoomForRequest (l : Launch) {D : va_G} {K : Nat → ClassId} {ad : Nat → Nat} {σ : Nat → Nat → Int32} {τ : Nat → Nat → Int64} {p : Nat} (hp0 : p < 4) {n : Nat} (hn : σ (19 + 6 * p) 1 = nI n) (hn2 : n ≤ 2) : Met l yP_hasRoomForRequest (Cond.code yP_hasRoomForRequest prog_5_method_6_code 1 (some .boolean) :: mx_T) { frames := 1, cells := 0, slots := 0, locals := 22 } (va_Pc [.ref (ad (18 + 6 * p))] (cx_P D K ad σ τ)) (cx_Qi D K ad (fun rr u => rr = (if n < 2 ∧ mq_cnt (fun q => decide (σ (23 + 6 * p) q ≠ -1)) 4 < 4 then nI 1 else nI 0) ∧ u = (σ, τ))) 0 0 (gx_A ad 70) := by
  refine gx_met (by decide) rfl (Nat.le_of_ble_eq_true rfl) ?_
  intro pg ev s mid as below mth c ls hx hb hr hml ht hown hlk hnm hargs hB hl
  obtain ⟨hV, hZ⟩ := hB
  have hS : va_S (gx_A ad 70) s.heap s.heap [] := va_S.rf
  have hl : lv_has ls 1 [(0, .ref (ad (18 + 6 * p)))] := hl
  refine lv_aload_n hx hb dP_hasRoomForRequest_0 rfl (lv_at hl 0 rfl) ?_
  refine gx_get (C := mR_P) (T := mT_P) (N' := 7) hx hb ht mh_P hown hV (show 18 + 6 * p < 70 by omega) (cx_E_P hp0) rfl 0 (by decide) (ht _ mw_74) (fun _ h => h) rfl dP_hasRoomForRequest_1 ?_
  refine gx_calli (va_runV (As := []) (rest := []) ⟨hx, hb, hml, hown, ht⟩ (k_L_isFull l (cx_isL_Q hp0) hn hn2) (cwV 0 ht (mx_gV (C := "MessageCrossbar$Line") mw_324 mw_248 mw_249 mw_3 mw_250) rfl rfl rfl (by decide +kernel) ⟨Nat.le_of_ble_eq_true rfl, Nat.le_of_ble_eq_true rfl⟩) (gx_preV cx_ok hV hZ hS (q := (mR_L, mT_L, 2)) ((cx_isL_Q hp0)).lt.1 (cx_E_L (cx_isL_Q hp0)).1 rfl []) rfl rfl hl.1 rfl (lv_room (Nat.le_of_ble_eq_true rfl)) dP_hasRoomForRequest_4 ⟨Nat.le_of_ble_eq_true rfl, Nat.le_of_ble_eq_true rfl⟩) hV hS (fun r1 σ' τ' H locs hp hV hS => ?_)
  obtain ⟨rfl, hu⟩ := hp
  cases hu
  refine gx_ifb_ne (q := 2 ≤ n) (tgt := 22) hx hb dP_hasRoomForRequest_7 (by decide) (fun h7 => ?_) (fun h7 => ?_)
  · refine lv_iconst (v := nI 0) hx hb dP_hasRoomForRequest_22 (by decide) ?_
    exact gx_zret hx hb hr rfl hV hS ⟨(if_neg (fun q => by omega)).symm, rfl⟩ dP_hasRoomForRequest_23 hlk
  · refine lv_aload_n hx hb dP_hasRoomForRequest_10 rfl (lv_at hl 0 rfl) ?_
    refine gx_calli (va_runV (As := []) (rest := []) ⟨hx, hb, hml, hown, ht⟩ (k_P_idsInUse l hp0) (cwV 0 ht (mx_gV (C := "MessageCrossbar$Port") mw_385 mw_386 mw_387 mw_4 mw_388) rfl rfl rfl (by decide +kernel) ⟨Nat.le_of_ble_eq_true rfl, Nat.le_of_ble_eq_true rfl⟩) (gx_preV cx_ok hV hZ hS (q := (mR_P, mT_P, 7)) (show 18 + 6 * p < 70 by omega) (cx_E_P hp0) rfl []) rfl rfl hl.1 rfl (lv_room (Nat.le_of_ble_eq_true rfl)) dP_hasRoomForRequest_11 ⟨Nat.le_of_ble_eq_true rfl, Nat.le_of_ble_eq_true rfl⟩) hV hS (fun r2 σ' τ' H locs hp hV hS => ?_)
    obtain ⟨rfl, hu⟩ := hp
    cases hu
    refine lv_iconst (v := nI 4) hx hb dP_hasRoomForRequest_14 (by decide) ?_
    refine gx_icmp_ge (a := (mq_cnt (fun q => decide (σ (23 + 6 * p) q ≠ -1)) 4)) (b := 4) (tgt := 22) hx hb dP_hasRoomForRequest_15 (by decide) (mq_cnt_le4 _) (by omega) (fun h15 => ?_) (fun h15 => ?_)
    · refine lv_iconst (v := nI 0) hx hb dP_hasRoomForRequest_22 (by decide) ?_
      exact gx_zret hx hb hr rfl hV hS ⟨(if_neg (fun q => absurd q.2 (by omega))).symm, rfl⟩ dP_hasRoomForRequest_23 hlk
    · refine lv_iconst (v := nI 1) hx hb dP_hasRoomForRequest_18 (by decide) ?_
      refine lv_goto (tgt := 23) hx hb dP_hasRoomForRequest_19 (by decide) ?_
      exact gx_zret hx hb hr rfl hV hS ⟨(if_pos ⟨by omega, h15⟩).symm, rfl⟩ dP_hasRoomForRequest_23 hlk

set_option maxHeartbeats 4000000 in
set_option maxRecDepth 100000 in
theorem k_P_takeLeastId (l : Launch) {D : va_G} {K : Nat → ClassId} {ad : Nat → Nat} {σ : Nat → Nat → Int32} {τ : Nat → Nat → Int64} {p : Nat} (hp0 : p < 4) {key : Int32} : Met l yP_takeLeastId (Cond.code yP_takeLeastId prog_5_method_8_code 3 none :: mx_T) { frames := 0, cells := 0, slots := 0, locals := 0 } (va_Pc [.ref (ad (18 + 6 * p)), .int key] (cx_P D K ad σ τ)) (cx_Qv D K ad (fun u => u = ((match mq_fnd (fun q => decide (σ (23 + 6 * p) q = -1)) 0 4 with | none => σ | some i => cx_up σ (23 + 6 * p) i key), τ))) 0 0 (gx_A ad 70) := by
  refine gx_met (by decide) rfl (Nat.le_of_ble_eq_true rfl) ?_
  intro pg ev s mid as below mth c ls hx hb hr hml ht hown hlk hnm hargs hB hl
  obtain ⟨hV, hZ⟩ := hB
  have hS : va_S (gx_A ad 70) s.heap s.heap [] := va_S.rf
  have hl : lv_has ls 3 [(0, .ref (ad (18 + 6 * p))), (1, .int key)] := hl
  refine lv_iconst (v := nI 0) hx hb dP_takeLeastId_0 (by decide) ?_
  refine lv_istore_n (lv' := [(2, .int (nI 0)), (0, .ref (ad (18 + 6 * p))), (1, .int key)]) hx hb dP_takeLeastId_1 rfl hl (by decide) rfl (fun ls hl => ?_)
  have loop : ∀ (k : Nat) (i : Nat) (H : Heap) (locs : List Loc) (ls : Array Slot), i + k = 4 → mq_fnd (fun q => decide (σ (23 + 6 * p) q = -1)) 0 4 = mq_fnd (fun q => decide (σ (23 + 6 * p) q = -1)) i k → gx_V D mx_cl (mx_tys K) (cx_E ad K) ad 70 (σ) (τ) s H → va_S (gx_A ad 70) s.heap H locs → lv_has ls 3 [(2, .int (nI i)), (0, .ref (ad (18 + 6 * p))), (1, .int key)] → W pg l ev (headSpec (Cond.code yP_takeLeastId prog_5_method_8_code 3 none :: mx_T) { frames := 0, cells := 0, slots := 0, locals := 0 }).room s mid as below mth c H locs 0 0 (MQ below (cx_Qv D K ad (fun u => u = ((match mq_fnd (fun q => decide (σ (23 + 6 * p) q = -1)) 0 4 with | none => σ | some i => cx_up σ (23 + 6 * p) i key), τ))) as s 0 0 (gx_A ad 70)) (F0 mid 2 ls []) := by
    intro k
    induction k with
    | zero =>
      intro i H locs ls hk hf hV hS hl
      refine lv_iload_n hx hb dP_takeLeastId_2 rfl (lv_at hl 0 rfl) ?_
      refine lv_iconst (v := nI 4) hx hb dP_takeLeastId_3 (by decide) ?_
      refine gx_icmp_ge (a := i) (b := 4) (tgt := 31) hx hb dP_takeLeastId_4 (by decide) (by omega) (by omega) (fun h4 => ?_) (fun h4 => ?_)
      · exact gx_vret hx hb hr hV hS (by rw [hf]; rfl) dP_takeLeastId_31 hlk
      · exact absurd h4 (by omega)
    | succ k ih =>
      intro i H locs ls hk hf hV hS hl
      refine lv_iload_n hx hb dP_takeLeastId_2 rfl (lv_at hl 0 rfl) ?_
      refine lv_iconst (v := nI 4) hx hb dP_takeLeastId_3 (by decide) ?_
      refine gx_icmp_ge (a := i) (b := 4) (tgt := 31) hx hb dP_takeLeastId_4 (by decide) (by omega) (by omega) (fun h4 => ?_) (fun h4 => ?_)
      · exact absurd h4 (by omega)
      · refine lv_aload_n hx hb dP_takeLeastId_7 rfl (lv_at hl 1 rfl) ?_
        refine gx_get (C := mR_P) (T := mT_P) (N' := 7) hx hb ht mh_P hown hV (show 18 + 6 * p < 70 by omega) (cx_E_P hp0) rfl 2 (by decide) (ht _ mw_78) (fun _ h => h) rfl dP_takeLeastId_8 ?_
        refine lv_iload_n hx hb dP_takeLeastId_11 rfl (lv_at hl 0 rfl) ?_
        refine gx_iald hx hb hV (show 23 + 6 * p < 70 by omega) 0 (cx_E_O hp0) rfl i (by omega) (by decide) rfl dP_takeLeastId_12 ?_
        refine lv_iconst (v := -1) hx hb dP_takeLeastId_13 (by decide) ?_
        refine lv_icmp_ne (tgt := 25) hx hb dP_takeLeastId_14 (by decide) (fun h14 => ?_) (fun h14 => ?_)
        · refine lv_iinc (k := 0) (v := (nI (i + 1))) (lv' := [(2, .int (nI (i + 1))), (0, .ref (ad (18 + 6 * p))), (1, .int key)]) hx hb dP_takeLeastId_25 hl rfl (nI_succ i).symm (by decide) rfl (fun ls hl => ?_)
          refine lv_goto (tgt := 2) hx hb dP_takeLeastId_28 (by decide) ?_
          exact ih (i + 1) H locs ls (by omega) (by rw [hf, mq_fnd_f (by simpa using h14)]) hV hS hl
        · refine lv_aload_n hx hb dP_takeLeastId_17 rfl (lv_at hl 1 rfl) ?_
          refine gx_get (C := mR_P) (T := mT_P) (N' := 7) hx hb ht mh_P hown hV (show 18 + 6 * p < 70 by omega) (cx_E_P hp0) rfl 2 (by decide) (ht _ mw_78) (fun _ h => h) rfl dP_takeLeastId_18 ?_
          refine lv_iload_n hx hb dP_takeLeastId_21 rfl (lv_at hl 0 rfl) ?_
          refine lv_iload_n hx hb dP_takeLeastId_22 rfl (lv_at hl 2 rfl) ?_
          refine gx_iast cx_loc hx hb hV hS (show 23 + 6 * p < 70 by omega) 0 (cx_E_O hp0) rfl i (by omega) (by decide) rfl dP_takeLeastId_23 (cx_up σ (23 + 6 * p) i key) (by rw [cx_E_O hp0, cx_up_upd]) (fun _ h => cx_up_J h) (fun H locs hV hS => ?_)
          exact gx_vret hx hb hr hV hS (by rw [hf, mq_fnd_t (by simpa using h14)]) dP_takeLeastId_24 hlk
  exact loop 4 0 _ _ ls (by omega) rfl hV hS hl

set_option maxHeartbeats 4000000 in
set_option maxRecDepth 100000 in
theorem k_P_releaseId (l : Launch) {D : va_G} {K : Nat → ClassId} {ad : Nat → Nat} {σ : Nat → Nat → Int32} {τ : Nat → Nat → Int64} {p : Nat} (hp0 : p < 4) {key : Int32} : Met l yP_releaseId (Cond.code yP_releaseId prog_5_method_9_code 3 none :: mx_T) { frames := 0, cells := 0, slots := 0, locals := 0 } (va_Pc [.ref (ad (18 + 6 * p)), .int key] (cx_P D K ad σ τ)) (cx_Qv D K ad (fun u => u = (cx_rel σ p key, τ))) 0 0 (gx_A ad 70) := by
  refine gx_met (by decide) rfl (Nat.le_of_ble_eq_true rfl) ?_
  intro pg ev s mid as below mth c ls hx hb hr hml ht hown hlk hnm hargs hB hl
  obtain ⟨hV, hZ⟩ := hB
  have hS : va_S (gx_A ad 70) s.heap s.heap [] := va_S.rf
  have hl : lv_has ls 3 [(0, .ref (ad (18 + 6 * p))), (1, .int key)] := hl
  refine lv_iconst (v := nI 0) hx hb dP_releaseId_0 (by decide) ?_
  refine lv_istore_n (lv' := [(2, .int (nI 0)), (0, .ref (ad (18 + 6 * p))), (1, .int key)]) hx hb dP_releaseId_1 rfl hl (by decide) rfl (fun ls hl => ?_)
  have loop : ∀ (k : Nat) (i : Nat) (H : Heap) (locs : List Loc) (ls : Array Slot), i + k = 4 → gx_V D mx_cl (mx_tys K) (cx_E ad K) ad 70 (cx_relN σ p key i) (τ) s H → va_S (gx_A ad 70) s.heap H locs → lv_has ls 3 [(2, .int (nI i)), (0, .ref (ad (18 + 6 * p))), (1, .int key)] → W pg l ev (headSpec (Cond.code yP_releaseId prog_5_method_9_code 3 none :: mx_T) { frames := 0, cells := 0, slots := 0, locals := 0 }).room s mid as below mth c H locs 0 0 (MQ below (cx_Qv D K ad (fun u => u = (cx_rel σ p key, τ))) as s 0 0 (gx_A ad 70)) (F0 mid 2 ls []) := by
    intro k
    induction k with
    | zero =>
      intro i H locs ls hk hV hS hl
      refine lv_iload_n hx hb dP_releaseId_2 rfl (lv_at hl 0 rfl) ?_
      refine lv_iconst (v := nI 4) hx hb dP_releaseId_3 (by decide) ?_
      refine gx_icmp_ge (a := i) (b := 4) (tgt := 30) hx hb dP_releaseId_4 (by decide) (by omega) (by omega) (fun h4 => ?_) (fun h4 => ?_)
      · exact gx_vret hx hb hr hV hS (by rw [show i = 4 by omega]; rfl) dP_releaseId_30 hlk
      · exact absurd h4 (by omega)
    | succ k ih =>
      intro i H locs ls hk hV hS hl
      refine lv_iload_n hx hb dP_releaseId_2 rfl (lv_at hl 0 rfl) ?_
      refine lv_iconst (v := nI 4) hx hb dP_releaseId_3 (by decide) ?_
      refine gx_icmp_ge (a := i) (b := 4) (tgt := 30) hx hb dP_releaseId_4 (by decide) (by omega) (by omega) (fun h4 => ?_) (fun h4 => ?_)
      · exact absurd h4 (by omega)
      · refine lv_aload_n hx hb dP_releaseId_7 rfl (lv_at hl 1 rfl) ?_
        refine gx_get (C := mR_P) (T := mT_P) (N' := 7) hx hb ht mh_P hown hV (show 18 + 6 * p < 70 by omega) (cx_E_P hp0) rfl 2 (by decide) (ht _ mw_78) (fun _ h => h) rfl dP_releaseId_8 ?_
        refine lv_iload_n hx hb dP_releaseId_11 rfl (lv_at hl 0 rfl) ?_
        refine gx_ialdv (v := σ (23 + 6 * p) i) hx hb hV (show 23 + 6 * p < 70 by omega) 0 (cx_E_O hp0) rfl i (by omega) (by decide) rfl cx_relN_r dP_releaseId_12 ?_
        refine lv_iload_n hx hb dP_releaseId_13 rfl (lv_at hl 2 rfl) ?_
        refine lv_icmp_ne (tgt := 24) hx hb dP_releaseId_14 (by decide) (fun h14 => ?_) (fun h14 => ?_)
        · refine lv_iinc (k := 0) (v := (nI (i + 1))) (lv' := [(2, .int (nI (i + 1))), (0, .ref (ad (18 + 6 * p))), (1, .int key)]) hx hb dP_releaseId_24 hl rfl (nI_succ i).symm (by decide) rfl (fun ls hl => ?_)
          refine lv_goto (tgt := 2) hx hb dP_releaseId_27 (by decide) ?_
          exact ih (i + 1) H locs ls (by omega) (by rw [cx_relN_f h14]; exact hV) hS hl
        · refine lv_aload_n hx hb dP_releaseId_17 rfl (lv_at hl 1 rfl) ?_
          refine gx_get (C := mR_P) (T := mT_P) (N' := 7) hx hb ht mh_P hown hV (show 18 + 6 * p < 70 by omega) (cx_E_P hp0) rfl 2 (by decide) (ht _ mw_78) (fun _ h => h) rfl dP_releaseId_18 ?_
          refine lv_iload_n hx hb dP_releaseId_21 rfl (lv_at hl 0 rfl) ?_
          refine lv_iconst (v := -1) hx hb dP_releaseId_22 (by decide) ?_
          refine gx_iast cx_loc hx hb hV hS (show 23 + 6 * p < 70 by omega) 0 (cx_E_O hp0) rfl i (by omega) (by decide) rfl dP_releaseId_23 (cx_up (cx_relN σ p key i) (23 + 6 * p) i (-1)) (by rw [cx_E_O hp0, cx_up_upd]) (fun _ h => cx_up_J h) (fun H locs hV hS => ?_)
          refine lv_iinc (k := 0) (v := (nI (i + 1))) (lv' := [(2, .int (nI (i + 1))), (0, .ref (ad (18 + 6 * p))), (1, .int key)]) hx hb dP_releaseId_24 hl rfl (nI_succ i).symm (by decide) rfl (fun ls hl => ?_)
          refine lv_goto (tgt := 2) hx hb dP_releaseId_27 (by decide) ?_
          exact ih (i + 1) H locs ls (by omega) (by rw [cx_relN_t h14]; exact hV) hS hl
  exact loop 4 0 _ _ ls (by omega) (by rw [cx_relN_0]; exact hV) hS hl
