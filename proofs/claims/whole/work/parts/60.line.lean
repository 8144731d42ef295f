/-! lines: isFull, first, append, removeFirst -/
theorem cx_sh_0 {σ : Nat → Nat → Int32} {l : Nat} : cx_sh σ l 0 = σ := by
  funext j k
  unfold cx_sh
  rw [if_neg (by omega)]
theorem cx_sh_1 {σ : Nat → Nat → Int32} {l i : Nat} {v : Int32} : cx_sh (cx_up σ l 1 v) l i l 1 = v := by
  unfold cx_sh
  rw [if_neg (by omega)]
  exact cx_up_s
theorem cx_sh_r {σ : Nat → Nat → Int32} {l i : Nat} {v : Int32} : cx_sh (cx_up σ l 1 v) l i (l + 1) (i + 1) = σ (l + 1) (i + 1) := by
  unfold cx_sh
  rw [if_neg (by omega)]
  exact cx_up_j (by omega)
theorem cx_sh_s {σ : Nat → Nat → Int32} {l i : Nat} {v : Int32} : cx_up (cx_sh (cx_up σ l 1 v) l i) (l + 1) i (σ (l + 1) (i + 1)) = cx_sh (cx_up σ l 1 v) l (i + 1) := by
  funext j k
  unfold cx_up cx_sh
  by_cases hj : j = l + 1
  · subst hj
    by_cases hk : k = i
    · subst hk
      simp
    · by_cases h2 : k < i
      · simp [hk, h2, Nat.lt_succ_of_lt h2]
      · have h3 : ¬ k < i + 1 := by omega
        simp [hk, h2, h3]
  · simp [hj]

set_option maxHeartbeats 4000000 in
set_option maxRecDepth 100000 in
theorem k_L_isFull (l : Launch) {D : va_G} {K : Nat → ClassId} {ad : Nat → Nat} {σ : Nat → Nat → Int32} {τ : Nat → Nat → Int64} {lj r n : Nat} (hj : cx_isL lj r) (hn : σ lj 1 = nI n) (hnr : n ≤ r) : Met l yL_isFull (Cond.code yL_isFull prog_2_method_2_code 1 (some .boolean) :: mx_T) { frames := 0, cells := 0, slots := 0, locals := 0 } (va_Pc [.ref (ad lj)] (cx_P D K ad σ τ)) (cx_Qi D K ad (fun rr u => rr = (if r ≤ n then nI 1 else nI 0) ∧ u = (σ, τ))) 0 0 (gx_A ad 70) := by
  refine gx_met (by decide) rfl (Nat.le_of_ble_eq_true rfl) ?_
  intro pg ev s mid as below mth c ls hx hb hr hml ht hown hlk hnm hargs hB hl
  obtain ⟨hV, hZ⟩ := hB
  have hS : va_S (gx_A ad 70) s.heap s.heap [] := va_S.rf
  have hl : lv_has ls 1 [(0, .ref (ad lj))] := hl
  have hlt := hj.lt
  refine lv_aload_n hx hb dL_isFull_0 rfl (lv_at hl 0 rfl) ?_
  refine gx_get (C := mR_L) (T := mT_L) (N' := 2) (v := .int (nI n)) hx hb ht mh_L hown hV (hj).lt.1 (cx_E_L hj).1 rfl 1 (by decide) (ht _ mw_35) (fun _ h => h) (congrArg (fun z => some (Value.int z)) hn) dL_isFull_1 ?_
  refine lv_aload_n hx hb dL_isFull_4 rfl (lv_at hl 0 rfl) ?_
  refine gx_get (C := mR_L) (T := mT_L) (N' := 2) hx hb ht mh_L hown hV (hj).lt.1 (cx_E_L hj).1 rfl 0 (by decide) (ht _ mw_34) (fun _ h => h) rfl dL_isFull_5 ?_
  refine gx_alen (v := nI r) hx hb hV (hj).lt.2.1 0 (cx_E_L hj).2 rfl rfl dL_isFull_8 ?_
  refine gx_icmp_lt (a := n) (b := r) (tgt := 16) hx hb dL_isFull_9 (by decide) (by omega) (by omega) (fun h9 => ?_) (fun h9 => ?_)
  · refine lv_iconst (v := nI 0) hx hb dL_isFull_16 (by decide) ?_
    exact gx_zret hx hb hr rfl hV hS ⟨(if_neg (by omega)).symm, rfl⟩ dL_isFull_17 hlk
  · refine lv_iconst (v := nI 1) hx hb dL_isFull_12 (by decide) ?_
    refine lv_goto (tgt := 17) hx hb dL_isFull_13 (by decide) ?_
    exact gx_zret hx hb hr rfl hV hS ⟨(if_pos (by omega)).symm, rfl⟩ dL_isFull_17 hlk

set_option maxHeartbeats 4000000 in
set_option maxRecDepth 100000 in
theorem k_L_first (l : Launch) {D : va_G} {K : Nat → ClassId} {ad : Nat → Nat} {σ : Nat → Nat → Int32} {τ : Nat → Nat → Int64} {lj r n : Nat} (hj : cx_isL lj r) (hn : σ lj 1 = nI n) (hnr : n ≤ r) : Met l yL_first (Cond.code yL_first prog_2_method_3_code 1 (some .int) :: mx_T) { frames := 0, cells := 0, slots := 0, locals := 0 } (va_Pc [.ref (ad lj)] (cx_P D K ad σ τ)) (cx_Qi D K ad (fun rr u => rr = (if n = 0 then -1 else σ (lj + 1) 0) ∧ u = (σ, τ))) 0 0 (gx_A ad 70) := by
  refine gx_met (by decide) rfl (Nat.le_of_ble_eq_true rfl) ?_
  intro pg ev s mid as below mth c ls hx hb hr hml ht hown hlk hnm hargs hB hl
  obtain ⟨hV, hZ⟩ := hB
  have hS : va_S (gx_A ad 70) s.heap s.heap [] := va_S.rf
  have hl : lv_has ls 1 [(0, .ref (ad lj))] := hl
  have hlt := hj.lt
  refine lv_aload_n hx hb dL_first_0 rfl (lv_at hl 0 rfl) ?_
  refine gx_get (C := mR_L) (T := mT_L) (N' := 2) (v := .int (nI n)) hx hb ht mh_L hown hV (hj).lt.1 (cx_E_L hj).1 rfl 1 (by decide) (ht _ mw_35) (fun _ h => h) (congrArg (fun z => some (Value.int z)) hn) dL_first_1 ?_
  refine gx_if_ne (a := n) (tgt := 11) hx hb dL_first_4 (by decide) (by omega) (fun h4 => ?_) (fun h4 => ?_)
  · refine lv_aload_n hx hb dL_first_11 rfl (lv_at hl 0 rfl) ?_
    refine gx_get (C := mR_L) (T := mT_L) (N' := 2) hx hb ht mh_L hown hV (hj).lt.1 (cx_E_L hj).1 rfl 0 (by decide) (ht _ mw_34) (fun _ h => h) rfl dL_first_12 ?_
    refine lv_iconst (v := nI 0) hx hb dL_first_15 (by decide) ?_
    refine gx_iald hx hb hV (hj).lt.2.1 0 (cx_E_L hj).2 rfl 0 (by omega) (by have := (hj).lt; omega) rfl dL_first_16 ?_
    exact gx_iret hx hb hr hV hS ⟨(if_neg h4).symm, rfl⟩ dL_first_17 hlk
  · refine lv_iconst (v := -1) hx hb dL_first_7 (by decide) ?_
    refine lv_goto (tgt := 17) hx hb dL_first_8 (by decide) ?_
    exact gx_iret hx hb hr hV hS ⟨(if_pos h4).symm, rfl⟩ dL_first_17 hlk

set_option maxHeartbeats 4000000 in
set_option maxRecDepth 100000 in
theorem k_L_append (l : Launch) {D : va_G} {K : Nat → ClassId} {ad : Nat → Nat} {σ : Nat → Nat → Int32} {τ : Nat → Nat → Int64} {lj r n : Nat} {key : Int32} (hj : cx_isL lj r) (hn : σ lj 1 = nI n) (hnr : n < r) : Met l yL_append (Cond.code yL_append prog_2_method_4_code 2 none :: mx_T) { frames := 0, cells := 0, slots := 0, locals := 0 } (va_Pc [.ref (ad lj), .int key] (cx_P D K ad σ τ)) (cx_Qv D K ad (fun u => u = (cx_app σ lj n key, τ))) 0 0 (gx_A ad 70) := by
  refine gx_met (by decide) rfl (Nat.le_of_ble_eq_true rfl) ?_
  intro pg ev s mid as below mth c ls hx hb hr hml ht hown hlk hnm hargs hB hl
  obtain ⟨hV, hZ⟩ := hB
  have hS : va_S (gx_A ad 70) s.heap s.heap [] := va_S.rf
  have hl : lv_has ls 2 [(0, .ref (ad lj)), (1, .int key)] := hl
  have hlt := hj.lt
  refine lv_aload_n hx hb dL_append_0 rfl (lv_at hl 0 rfl) ?_
  refine gx_get (C := mR_L) (T := mT_L) (N' := 2) (v := .int (nI n)) hx hb ht mh_L hown hV (hj).lt.1 (cx_E_L hj).1 rfl 1 (by decide) (ht _ mw_35) (fun _ h => h) (congrArg (fun z => some (Value.int z)) hn) dL_append_1 ?_
  refine lv_aload_n hx hb dL_append_4 rfl (lv_at hl 0 rfl) ?_
  refine gx_get (C := mR_L) (T := mT_L) (N' := 2) hx hb ht mh_L hown hV (hj).lt.1 (cx_E_L hj).1 rfl 0 (by decide) (ht _ mw_34) (fun _ h => h) rfl dL_append_5 ?_
  refine gx_alen (v := nI r) hx hb hV (hj).lt.2.1 0 (cx_E_L hj).2 rfl rfl dL_append_8 ?_
  refine gx_icmp_ge (a := n) (b := r) (tgt := 32) hx hb dL_append_9 (by decide) (by omega) (by omega) (fun h9 => ?_) (fun h9 => ?_)
  · exact absurd hnr (by omega)
  · refine lv_aload_n hx hb dL_append_12 rfl (lv_at hl 0 rfl) ?_
    refine gx_get (C := mR_L) (T := mT_L) (N' := 2) hx hb ht mh_L hown hV (hj).lt.1 (cx_E_L hj).1 rfl 0 (by decide) (ht _ mw_34) (fun _ h => h) rfl dL_append_13 ?_
    refine lv_aload_n hx hb dL_append_16 rfl (lv_at hl 0 rfl) ?_
    refine gx_get (C := mR_L) (T := mT_L) (N' := 2) (v := .int (nI n)) hx hb ht mh_L hown hV (hj).lt.1 (cx_E_L hj).1 rfl 1 (by decide) (ht _ mw_35) (fun _ h => h) (congrArg (fun z => some (Value.int z)) hn) dL_append_17 ?_
    refine lv_iload_n hx hb dL_append_20 rfl (lv_at hl 1 rfl) ?_
    refine gx_iast cx_loc hx hb hV hS (hj).lt.2.1 0 (cx_E_L hj).2 rfl n hnr (by have := (hj).lt; omega) rfl dL_append_21 (cx_up σ (lj + 1) n key) (by rw [(cx_E_L hj).2, cx_up_upd]) (fun _ h => cx_up_J h) (fun H locs hV hS => ?_)
    refine lv_aload_n hx hb dL_append_22 rfl (lv_at hl 0 rfl) ?_
    refine lv_dup hx hb dL_append_23 rfl ?_
    refine gx_get (C := mR_L) (T := mT_L) (N' := 2) (v := .int (nI n)) hx hb ht mh_L hown hV (hj).lt.1 (cx_E_L hj).1 rfl 1 (by decide) (ht _ mw_35) (fun _ h => h) (congrArg (fun z => some (Value.int z)) ((cx_up_j (by omega)).trans hn)) dL_append_24 ?_
    refine lv_iconst (v := nI 1) hx hb dL_append_27 (by decide) ?_
    refine gx_iadd (a := n) (b := 1) hx hb dL_append_28 ?_
    refine gx_put cx_loc (C := mR_L) (T := mT_L) (N' := 2) (ty := .int) (v := .int (nI (n + 1))) hx hb ht mh_L mt_L mk_L mn_L hown hV hS (hj).lt.1 (cx_E_L hj).1 rfl 1 (by decide) (ht _ mw_35) (fun _ h => h) rfl (by decide +kernel) rfl rfl (Nat.le_of_ble_eq_true rfl) dL_append_29 (cx_up (cx_up σ (lj + 1) n key) lj 1 (nI (n + 1))) τ (by rw [(cx_E_L hj).1]; simp [cx_up, gx_upL]) (fun _ h => cx_up_J h) (fun _ _ => rfl) (fun H locs hV hS => ?_)
    exact gx_vret hx hb hr hV hS rfl dL_append_32 hlk

set_option maxHeartbeats 4000000 in
set_option maxRecDepth 100000 in
theorem k_L_removeFirst (l : Launch) {D : va_G} {K : Nat → ClassId} {ad : Nat → Nat} {σ : Nat → Nat → Int32} {τ : Nat → Nat → Int64} {lj r t : Nat} (hj : cx_isL lj r) (hn : σ lj 1 = nI (t + 1)) (hnr : t + 1 ≤ r) : Met l yL_removeFirst (Cond.code yL_removeFirst prog_2_method_5_code 3 (some .int) :: mx_T) { frames := 0, cells := 0, slots := 0, locals := 0 } (va_Pc [.ref (ad lj)] (cx_P D K ad σ τ)) (cx_Qi D K ad (fun rr u => rr = σ (lj + 1) 0 ∧ u = (cx_rem σ lj t, τ))) 0 0 (gx_A ad 70) := by
  refine gx_met (by decide) rfl (Nat.le_of_ble_eq_true rfl) ?_
  intro pg ev s mid as below mth c ls hx hb hr hml ht hown hlk hnm hargs hB hl
  obtain ⟨hV, hZ⟩ := hB
  have hS : va_S (gx_A ad 70) s.heap s.heap [] := va_S.rf
  have hl : lv_has ls 3 [(0, .ref (ad lj))] := hl
  have hlt := hj.lt
  refine lv_aload_n hx hb dL_removeFirst_0 rfl (lv_at hl 0 rfl) ?_
  refine gx_get (C := mR_L) (T := mT_L) (N' := 2) (v := .int (nI (t + 1))) hx hb ht mh_L hown hV (hj).lt.1 (cx_E_L hj).1 rfl 1 (by decide) (ht _ mw_35) (fun _ h => h) (congrArg (fun z => some (Value.int z)) hn) dL_removeFirst_1 ?_
  refine gx_if_ne (a := (t + 1)) (tgt := 9) hx hb dL_removeFirst_4 (by decide) (by omega) (fun h4 => ?_) (fun h4 => ?_)
  · refine lv_aload_n hx hb dL_removeFirst_9 rfl (lv_at hl 0 rfl) ?_
    refine gx_get (C := mR_L) (T := mT_L) (N' := 2) hx hb ht mh_L hown hV (hj).lt.1 (cx_E_L hj).1 rfl 0 (by decide) (ht _ mw_34) (fun _ h => h) rfl dL_removeFirst_10 ?_
    refine lv_iconst (v := nI 0) hx hb dL_removeFirst_13 (by decide) ?_
    refine gx_iald hx hb hV (hj).lt.2.1 0 (cx_E_L hj).2 rfl 0 (by omega) (by have := (hj).lt; omega) rfl dL_removeFirst_14 ?_
    refine lv_istore_n (lv' := [(1, .int (σ (lj + 1) 0)), (0, .ref (ad lj))]) hx hb dL_removeFirst_15 rfl hl (by decide) rfl (fun ls hl => ?_)
    refine lv_aload_n hx hb dL_removeFirst_16 rfl (lv_at hl 1 rfl) ?_
    refine lv_dup hx hb dL_removeFirst_17 rfl ?_
    refine gx_get (C := mR_L) (T := mT_L) (N' := 2) (v := .int (nI (t + 1))) hx hb ht mh_L hown hV (hj).lt.1 (cx_E_L hj).1 rfl 1 (by decide) (ht _ mw_35) (fun _ h => h) (congrArg (fun z => some (Value.int z)) hn) dL_removeFirst_18 ?_
    refine lv_iconst (v := nI 1) hx hb dL_removeFirst_21 (by decide) ?_
    refine gx_isub (a := (t + 1)) (b := 1) hx hb dL_removeFirst_22 (by omega) ?_
    refine gx_put cx_loc (C := mR_L) (T := mT_L) (N' := 2) (ty := .int) (v := .int (nI t)) hx hb ht mh_L mt_L mk_L mn_L hown hV hS (hj).lt.1 (cx_E_L hj).1 rfl 1 (by decide) (ht _ mw_35) (fun _ h => h) rfl (by decide +kernel) rfl rfl (Nat.le_of_ble_eq_true rfl) dL_removeFirst_23 (cx_up σ lj 1 (nI t)) τ (by rw [(cx_E_L hj).1]; simp [cx_up, gx_upL]) (fun _ h => cx_up_J h) (fun _ _ => rfl) (fun H locs hV hS => ?_)
    refine lv_iconst (v := nI 0) hx hb dL_removeFirst_26 (by decide) ?_
    refine lv_istore_n (lv' := [(2, .int (nI 0)), (1, .int (σ (lj + 1) 0)), (0, .ref (ad lj))]) hx hb dL_removeFirst_27 rfl hl (by decide) rfl (fun ls hl => ?_)
    have loop : ∀ (k : Nat) (i : Nat) (H : Heap) (locs : List Loc) (ls : Array Slot), i + k = t → gx_V D mx_cl (mx_tys K) (cx_E ad K) ad 70 (cx_sh (cx_up σ lj 1 (nI t)) lj i) (τ) s H → va_S (gx_A ad 70) s.heap H locs → lv_has ls 3 [(2, .int (nI i)), (1, .int (σ (lj + 1) 0)), (0, .ref (ad lj))] → W pg l ev (headSpec (Cond.code yL_removeFirst prog_2_method_5_code 3 (some .int) :: mx_T) { frames := 0, cells := 0, slots := 0, locals := 0 }).room s mid as below mth c H locs 0 0 (MQ below (cx_Qi D K ad (fun rr u => rr = σ (lj + 1) 0 ∧ u = (cx_rem σ lj t, τ))) as s 0 0 (gx_A ad 70)) (F0 mid 28 ls []) := by
      intro k
      induction k with
      | zero =>
        intro i H locs ls hk hV hS hl
        refine lv_iload_n hx hb dL_removeFirst_28 rfl (lv_at hl 0 rfl) ?_
        refine lv_aload_n hx hb dL_removeFirst_29 rfl (lv_at hl 2 rfl) ?_
        refine gx_get (C := mR_L) (T := mT_L) (N' := 2) (v := .int (nI t)) hx hb ht mh_L hown hV (hj).lt.1 (cx_E_L hj).1 rfl 1 (by decide) (ht _ mw_35) (fun _ h => h) (congrArg (fun z => some (Value.int z)) cx_sh_1) dL_removeFirst_30 ?_
        refine gx_icmp_ge (a := i) (b := t) (tgt := 56) hx hb dL_removeFirst_33 (by decide) (by omega) (by omega) (fun h33 => ?_) (fun h33 => ?_)
        · refine lv_iload_n hx hb dL_removeFirst_56 rfl (lv_at hl 1 rfl) ?_
          exact gx_iret hx hb hr hV hS ⟨rfl, by rw [show i = t by omega]; rfl⟩ dL_removeFirst_57 hlk
        · exact absurd h33 (by omega)
      | succ k ih =>
        intro i H locs ls hk hV hS hl
        refine lv_iload_n hx hb dL_removeFirst_28 rfl (lv_at hl 0 rfl) ?_
        refine lv_aload_n hx hb dL_removeFirst_29 rfl (lv_at hl 2 rfl) ?_
        refine gx_get (C := mR_L) (T := mT_L) (N' := 2) (v := .int (nI t)) hx hb ht mh_L hown hV (hj).lt.1 (cx_E_L hj).1 rfl 1 (by decide) (ht _ mw_35) (fun _ h => h) (congrArg (fun z => some (Value.int z)) cx_sh_1) dL_removeFirst_30 ?_
        refine gx_icmp_ge (a := i) (b := t) (tgt := 56) hx hb dL_removeFirst_33 (by decide) (by omega) (by omega) (fun h33 => ?_) (fun h33 => ?_)
        · exact absurd h33 (by omega)
        · refine lv_aload_n hx hb dL_removeFirst_36 rfl (lv_at hl 2 rfl) ?_
          refine gx_get (C := mR_L) (T := mT_L) (N' := 2) hx hb ht mh_L hown hV (hj).lt.1 (cx_E_L hj).1 rfl 0 (by decide) (ht _ mw_34) (fun _ h => h) rfl dL_removeFirst_37 ?_
          refine lv_iload_n hx hb dL_removeFirst_40 rfl (lv_at hl 0 rfl) ?_
          refine lv_aload_n hx hb dL_removeFirst_41 rfl (lv_at hl 2 rfl) ?_
          refine gx_get (C := mR_L) (T := mT_L) (N' := 2) hx hb ht mh_L hown hV (hj).lt.1 (cx_E_L hj).1 rfl 0 (by decide) (ht _ mw_34) (fun _ h => h) rfl dL_removeFirst_42 ?_
          refine lv_iload_n hx hb dL_removeFirst_45 rfl (lv_at hl 0 rfl) ?_
          refine lv_iconst (v := nI 1) hx hb dL_removeFirst_46 (by decide) ?_
          refine gx_iadd (a := i) (b := 1) hx hb dL_removeFirst_47 ?_
          refine gx_ialdv (v := σ (lj + 1) (i + 1)) hx hb hV (hj).lt.2.1 0 (cx_E_L hj).2 rfl (i + 1) (by omega) (by have := (hj).lt; omega) rfl cx_sh_r dL_removeFirst_48 ?_
          refine gx_iast cx_loc hx hb hV hS (hj).lt.2.1 0 (cx_E_L hj).2 rfl i (by omega) (by have := (hj).lt; omega) rfl dL_removeFirst_49 (cx_up (cx_sh (cx_up σ lj 1 (nI t)) lj i) (lj + 1) i (σ (lj + 1) (i + 1))) (by rw [(cx_E_L hj).2, cx_up_upd]) (fun _ h => cx_up_J h) (fun H locs hV hS => ?_)
          refine lv_iinc (k := 0) (v := (nI (i + 1))) (lv' := [(2, .int (nI (i + 1))), (1, .int (σ (lj + 1) 0)), (0, .ref (ad lj))]) hx hb dL_removeFirst_50 hl rfl (nI_succ i).symm (by decide) rfl (fun ls hl => ?_)
          refine lv_goto (tgt := 28) hx hb dL_removeFirst_53 (by decide) ?_
          exact ih (i + 1) H locs ls (by omega) (by rw [← cx_sh_s]; exact hV) hS hl
    exact loop t 0 H locs ls (by omega) (by rw [cx_sh_0]; exact hV) hS hl
  · exact absurd h4 (by omega)

set_option maxHeartbeats 4000000 in
set_option maxRecDepth 100000 in
theorem k_L_removeNone (l : Launch) {D : va_G} {K : Nat → ClassId} {ad : Nat → Nat} {σ : Nat → Nat → Int32} {τ : Nat → Nat → Int64} {lj r : Nat} (hj : cx_isL lj r) (hn : σ lj 1 = nI 0) : Met l yL_removeFirst (Cond.code yL_removeFirst prog_2_method_5_code 3 (some .int) :: mx_T) { frames := 0, cells := 0, slots := 0, locals := 0 } (va_Pc [.ref (ad lj)] (cx_P D K ad σ τ)) (cx_Qi D K ad (fun rr u => rr = -1 ∧ u = (σ, τ))) 0 0 (gx_A ad 70) := by
  refine gx_met (by decide) rfl (Nat.le_of_ble_eq_true rfl) ?_
  intro pg ev s mid as below mth c ls hx hb hr hml ht hown hlk hnm hargs hB hl
  obtain ⟨hV, hZ⟩ := hB
  have hS : va_S (gx_A ad 70) s.heap s.heap [] := va_S.rf
  have hl : lv_has ls 3 [(0, .ref (ad lj))] := hl
  have hlt := hj.lt
  refine lv_aload_n hx hb dL_removeFirst_0 rfl (lv_at hl 0 rfl) ?_
  refine gx_get (C := mR_L) (T := mT_L) (N' := 2) (v := .int (nI 0)) hx hb ht mh_L hown hV (hj).lt.1 (cx_E_L hj).1 rfl 1 (by decide) (ht _ mw_35) (fun _ h => h) (congrArg (fun z => some (Value.int z)) hn) dL_removeFirst_1 ?_
  refine gx_if_ne (a := 0) (tgt := 9) hx hb dL_removeFirst_4 (by decide) (by omega) (fun h4 => ?_) (fun h4 => ?_)
  · exact absurd rfl h4
  · refine lv_iconst (v := -1) hx hb dL_removeFirst_7 (by decide) ?_
    exact gx_iret hx hb hr hV hS ⟨rfl, rfl⟩ dL_removeFirst_8 hlk
