/-! the crossbar's own methods: serving -/
def cx_ix (k : Nat) : Int32 := match k with
  | 0 => -1
  | k + 1 => nI k
theorem cx_ix_s (k : Nat) : nI k + Int32.ofInt (-1) = cx_ix k := by
  cases k with
  | zero => decide
  | succ k => exact pk_m1 k
theorem cx_ix_1 {n : Nat} (h : 0 < n) : nI n - nI 1 = cx_ix n := by
  cases n with
  | zero => omega
  | succ n => exact nI_pred n
theorem cx_p8 {z : Nat} (h : z < 4) : 0 < 2 ^ z ∧ 2 ^ z ≤ 8 := by
  have : z = 0 ∨ z = 1 ∨ z = 2 ∨ z = 3 := by omega
  rcases this with rfl | rfl | rfl | rfl <;> decide
theorem cx_acc {G Gk c acc k : Nat} (h : G = (Gk + c * 256 ^ k) + 256 ^ (k + 1) * acc) : G = Gk + 256 ^ k * (acc * 256 + c) := by
  rw [h, Nat.pow_succ, Nat.mul_add, Nat.mul_comm c, Nat.mul_assoc, Nat.mul_comm acc 256]
  omega
theorem cx_accb {n k acc c : Nat} (h : acc < 256 ^ (n - (k + 1))) (hk : k < n) (hc : c < 256) : acc * 256 + c < 256 ^ (n - k) := by
  rw [show n - k = (n - (k + 1)) + 1 by omega, Nat.pow_succ]
  omega
theorem cx_pow8 {n k : Nat} (h : n ≤ 8) : 256 ^ (n - k) ≤ 2 ^ 64 := by
  have : 256 ^ (n - k) ≤ 256 ^ 8 := Nat.pow_le_pow_right (by omega) (by omega)
  exact this

set_option maxHeartbeats 4000000 in
set_option maxRecDepth 100000 in
theorem k_X_readBytes (l : Launch) {D : va_G} {K : Nat → ClassId} {ad : Nat → Nat} {σ : Nat → Nat → Int32} {τ : Nat → Nat → Int64} {x z a : Nat} (hx2 : x < 24) (hz : σ (43 + x) 1 = nI z) (hz4 : z < 4) (ha : σ (43 + x) 2 = nI a) (hae : a + 2 ^ z ≤ 640) {bt : Nat → Nat} (hbt : ∀ q, q < 640 → bt q < 256 ∧ σ 67 q = (nI (bt q)).toInt8.toInt32) : Met l yX_readBytes (Cond.code yX_readBytes prog_1_method_23_code 5 (some .long) :: mx_T) { frames := 1, cells := 0, slots := 0, locals := 20 } (va_Pc [.ref (ad 0), .ref (ad (43 + x))] (cx_P D K ad σ τ)) (cx_Ql D K ad (fun rr u => rr = lN (mq_got bt a (2 ^ z)) ∧ u = (σ, τ))) 0 0 (gx_A ad 70) := by
  refine gx_met (by decide) rfl (Nat.le_of_ble_eq_true rfl) ?_
  intro pg ev s mid as below mth c ls hx hb hr hml ht hown hlk hnm hargs hB hl
  obtain ⟨hV, hZ⟩ := hB
  have hS : va_S (gx_A ad 70) s.heap s.heap [] := va_S.rf
  have hl : lv_has ls 5 [(0, .ref (ad 0)), (1, .ref (ad (43 + x)))] := hl
  have hz8 := cx_p8 hz4
  refine lv_lconst (v := 0) hx hb dX_readBytes_0 (by decide) ?_
  refine lv_lstore_n (lv' := [(2, .long 0), (0, .ref (ad 0)), (1, .ref (ad (43 + x)))]) hx hb dX_readBytes_1 rfl hl (by decide) rfl (fun ls hl => ?_)
  refine lv_aload_n hx hb dX_readBytes_2 rfl (lv_at hl 2 rfl) ?_
  refine gx_calli (va_runV (As := []) (rest := []) ⟨hx, hb, hml, hown, ht⟩ (k_G_size l hx2 hz hz4) (cwV 0 ht (mx_gV (C := "MessageCrossbar$Message") mw_346 mw_347 mw_348 mw_5 mw_349) rfl rfl rfl (by decide +kernel) ⟨Nat.le_of_ble_eq_true rfl, Nat.le_of_ble_eq_true rfl⟩) (gx_preV cx_ok hV hZ hS (q := (mR_G, mT_G, 5)) (show 43 + x < 70 by omega) (cx_E_G hx2) rfl []) rfl rfl hl.1 rfl (lv_room (Nat.le_of_ble_eq_true rfl)) dX_readBytes_3 ⟨Nat.le_of_ble_eq_true rfl, Nat.le_of_ble_eq_true rfl⟩) hV hS (fun r1 σ' τ' H locs hp hV hS => ?_)
  obtain ⟨rfl, hu⟩ := hp
  cases hu
  refine lv_iconst (v := nI 1) hx hb dX_readBytes_6 (by decide) ?_
  refine lv_isub hx hb dX_readBytes_7 ?_
  refine gx_top (cx_ix_1 hz8.1) ?_
  refine lv_istore (lv' := [(4, .int (cx_ix (2 ^ z))), (2, .long 0), (0, .ref (ad 0)), (1, .ref (ad (43 + x)))]) hx hb dX_readBytes_8 hl (by decide) rfl (fun ls hl => ?_)
  have loop : ∀ (k : Nat) (acc : Nat) (H : Heap) (locs : List Loc) (ls : Array Slot), k ≤ 2 ^ z → acc < 256 ^ (2 ^ z - k) → mq_got bt a (2 ^ z) = mq_got bt a k + 256 ^ k * acc → gx_V D mx_cl (mx_tys K) (cx_E ad K) ad 70 (σ) (τ) s H → va_S (gx_A ad 70) s.heap H locs → lv_has ls 5 [(4, .int (cx_ix k)), (2, .long (lN acc)), (0, .ref (ad 0)), (1, .ref (ad (43 + x)))] → W pg l ev (headSpec (Cond.code yX_readBytes prog_1_method_23_code 5 (some .long) :: mx_T) { frames := 1, cells := 0, slots := 0, locals := 20 }).room s mid as below mth c H locs 0 0 (MQ below (cx_Ql D K ad (fun rr u => rr = lN (mq_got bt a (2 ^ z)) ∧ u = (σ, τ))) as s 0 0 (gx_A ad 70)) (F0 mid 10 ls []) := by
    intro k
    induction k with
    | zero =>
      intro acc H locs ls hkn hac hga hV hS hl
      have hl : lv_has ls 5 [(4, .int (cx_ix 0)), (2, .long (lN acc)), (0, .ref (ad 0)), (1, .ref (ad (43 + x)))] := hl
      refine lv_iload hx hb dX_readBytes_10 (lv_at hl 0 rfl) ?_
      refine lv_if_lt (tgt := 44) hx hb dX_readBytes_12 (by decide) (fun h12 => ?_) (fun h12 => ?_)
      · refine lv_lload_n hx hb dX_readBytes_44 rfl (lv_at hl 1 rfl) ?_
        exact gx_lret hx hb hr hV hS ⟨by rw [hga]; simp [mq_got], rfl⟩ dX_readBytes_45 hlk
      · exact absurd (show cx_ix 0 < 0 by decide) h12
    | succ k ih =>
      intro acc H locs ls hkn hac hga hV hS hl
      have hl : lv_has ls 5 [(4, .int (nI k)), (2, .long (lN acc)), (0, .ref (ad 0)), (1, .ref (ad (43 + x)))] := hl
      have hga : mq_got bt a (2 ^ z) = (mq_got bt a k + bt (a + k) * 256 ^ k) + 256 ^ (k + 1) * acc := hga
      refine lv_iload hx hb dX_readBytes_10 (lv_at hl 0 rfl) ?_
      refine lv_if_lt (tgt := 44) hx hb dX_readBytes_12 (by decide) (fun h12 => ?_) (fun h12 => ?_)
      · exact absurd h12 (nI_pos (by omega))
      · refine lv_lload_n hx hb dX_readBytes_15 rfl (lv_at hl 1 rfl) ?_
        refine lv_bipush (v := nI 8) hx hb dX_readBytes_16 (by decide) ?_
        refine lv_lshl hx hb dX_readBytes_18 rfl ?_
        refine lv_aload_n hx hb dX_readBytes_19 rfl (lv_at hl 2 rfl) ?_
        refine gx_get (C := mR_X) (T := mT_X) (N' := 7) hx hb ht mh_X hown hV (by decide) cx_E_X rfl 3 (by decide) (ht _ mw_132) (fun _ h => h) rfl dX_readBytes_20 ?_
        refine lv_aload_n hx hb dX_readBytes_23 rfl (lv_at hl 3 rfl) ?_
        refine gx_get (C := mR_G) (T := mT_G) (N' := 5) (v := .int (nI a)) hx hb ht mh_G hown hV (show 43 + x < 70 by omega) (cx_E_G hx2) rfl 2 (by decide) (ht _ mw_114) (fun _ h => h) (congrArg (fun z => some (Value.int z)) ha) dX_readBytes_24 ?_
        refine lv_iload hx hb dX_readBytes_27 (lv_at hl 0 rfl) ?_
        refine gx_iadd (a := a) (b := k) hx hb dX_readBytes_29 ?_
        refine gx_bald hx hb hV (by decide) 1 cx_E_By rfl (a + k) (by omega) (by decide) rfl dX_readBytes_30 ?_
        refine lv_sipush (v := nI 255) hx hb dX_readBytes_31 (by decide) ?_
        refine lv_iand hx hb dX_readBytes_34 ?_
        refine gx_top (y := nI (bt (a + k))) (by rw [(hbt (a + k) (by omega)).2]; exact cx_by _ (hbt (a + k) (by omega)).1) ?_
        refine lv_i2l hx hb dX_readBytes_35 rfl ?_
        refine lv_lor hx hb dX_readBytes_36 ?_
        refine gx_topl (cx_rd (acc := acc) (b := bt (a + k)) (hbt (a + k) (by omega)).1 (by have := cx_accb hac (show k < 2 ^ z by omega) (hbt (a + k) (by omega)).1; have := cx_pow8 (n := 2 ^ z) (k := k) hz8.2; omega)) ?_
        refine lv_lstore_n (lv' := [(2, .long (lN (acc * 256 + bt (a + k)))), (4, .int (nI k)), (0, .ref (ad 0)), (1, .ref (ad (43 + x)))]) hx hb dX_readBytes_37 rfl hl (by decide) rfl (fun ls hl => ?_)
        refine lv_iinc (k := 1) (v := cx_ix k) (lv' := [(4, .int (cx_ix k)), (2, .long (lN (acc * 256 + bt (a + k)))), (0, .ref (ad 0)), (1, .ref (ad (43 + x)))]) hx hb dX_readBytes_38 hl rfl (cx_ix_s k) (by decide) rfl (fun ls hl => ?_)
        refine lv_goto (tgt := 10) hx hb dX_readBytes_41 (by decide) ?_
        exact ih (acc * 256 + bt (a + k)) H locs ls (by omega) (cx_accb hac (by omega) (hbt (a + k) (by omega)).1) (cx_acc hga) hV hS (lv_sub hl [0, 1, 2, 3] rfl)
  exact loop (2 ^ z) 0 _ _ ls (Nat.le_refl _) (by rw [Nat.sub_self]; decide) (by omega) hV hS hl

set_option maxHeartbeats 4000000 in
set_option maxRecDepth 100000 in
theorem k_X_writeBytes (l : Launch) {D : va_G} {K : Nat → ClassId} {ad : Nat → Nat} {σ : Nat → Nat → Int32} {τ : Nat → Nat → Int64} {x z a : Nat} (hx2 : x < 24) (hz : σ (43 + x) 1 = nI z) (hz4 : z < 4) (ha : σ (43 + x) 2 = nI a) (hae : a + 2 ^ z ≤ 640) {so mk : Nat} (hso : σ (43 + x) 0 = nI so) (hso3 : so < 3) (hmk : σ (43 + x) 4 = nI mk) (hmk2 : mk < 256) : Met l yX_writeBytes (Cond.code yX_writeBytes prog_1_method_24_code 3 none :: mx_T) { frames := 1, cells := 0, slots := 0, locals := 21 } (va_Pc [.ref (ad 0), .ref (ad (43 + x))] (cx_P D K ad σ τ)) (cx_Qv D K ad (fun u => u = (cx_wr σ so mk a (τ (43 + x) 0) (2 ^ z), τ))) 0 0 (gx_A ad 70) := by
  refine gx_met (by decide) rfl (Nat.le_of_ble_eq_true rfl) ?_
  intro pg ev s mid as below mth c ls hx hb hr hml ht hown hlk hnm hargs hB hl
  obtain ⟨hV, hZ⟩ := hB
  have hS : va_S (gx_A ad 70) s.heap s.heap [] := va_S.rf
  have hl : lv_has ls 3 [(0, .ref (ad 0)), (1, .ref (ad (43 + x)))] := hl
  have hz8 := cx_p8 hz4
  refine lv_iconst (v := nI 0) hx hb dX_writeBytes_0 (by decide) ?_
  refine lv_istore_n (lv' := [(2, .int (nI 0)), (0, .ref (ad 0)), (1, .ref (ad (43 + x)))]) hx hb dX_writeBytes_1 rfl hl (by decide) rfl (fun ls hl => ?_)
  have loop : ∀ (k : Nat) (i : Nat) (H : Heap) (locs : List Loc) (ls : Array Slot), i + k = 2 ^ z → gx_V D mx_cl (mx_tys K) (cx_E ad K) ad 70 (cx_wr σ so mk a (τ (43 + x) 0) i) (τ) s H → va_S (gx_A ad 70) s.heap H locs → lv_has ls 3 [(2, .int (nI i)), (0, .ref (ad 0)), (1, .ref (ad (43 + x)))] → W pg l ev (headSpec (Cond.code yX_writeBytes prog_1_method_24_code 3 none :: mx_T) { frames := 1, cells := 0, slots := 0, locals := 21 }).room s mid as below mth c H locs 0 0 (MQ below (cx_Qv D K ad (fun u => u = (cx_wr σ so mk a (τ (43 + x) 0) (2 ^ z), τ))) as s 0 0 (gx_A ad 70)) (F0 mid 2 ls []) := by
    intro k
    induction k with
    | zero =>
      intro i H locs ls hk hV hS hl
      refine lv_iload_n hx hb dX_writeBytes_2 rfl (lv_at hl 0 rfl) ?_
      refine lv_aload_n hx hb dX_writeBytes_3 rfl (lv_at hl 2 rfl) ?_
      refine gx_calli (va_runV (As := []) (rest := [.int (nI i)]) ⟨hx, hb, hml, hown, ht⟩ (k_G_size l hx2 (by rw [cx_wr_n (by omega)]; exact hz) hz4) (cwV 0 ht (mx_gV (C := "MessageCrossbar$Message") mw_346 mw_347 mw_348 mw_5 mw_349) rfl rfl rfl (by decide +kernel) ⟨Nat.le_of_ble_eq_true rfl, Nat.le_of_ble_eq_true rfl⟩) (gx_preV cx_ok hV hZ hS (q := (mR_G, mT_G, 5)) (show 43 + x < 70 by omega) (cx_E_G hx2) rfl []) rfl rfl hl.1 rfl (lv_room (Nat.le_of_ble_eq_true rfl)) dX_writeBytes_4 ⟨Nat.le_of_ble_eq_true rfl, Nat.le_of_ble_eq_true rfl⟩) hV hS (fun r1 σ' τ' H locs hp hV hS => ?_)
      obtain ⟨rfl, hu⟩ := hp
      cases hu
      refine gx_icmp_ge (a := i) (b := (2 ^ z)) (tgt := 46) hx hb dX_writeBytes_7 (by decide) (by omega) (by omega) (fun h7 => ?_) (fun h7 => ?_)
      · exact gx_vret hx hb hr hV hS (by rw [show i = 2 ^ z by omega]) dX_writeBytes_46 hlk
      · exact absurd h7 (by omega)
    | succ k ih =>
      intro i H locs ls hk hV hS hl
      refine lv_iload_n hx hb dX_writeBytes_2 rfl (lv_at hl 0 rfl) ?_
      refine lv_aload_n hx hb dX_writeBytes_3 rfl (lv_at hl 2 rfl) ?_
      refine gx_calli (va_runV (As := []) (rest := [.int (nI i)]) ⟨hx, hb, hml, hown, ht⟩ (k_G_size l hx2 (by rw [cx_wr_n (by omega)]; exact hz) hz4) (cwV 0 ht (mx_gV (C := "MessageCrossbar$Message") mw_346 mw_347 mw_348 mw_5 mw_349) rfl rfl rfl (by decide +kernel) ⟨Nat.le_of_ble_eq_true rfl, Nat.le_of_ble_eq_true rfl⟩) (gx_preV cx_ok hV hZ hS (q := (mR_G, mT_G, 5)) (show 43 + x < 70 by omega) (cx_E_G hx2) rfl []) rfl rfl hl.1 rfl (lv_room (Nat.le_of_ble_eq_true rfl)) dX_writeBytes_4 ⟨Nat.le_of_ble_eq_true rfl, Nat.le_of_ble_eq_true rfl⟩) hV hS (fun r2 σ' τ' H locs hp hV hS => ?_)
      obtain ⟨rfl, hu⟩ := hp
      cases hu
      refine gx_icmp_ge (a := i) (b := (2 ^ z)) (tgt := 46) hx hb dX_writeBytes_7 (by decide) (by omega) (by omega) (fun h7 => ?_) (fun h7 => ?_)
      · exact absurd h7 (by omega)
      · refine lv_aload_n hx hb dX_writeBytes_10 rfl (lv_at hl 2 rfl) ?_
        refine lv_iload_n hx hb dX_writeBytes_11 rfl (lv_at hl 0 rfl) ?_
        refine gx_calli (va_runV (As := [.int (nI i)]) (rest := []) ⟨hx, hb, hml, hown, ht⟩ (k_G_writesByte l hx2 (so := so) (mk := mk) (i := i) (by rw [cx_wr_n (by omega)]; exact hso) hso3 (by rw [cx_wr_n (by omega)]; exact hmk) hmk2 (by omega)) (cwV 1 ht (mx_gV (C := "MessageCrossbar$Message") mw_354 mw_355 mw_356 mw_5 mw_357) rfl rfl rfl (by decide +kernel) ⟨Nat.le_of_ble_eq_true rfl, Nat.le_of_ble_eq_true rfl⟩) (gx_preV cx_ok hV hZ hS (q := (mR_G, mT_G, 5)) (show 43 + x < 70 by omega) (cx_E_G hx2) rfl [.int (nI i)]) rfl rfl hl.1 rfl (lv_room (Nat.le_of_ble_eq_true rfl)) dX_writeBytes_12 ⟨Nat.le_of_ble_eq_true rfl, Nat.le_of_ble_eq_true rfl⟩) hV hS (fun r3 σ' τ' H locs hp hV hS => ?_)
        obtain ⟨rfl, hu⟩ := hp
        cases hu
        refine gx_ifb_eq (q := so = 1 ∨ mk / 2 ^ i % 2 = 1) (tgt := 40) hx hb dX_writeBytes_15 (by decide) (fun h15 => ?_) (fun h15 => ?_)
        · refine lv_iinc (k := 0) (v := (nI (i + 1))) (lv' := [(2, .int (nI (i + 1))), (0, .ref (ad 0)), (1, .ref (ad (43 + x)))]) hx hb dX_writeBytes_40 hl rfl (nI_succ i).symm (by decide) rfl (fun ls hl => ?_)
          refine lv_goto (tgt := 2) hx hb dX_writeBytes_43 (by decide) ?_
          exact ih (i + 1) H locs ls (by omega) (by show gx_V _ _ _ _ _ _ (if so = 1 ∨ mk / 2 ^ i % 2 = 1 then _ else _) _ _ _; rw [if_neg h15]; exact hV) hS (lv_sub hl [0, 1, 2] rfl)
        · refine lv_aload_n hx hb dX_writeBytes_18 rfl (lv_at hl 1 rfl) ?_
          refine gx_get (C := mR_X) (T := mT_X) (N' := 7) hx hb ht mh_X hown hV (by decide) cx_E_X rfl 3 (by decide) (ht _ mw_132) (fun _ h => h) rfl dX_writeBytes_19 ?_
          refine lv_aload_n hx hb dX_writeBytes_22 rfl (lv_at hl 2 rfl) ?_
          refine gx_get (C := mR_G) (T := mT_G) (N' := 5) (v := .int (nI a)) hx hb ht mh_G hown hV (show 43 + x < 70 by omega) (cx_E_G hx2) rfl 2 (by decide) (ht _ mw_114) (fun _ h => h) (congrArg (fun z => some (Value.int z)) ((congrFun (cx_wr_n (by omega)) 2).trans ha)) dX_writeBytes_23 ?_
          refine lv_iload_n hx hb dX_writeBytes_26 rfl (lv_at hl 0 rfl) ?_
          refine gx_iadd (a := a) (b := i) hx hb dX_writeBytes_27 ?_
          refine lv_aload_n hx hb dX_writeBytes_28 rfl (lv_at hl 2 rfl) ?_
          refine gx_get (C := mR_G) (T := mT_G) (N' := 5) hx hb ht mh_G hown hV (show 43 + x < 70 by omega) (cx_E_G hx2) rfl 3 (by decide) (ht _ mw_116) (fun _ h => h) rfl dX_writeBytes_29 ?_
          refine lv_bipush (v := nI 8) hx hb dX_writeBytes_32 (by decide) ?_
          refine lv_iload_n hx hb dX_writeBytes_34 rfl (lv_at hl 0 rfl) ?_
          refine gx_imul (a := 8) (b := i) hx hb dX_writeBytes_35 ?_
          refine lv_lshr hx hb dX_writeBytes_36 rfl ?_
          refine lv_l2i hx hb dX_writeBytes_37 rfl ?_
          refine lv_i2b hx hb dX_writeBytes_38 rfl ?_
          refine gx_bast cx_loc hx hb hV hS (by decide) 1 cx_E_By rfl (a + i) (by omega) (by decide) rfl dX_writeBytes_39 (cx_up (cx_wr σ so mk a (τ (43 + x) 0) i) 67 (a + i) ((nI (mq_byte (τ (43 + x) 0) i)).toInt8.toInt32)) (by rw [cx_E_By, cx_up_upd]; rw [cx_wb _ (by omega)]) (fun _ h => cx_up_J h) (fun H locs hV hS => ?_)
          refine lv_iinc (k := 0) (v := (nI (i + 1))) (lv' := [(2, .int (nI (i + 1))), (0, .ref (ad 0)), (1, .ref (ad (43 + x)))]) hx hb dX_writeBytes_40 hl rfl (nI_succ i).symm (by decide) rfl (fun ls hl => ?_)
          refine lv_goto (tgt := 2) hx hb dX_writeBytes_43 (by decide) ?_
          exact ih (i + 1) H locs ls (by omega) (by show gx_V _ _ _ _ _ _ (if so = 1 ∨ mk / 2 ^ i % 2 = 1 then _ else _) _ _ _; rw [if_pos h15]; exact hV) hS (lv_sub hl [0, 1, 2] rfl)
  exact loop (2 ^ z) 0 _ _ ls (by omega) hV hS hl

set_option maxHeartbeats 4000000 in
set_option maxRecDepth 100000 in
theorem k_X_carryOut (l : Launch) {D : va_G} {K : Nat → ClassId} {ad : Nat → Nat} {σ : Nat → Nat → Int32} {τ : Nat → Nat → Int64} {x z a : Nat} (hx2 : x < 24) (hz : σ (43 + x) 1 = nI z) (hz4 : z < 4) (ha : σ (43 + x) 2 = nI a) (ha4 : a < 1024) (hae : a < 640 → a + 2 ^ z ≤ 640) {so mk : Nat} (hso : σ (43 + x) 0 = nI so) (hso3 : so < 3) (hmk : σ (43 + x) 4 = nI mk) (hmk2 : mk < 256) {bt : Nat → Nat} (hbt : ∀ q, q < 640 → bt q < 256 ∧ σ 67 q = (nI (bt q)).toInt8.toInt32) : Met l yX_carryOut (Cond.code yX_carryOut prog_1_method_22_code 4 none :: mx_T) { frames := 2, cells := 0, slots := 0, locals := 44 } (va_Pc [.ref (ad 0), .ref (ad (43 + x))] (cx_P D K ad σ τ)) (cx_Qv D K ad (fun u => u = (cx_car σ so mk a (2 ^ z) (τ (43 + x) 0), gx_upL τ (43 + x) 0 (if 640 ≤ a then 0 else if so = 0 then lN (mq_got bt a (2 ^ z)) else 0)))) 0 0 (gx_A ad 70) := by
  refine gx_met (by decide) rfl (Nat.le_of_ble_eq_true rfl) ?_
  intro pg ev s mid as below mth c ls hx hb hr hml ht hown hlk hnm hargs hB hl
  obtain ⟨hV, hZ⟩ := hB
  have hS : va_S (gx_A ad 70) s.heap s.heap [] := va_S.rf
  have hl : lv_has ls 4 [(0, .ref (ad 0)), (1, .ref (ad (43 + x)))] := hl
  refine lv_lconst (v := 0) hx hb dX_carryOut_0 (by decide) ?_
  refine lv_lstore_n (lv' := [(2, .long 0), (0, .ref (ad 0)), (1, .ref (ad (43 + x)))]) hx hb dX_carryOut_1 rfl hl (by decide) rfl (fun ls hl => ?_)
  refine lv_aload_n hx hb dX_carryOut_2 rfl (lv_at hl 2 rfl) ?_
  refine gx_calli (va_runV (As := []) (rest := []) ⟨hx, hb, hml, hown, ht⟩ (k_G_isDenied l hx2 ha ha4) (cwV 0 ht (mx_gV (C := "MessageCrossbar$Message") mw_338 mw_339 mw_340 mw_5 mw_341) rfl rfl rfl (by decide +kernel) ⟨Nat.le_of_ble_eq_true rfl, Nat.le_of_ble_eq_true rfl⟩) (gx_preV cx_ok hV hZ hS (q := (mR_G, mT_G, 5)) (show 43 + x < 70 by omega) (cx_E_G hx2) rfl []) rfl rfl hl.1 rfl (lv_room (Nat.le_of_ble_eq_true rfl)) dX_carryOut_3 ⟨Nat.le_of_ble_eq_true rfl, Nat.le_of_ble_eq_true rfl⟩) hV hS (fun r1 σ' τ' H locs hp hV hS => ?_)
  obtain ⟨rfl, hu⟩ := hp
  cases hu
  refine gx_ifb_ne (q := 640 ≤ a) (tgt := 30) hx hb dX_carryOut_6 (by decide) (fun h6 => ?_) (fun h6 => ?_)
  · refine lv_aload_n hx hb dX_carryOut_30 rfl (lv_at hl 2 rfl) ?_
    refine lv_lload_n hx hb dX_carryOut_31 rfl (lv_at hl 0 rfl) ?_
    refine gx_put cx_loc (C := mR_G) (T := mT_G) (N' := 5) (ty := .long) (v := .long 0) hx hb ht mh_G mt_G mk_G mn_G hown hV hS (show 43 + x < 70 by omega) (cx_E_G hx2) rfl 3 (by decide) (ht _ mw_116) (fun _ h => h) rfl (by decide +kernel) rfl rfl (Nat.le_of_ble_eq_true rfl) dX_carryOut_32 σ (gx_upL τ (43 + x) 0 0) (by rw [cx_E_G hx2]; simp [cx_up, gx_upL]) (fun _ _ => rfl) (fun _ h => gx_upL_J h) (fun H locs hV hS => ?_)
    exact gx_vret hx hb hr hV hS (by rw [show cx_car σ so mk a (2 ^ z) (τ (43 + x) 0) = σ from if_pos (Or.inl h6), if_pos h6]) dX_carryOut_35 hlk
  · refine lv_aload_n hx hb dX_carryOut_9 rfl (lv_at hl 2 rfl) ?_
    refine gx_get (C := mR_G) (T := mT_G) (N' := 5) (v := .int (nI so)) hx hb ht mh_G hown hV (show 43 + x < 70 by omega) (cx_E_G hx2) rfl 0 (by decide) (ht _ mw_111) (fun _ h => h) (congrArg (fun z => some (Value.int z)) hso) dX_carryOut_10 ?_
    refine gx_if_ne (a := so) (tgt := 25) hx hb dX_carryOut_13 (by decide) (by omega) (fun h13 => ?_) (fun h13 => ?_)
    · refine lv_aload_n hx hb dX_carryOut_25 rfl (lv_at hl 1 rfl) ?_
      refine lv_aload_n hx hb dX_carryOut_26 rfl (lv_at hl 2 rfl) ?_
      refine gx_callv (va_runV (As := [.ref (ad (43 + x))]) (rest := []) ⟨hx, hb, hml, hown, ht⟩ (k_X_writeBytes l hx2 hz hz4 ha (hae (by omega)) hso hso3 hmk hmk2) (cwV 1 ht (mx_gV (C := "MessageCrossbar") mw_350 mw_352 ms_9 mw_1 mw_353) rfl rfl rfl (by decide +kernel) ⟨Nat.le_of_ble_eq_true rfl, Nat.le_of_ble_eq_true rfl⟩) (gx_preV cx_ok hV hZ hS (q := (mR_X, mT_X, 7)) (by decide) cx_E_X rfl [.ref (ad (43 + x))]) rfl rfl hl.1 rfl (lv_room (Nat.le_of_ble_eq_true rfl)) dX_carryOut_27 ⟨Nat.le_of_ble_eq_true rfl, Nat.le_of_ble_eq_true rfl⟩) hV hS (fun σ' τ' H locs hp hV hS => ?_)
      cases hp
      refine lv_aload_n hx hb dX_carryOut_30 rfl (lv_at hl 2 rfl) ?_
      refine lv_lload_n hx hb dX_carryOut_31 rfl (lv_at hl 0 rfl) ?_
      refine gx_put cx_loc (C := mR_G) (T := mT_G) (N' := 5) (ty := .long) (v := .long 0) hx hb ht mh_G mt_G mk_G mn_G hown hV hS (show 43 + x < 70 by omega) (cx_E_G hx2) rfl 3 (by decide) (ht _ mw_116) (fun _ h => h) rfl (by decide +kernel) rfl rfl (Nat.le_of_ble_eq_true rfl) dX_carryOut_32 (cx_wr σ so mk a (τ (43 + x) 0) (2 ^ z)) (gx_upL τ (43 + x) 0 0) (by rw [cx_E_G hx2]; simp [cx_up, gx_upL]) (fun _ _ => rfl) (fun _ h => gx_upL_J h) (fun H locs hV hS => ?_)
      exact gx_vret hx hb hr hV hS (by rw [show cx_car σ so mk a (2 ^ z) (τ (43 + x) 0) = cx_wr σ so mk a (τ (43 + x) 0) (2 ^ z) from if_neg (by omega), if_neg h6, if_neg h13]) dX_carryOut_35 hlk
    · refine lv_aload_n hx hb dX_carryOut_16 rfl (lv_at hl 1 rfl) ?_
      refine lv_aload_n hx hb dX_carryOut_17 rfl (lv_at hl 2 rfl) ?_
      refine gx_calll (va_runV (As := [.ref (ad (43 + x))]) (rest := []) ⟨hx, hb, hml, hown, ht⟩ (k_X_readBytes l hx2 hz hz4 ha (hae (by omega)) hbt) (cwV 1 ht (mx_gV (C := "MessageCrossbar") mw_342 mw_344 ms_8 mw_1 mw_345) rfl rfl rfl (by decide +kernel) ⟨Nat.le_of_ble_eq_true rfl, Nat.le_of_ble_eq_true rfl⟩) (gx_preV cx_ok hV hZ hS (q := (mR_X, mT_X, 7)) (by decide) cx_E_X rfl [.ref (ad (43 + x))]) rfl rfl hl.1 rfl (lv_room (Nat.le_of_ble_eq_true rfl)) dX_carryOut_18 ⟨Nat.le_of_ble_eq_true rfl, Nat.le_of_ble_eq_true rfl⟩) hV hS (fun r3 σ' τ' H locs hp hV hS => ?_)
      obtain ⟨rfl, hu⟩ := hp
      cases hu
      refine lv_lstore_n (lv' := [(2, .long (lN (mq_got bt a (2 ^ z)))), (0, .ref (ad 0)), (1, .ref (ad (43 + x)))]) hx hb dX_carryOut_21 rfl hl (by decide) rfl (fun ls hl => ?_)
      refine lv_goto (tgt := 30) hx hb dX_carryOut_22 (by decide) ?_
      refine lv_aload_n hx hb dX_carryOut_30 rfl (lv_at hl 2 rfl) ?_
      refine lv_lload_n hx hb dX_carryOut_31 rfl (lv_at hl 0 rfl) ?_
      refine gx_put cx_loc (C := mR_G) (T := mT_G) (N' := 5) (ty := .long) (v := .long (lN (mq_got bt a (2 ^ z)))) hx hb ht mh_G mt_G mk_G mn_G hown hV hS (show 43 + x < 70 by omega) (cx_E_G hx2) rfl 3 (by decide) (ht _ mw_116) (fun _ h => h) rfl (by decide +kernel) rfl rfl (Nat.le_of_ble_eq_true rfl) dX_carryOut_32 σ (gx_upL τ (43 + x) 0 (lN (mq_got bt a (2 ^ z)))) (by rw [cx_E_G hx2]; simp [cx_up, gx_upL]) (fun _ _ => rfl) (fun _ h => gx_upL_J h) (fun H locs hV hS => ?_)
      exact gx_vret hx hb hr hV hS (by rw [show cx_car σ so mk a (2 ^ z) (τ (43 + x) 0) = σ from if_pos (Or.inr h13), if_neg h6, if_pos h13]) dX_carryOut_35 hlk
