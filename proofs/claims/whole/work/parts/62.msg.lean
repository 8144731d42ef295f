/-! Message, Master, Port: their methods -/
theorem mb_s : ∀ n, n < 32 → ((nI n &&& 31).toBitVec.smod 32).toNat = n := by decide +kernel
theorem cx_bit {b s : Nat} (hb : b < 2 ^ 31) (hs : s < 32) : (nI b >>> (nI s &&& 31)) &&& nI 1 = nI (b / 2 ^ s % 2) := by
  rw [pk_shrN hb (nI s &&& 31) s (mb_s s hs)]
  have h1 : b / 2 ^ s ≤ b := Nat.div_le_self _ _
  exact pk_andN (by omega) 1 (by decide)
theorem cx_sz : ∀ z, z < 4 → nI 1 <<< (nI z &&& 31) = nI (2 ^ z) := by decide +kernel
theorem cx_pend {a p : Nat} (hp : p < 4) (ha : a < 1024) : mq_port a = p ↔ a < cx_ends p ∧ (p = 0 ∨ cx_ends (p - 1) ≤ a) := by
  rcases cx_4 hp with rfl | rfl | rfl | rfl <;> simp [mq_port, cx_ends] <;> split <;> (try split) <;> (try split) <;> omega
theorem cx_ends_lt (j : Nat) : cx_ends j < 2 ^ 31 := by
  unfold cx_ends
  split <;> (try split) <;> (try split) <;> omega

set_option maxHeartbeats 4000000 in
set_option maxRecDepth 100000 in
theorem k_G_become (l : Launch) {D : va_G} {K : Nat → ClassId} {ad : Nat → Nat} {σ : Nat → Nat → Int32} {τ : Nat → Nat → Int64} {x : Nat} (hx2 : x < 24) {so z a mk : Int32} {dt : Int64} : Met l yG_become (Cond.code yG_become prog_4_method_2_code 7 none :: mx_T) { frames := 0, cells := 0, slots := 0, locals := 0 } (va_Pc [.ref (ad (43 + x)), .int so, .int z, .int a, .long dt, .int mk] (cx_P D K ad σ τ)) (cx_Qv D K ad (fun u => u = (cx_up (cx_up (cx_up (cx_up σ (43 + x) 0 so) (43 + x) 1 z) (43 + x) 2 a) (43 + x) 4 mk, gx_upL τ (43 + x) 0 dt))) 0 0 (gx_A ad 70) := by
  refine gx_met (by decide) rfl (Nat.le_of_ble_eq_true rfl) ?_
  intro pg ev s mid as below mth c ls hx hb hr hml ht hown hlk hnm hargs hB hl
  obtain ⟨hV, hZ⟩ := hB
  have hS : va_S (gx_A ad 70) s.heap s.heap [] := va_S.rf
  have hl : lv_has ls 7 [(0, .ref (ad (43 + x))), (1, .int so), (2, .int z), (3, .int a), (4, .long dt), (6, .int mk)] := hl
  refine lv_aload_n hx hb dG_become_0 rfl (lv_at hl 0 rfl) ?_
  refine lv_iload_n hx hb dG_become_1 rfl (lv_at hl 1 rfl) ?_
  refine gx_put cx_loc (C := mR_G) (T := mT_G) (N' := 5) (ty := .int) (v := .int so) hx hb ht mh_G mt_G mk_G mn_G hown hV hS (show 43 + x < 70 by omega) (cx_E_G hx2) rfl 0 (by decide) (ht _ mw_110) (fun _ h => h) rfl (by decide +kernel) rfl rfl (Nat.le_of_ble_eq_true rfl) dG_become_2 (cx_up σ (43 + x) 0 so) τ (by rw [cx_E_G hx2]; simp [cx_up, gx_upL]) (fun _ h => cx_up_J h) (fun _ _ => rfl) (fun H locs hV hS => ?_)
  refine lv_aload_n hx hb dG_become_5 rfl (lv_at hl 0 rfl) ?_
  refine lv_iload_n hx hb dG_become_6 rfl (lv_at hl 2 rfl) ?_
  refine gx_put cx_loc (C := mR_G) (T := mT_G) (N' := 5) (ty := .int) (v := .int z) hx hb ht mh_G mt_G mk_G mn_G hown hV hS (show 43 + x < 70 by omega) (cx_E_G hx2) rfl 1 (by decide) (ht _ mw_112) (fun _ h => h) rfl (by decide +kernel) rfl rfl (Nat.le_of_ble_eq_true rfl) dG_become_7 (cx_up (cx_up σ (43 + x) 0 so) (43 + x) 1 z) τ (by rw [cx_E_G hx2]; simp [cx_up, gx_upL]) (fun _ h => cx_up_J h) (fun _ _ => rfl) (fun H locs hV hS => ?_)
  refine lv_aload_n hx hb dG_become_10 rfl (lv_at hl 0 rfl) ?_
  refine lv_iload_n hx hb dG_become_11 rfl (lv_at hl 3 rfl) ?_
  refine gx_put cx_loc (C := mR_G) (T := mT_G) (N' := 5) (ty := .int) (v := .int a) hx hb ht mh_G mt_G mk_G mn_G hown hV hS (show 43 + x < 70 by omega) (cx_E_G hx2) rfl 2 (by decide) (ht _ mw_113) (fun _ h => h) rfl (by decide +kernel) rfl rfl (Nat.le_of_ble_eq_true rfl) dG_become_12 (cx_up (cx_up (cx_up σ (43 + x) 0 so) (43 + x) 1 z) (43 + x) 2 a) τ (by rw [cx_E_G hx2]; simp [cx_up, gx_upL]) (fun _ h => cx_up_J h) (fun _ _ => rfl) (fun H locs hV hS => ?_)
  refine lv_aload_n hx hb dG_become_15 rfl (lv_at hl 0 rfl) ?_
  refine lv_lload hx hb dG_become_16 (lv_at hl 4 rfl) ?_
  refine gx_put cx_loc (C := mR_G) (T := mT_G) (N' := 5) (ty := .long) (v := .long dt) hx hb ht mh_G mt_G mk_G mn_G hown hV hS (show 43 + x < 70 by omega) (cx_E_G hx2) rfl 3 (by decide) (ht _ mw_115) (fun _ h => h) rfl (by decide +kernel) rfl rfl (Nat.le_of_ble_eq_true rfl) dG_become_18 (cx_up (cx_up (cx_up σ (43 + x) 0 so) (43 + x) 1 z) (43 + x) 2 a) (gx_upL τ (43 + x) 0 dt) (by rw [cx_E_G hx2]; simp [cx_up, gx_upL]) (fun _ _ => rfl) (fun _ h => gx_upL_J h) (fun H locs hV hS => ?_)
  refine lv_aload_n hx hb dG_become_21 rfl (lv_at hl 0 rfl) ?_
  refine lv_iload hx hb dG_become_22 (lv_at hl 5 rfl) ?_
  refine gx_put cx_loc (C := mR_G) (T := mT_G) (N' := 5) (ty := .int) (v := .int mk) hx hb ht mh_G mt_G mk_G mn_G hown hV hS (show 43 + x < 70 by omega) (cx_E_G hx2) rfl 4 (by decide) (ht _ mw_117) (fun _ h => h) rfl (by decide +kernel) rfl rfl (Nat.le_of_ble_eq_true rfl) dG_become_24 (cx_up (cx_up (cx_up (cx_up σ (43 + x) 0 so) (43 + x) 1 z) (43 + x) 2 a) (43 + x) 4 mk) (gx_upL τ (43 + x) 0 dt) (by rw [cx_E_G hx2]; simp [cx_up, gx_upL]) (fun _ h => cx_up_J h) (fun _ _ => rfl) (fun H locs hV hS => ?_)
  exact gx_vret hx hb hr hV hS rfl dG_become_27 hlk

set_option maxHeartbeats 4000000 in
set_option maxRecDepth 100000 in
theorem k_G_size (l : Launch) {D : va_G} {K : Nat → ClassId} {ad : Nat → Nat} {σ : Nat → Nat → Int32} {τ : Nat → Nat → Int64} {x : Nat} (hx2 : x < 24) {z : Nat} (hz : σ (43 + x) 1 = nI z) (hz4 : z < 4) : Met l yG_size (Cond.code yG_size prog_4_method_3_code 1 (some .int) :: mx_T) { frames := 0, cells := 0, slots := 0, locals := 0 } (va_Pc [.ref (ad (43 + x))] (cx_P D K ad σ τ)) (cx_Qi D K ad (fun rr u => rr = nI (2 ^ z) ∧ u = (σ, τ))) 0 0 (gx_A ad 70) := by
  refine gx_met (by decide) rfl (Nat.le_of_ble_eq_true rfl) ?_
  intro pg ev s mid as below mth c ls hx hb hr hml ht hown hlk hnm hargs hB hl
  obtain ⟨hV, hZ⟩ := hB
  have hS : va_S (gx_A ad 70) s.heap s.heap [] := va_S.rf
  have hl : lv_has ls 1 [(0, .ref (ad (43 + x)))] := hl
  refine lv_iconst (v := nI 1) hx hb dG_size_0 (by decide) ?_
  refine lv_aload_n hx hb dG_size_1 rfl (lv_at hl 0 rfl) ?_
  refine gx_get (C := mR_G) (T := mT_G) (N' := 5) (v := .int (nI z)) hx hb ht mh_G hown hV (show 43 + x < 70 by omega) (cx_E_G hx2) rfl 1 (by decide) (ht _ mw_112) (fun _ h => h) (congrArg (fun z => some (Value.int z)) hz) dG_size_2 ?_
  refine lv_ishl hx hb dG_size_5 ?_
  refine gx_top (cx_sz z hz4) ?_
  exact gx_iret hx hb hr hV hS ⟨rfl, rfl⟩ dG_size_6 hlk

set_option maxHeartbeats 4000000 in
set_option maxRecDepth 100000 in
theorem k_G_isDenied (l : Launch) {D : va_G} {K : Nat → ClassId} {ad : Nat → Nat} {σ : Nat → Nat → Int32} {τ : Nat → Nat → Int64} {x : Nat} (hx2 : x < 24) {a : Nat} (ha : σ (43 + x) 2 = nI a) (ha4 : a < 1024) : Met l yG_isDenied (Cond.code yG_isDenied prog_4_method_4_code 1 (some .boolean) :: mx_T) { frames := 0, cells := 0, slots := 0, locals := 0 } (va_Pc [.ref (ad (43 + x))] (cx_P D K ad σ τ)) (cx_Qi D K ad (fun rr u => rr = (if 640 ≤ a then nI 1 else nI 0) ∧ u = (σ, τ))) 0 0 (gx_A ad 70) := by
  refine gx_met (by decide) rfl (Nat.le_of_ble_eq_true rfl) ?_
  intro pg ev s mid as below mth c ls hx hb hr hml ht hown hlk hnm hargs hB hl
  obtain ⟨hV, hZ⟩ := hB
  have hS : va_S (gx_A ad 70) s.heap s.heap [] := va_S.rf
  have hl : lv_has ls 1 [(0, .ref (ad (43 + x)))] := hl
  refine lv_aload_n hx hb dG_isDenied_0 rfl (lv_at hl 0 rfl) ?_
  refine gx_get (C := mR_G) (T := mT_G) (N' := 5) (v := .int (nI a)) hx hb ht mh_G hown hV (show 43 + x < 70 by omega) (cx_E_G hx2) rfl 2 (by decide) (ht _ mw_113) (fun _ h => h) (congrArg (fun z => some (Value.int z)) ha) dG_isDenied_1 ?_
  refine lv_sipush (v := nI 640) hx hb dG_isDenied_4 (by decide) ?_
  refine gx_icmp_lt (a := a) (b := 640) (tgt := 14) hx hb dG_isDenied_7 (by decide) (by omega) (by omega) (fun h7 => ?_) (fun h7 => ?_)
  · refine lv_iconst (v := nI 0) hx hb dG_isDenied_14 (by decide) ?_
    exact gx_zret hx hb hr rfl hV hS ⟨(if_neg (by omega)).symm, rfl⟩ dG_isDenied_15 hlk
  · refine lv_iconst (v := nI 1) hx hb dG_isDenied_10 (by decide) ?_
    refine lv_goto (tgt := 15) hx hb dG_isDenied_11 (by decide) ?_
    exact gx_zret hx hb hr rfl hV hS ⟨(if_pos (by omega)).symm, rfl⟩ dG_isDenied_15 hlk

set_option maxHeartbeats 4000000 in
set_option maxRecDepth 100000 in
theorem k_G_writesByte (l : Launch) {D : va_G} {K : Nat → ClassId} {ad : Nat → Nat} {σ : Nat → Nat → Int32} {τ : Nat → Nat → Int64} {x : Nat} (hx2 : x < 24) {so mk i : Nat} (hso : σ (43 + x) 0 = nI so) (hso3 : so < 3) (hmk : σ (43 + x) 4 = nI mk) (hmk2 : mk < 256) (hi : i < 8) : Met l yG_writesByte (Cond.code yG_writesByte prog_4_method_5_code 2 (some .boolean) :: mx_T) { frames := 0, cells := 0, slots := 0, locals := 0 } (va_Pc [.ref (ad (43 + x)), .int (nI i)] (cx_P D K ad σ τ)) (cx_Qi D K ad (fun rr u => rr = (if so = 1 ∨ mk / 2 ^ i % 2 = 1 then nI 1 else nI 0) ∧ u = (σ, τ))) 0 0 (gx_A ad 70) := by
  refine gx_met (by decide) rfl (Nat.le_of_ble_eq_true rfl) ?_
  intro pg ev s mid as below mth c ls hx hb hr hml ht hown hlk hnm hargs hB hl
  obtain ⟨hV, hZ⟩ := hB
  have hS : va_S (gx_A ad 70) s.heap s.heap [] := va_S.rf
  have hl : lv_has ls 2 [(0, .ref (ad (43 + x))), (1, .int (nI i))] := hl
  have hdv : mk / 2 ^ i % 2 < 2 := Nat.mod_lt _ (by omega)
  refine lv_aload_n hx hb dG_writesByte_0 rfl (lv_at hl 0 rfl) ?_
  refine gx_get (C := mR_G) (T := mT_G) (N' := 5) (v := .int (nI so)) hx hb ht mh_G hown hV (show 43 + x < 70 by omega) (cx_E_G hx2) rfl 0 (by decide) (ht _ mw_110) (fun _ h => h) (congrArg (fun z => some (Value.int z)) hso) dG_writesByte_1 ?_
  refine lv_iconst (v := nI 1) hx hb dG_writesByte_4 (by decide) ?_
  refine gx_icmp_eq (a := so) (b := 1) (tgt := 20) hx hb dG_writesByte_5 (by decide) (by omega) (by omega) (fun h5 => ?_) (fun h5 => ?_)
  · refine lv_iconst (v := nI 1) hx hb dG_writesByte_20 (by decide) ?_
    refine lv_goto (tgt := 25) hx hb dG_writesByte_21 (by decide) ?_
    exact gx_zret hx hb hr rfl hV hS ⟨(if_pos (Or.inl h5)).symm, rfl⟩ dG_writesByte_25 hlk
  · refine lv_aload_n hx hb dG_writesByte_8 rfl (lv_at hl 0 rfl) ?_
    refine gx_get (C := mR_G) (T := mT_G) (N' := 5) (v := .int (nI mk)) hx hb ht mh_G hown hV (show 43 + x < 70 by omega) (cx_E_G hx2) rfl 4 (by decide) (ht _ mw_117) (fun _ h => h) (congrArg (fun z => some (Value.int z)) hmk) dG_writesByte_9 ?_
    refine lv_iload_n hx hb dG_writesByte_12 rfl (lv_at hl 1 rfl) ?_
    refine lv_ishr hx hb dG_writesByte_13 ?_
    refine lv_iconst (v := nI 1) hx hb dG_writesByte_14 (by decide) ?_
    refine lv_iand hx hb dG_writesByte_15 ?_
    refine gx_top (cx_bit (b := mk) (s := i) (by omega) (by omega)) ?_
    refine lv_iconst (v := nI 1) hx hb dG_writesByte_16 (by decide) ?_
    refine gx_icmp_ne (a := (mk / 2 ^ i % 2)) (b := 1) (tgt := 24) hx hb dG_writesByte_17 (by decide) (by omega) (by omega) (fun h17 => ?_) (fun h17 => ?_)
    · refine lv_iconst (v := nI 0) hx hb dG_writesByte_24 (by decide) ?_
      exact gx_zret hx hb hr rfl hV hS ⟨(if_neg (fun q => q.elim h5 h17)).symm, rfl⟩ dG_writesByte_25 hlk
    · refine lv_iconst (v := nI 1) hx hb dG_writesByte_20 (by decide) ?_
      refine lv_goto (tgt := 25) hx hb dG_writesByte_21 (by decide) ?_
      exact gx_zret hx hb hr rfl hV hS ⟨(if_pos (Or.inr h17)).symm, rfl⟩ dG_writesByte_25 hlk

set_option maxHeartbeats 4000000 in
set_option maxRecDepth 100000 in
theorem k_G_goesTo (l : Launch) {D : va_G} {K : Nat → ClassId} {ad : Nat → Nat} {σ : Nat → Nat → Int32} {τ : Nat → Nat → Int64} {x : Nat} (hx2 : x < 24) {a p : Nat} (ha : σ (43 + x) 2 = nI a) (ha4 : a < 1024) (hp : p < 4) : Met l yG_goesTo (Cond.code yG_goesTo prog_4_method_6_code 2 (some .boolean) :: mx_T) { frames := 0, cells := 0, slots := 0, locals := 0 } (va_Pc [.ref (ad (43 + x)), .int (nI p)] (cx_P D K ad σ τ)) (cx_Qi D K ad (fun rr u => rr = (if mq_port a = p then nI 1 else nI 0) ∧ u = (σ, τ))) 0 0 (gx_A ad 70) := by
  refine gx_met (by decide) rfl (Nat.le_of_ble_eq_true rfl) ?_
  intro pg ev s mid as below mth c ls hx hb hr hml ht hown hlk hnm hargs hB hl
  obtain ⟨hV, hZ⟩ := hB
  have hS : va_S (gx_A ad 70) s.heap s.heap [] := va_S.rf
  have hl : lv_has ls 2 [(0, .ref (ad (43 + x))), (1, .int (nI p))] := hl
  obtain ⟨t1, hz1, ht1⟩ := hZ.1
  refine lv_aload_n hx hb dG_goesTo_0 rfl (lv_at hl 0 rfl) ?_
  refine gx_get (C := mR_G) (T := mT_G) (N' := 5) (v := .int (nI a)) hx hb ht mh_G hown hV (show 43 + x < 70 by omega) (cx_E_G hx2) rfl 2 (by decide) (ht _ mw_113) (fun _ h => h) (congrArg (fun z => some (Value.int z)) ha) dG_goesTo_1 ?_
  refine va_getsN hx hb hz1 hS hown (va_Nw.use rfl hZ.2.2.2) (fun _ h => h) dG_goesTo_4 ?_
  refine lv_iload_n hx hb dG_goesTo_7 rfl (lv_at hl 1 rfl) ?_
  refine va_ti hx hb ht1 hS (v := .int (nI (cx_ends p))) (gx_ia (k := p) (n := 4) hp (by omega) rfl).1 (by rw [(gx_ia (k := p) (n := 4) hp (by omega) rfl).2]) dG_goesTo_8 ?_
  refine gx_icmp_ge (a := a) (b := (cx_ends p)) (tgt := 34) hx hb dG_goesTo_9 (by decide) (by omega) (cx_ends_lt _) (fun h9 => ?_) (fun h9 => ?_)
  · refine lv_iconst (v := nI 0) hx hb dG_goesTo_34 (by decide) ?_
    exact gx_zret hx hb hr rfl hV hS ⟨(if_neg (fun q => absurd ((cx_pend hp ha4).mp q).1 (by omega))).symm, rfl⟩ dG_goesTo_35 hlk
  · refine lv_iload_n hx hb dG_goesTo_12 rfl (lv_at hl 1 rfl) ?_
    refine gx_if_eq (a := p) (tgt := 30) hx hb dG_goesTo_13 (by decide) (by omega) (fun h13 => ?_) (fun h13 => ?_)
    · refine lv_iconst (v := nI 1) hx hb dG_goesTo_30 (by decide) ?_
      refine lv_goto (tgt := 35) hx hb dG_goesTo_31 (by decide) ?_
      exact gx_zret hx hb hr rfl hV hS ⟨(if_pos ((cx_pend hp ha4).mpr ⟨h9, Or.inl h13⟩)).symm, rfl⟩ dG_goesTo_35 hlk
    · refine lv_aload_n hx hb dG_goesTo_16 rfl (lv_at hl 0 rfl) ?_
      refine gx_get (C := mR_G) (T := mT_G) (N' := 5) (v := .int (nI a)) hx hb ht mh_G hown hV (show 43 + x < 70 by omega) (cx_E_G hx2) rfl 2 (by decide) (ht _ mw_113) (fun _ h => h) (congrArg (fun z => some (Value.int z)) ha) dG_goesTo_17 ?_
      refine va_getsN hx hb hz1 hS hown (va_Nw.use rfl hZ.2.2.2) (fun _ h => h) dG_goesTo_20 ?_
      refine lv_iload_n hx hb dG_goesTo_23 rfl (lv_at hl 1 rfl) ?_
      refine lv_iconst (v := nI 1) hx hb dG_goesTo_24 (by decide) ?_
      refine gx_isub (a := p) (b := 1) hx hb dG_goesTo_25 (by omega) ?_
      refine va_ti hx hb ht1 hS (v := .int (nI (cx_ends (p - 1)))) (gx_ia (k := (p - 1)) (n := 4) (by omega) (by omega) rfl).1 (by rw [(gx_ia (k := (p - 1)) (n := 4) (by omega) (by omega) rfl).2]) dG_goesTo_26 ?_
      refine gx_icmp_lt (a := a) (b := (cx_ends (p - 1))) (tgt := 34) hx hb dG_goesTo_27 (by decide) (by omega) (cx_ends_lt _) (fun h27 => ?_) (fun h27 => ?_)
      · refine lv_iconst (v := nI 0) hx hb dG_goesTo_34 (by decide) ?_
        exact gx_zret hx hb hr rfl hV hS ⟨(if_neg (fun q => ((cx_pend hp ha4).mp q).2.elim h13 (fun z => by omega))).symm, rfl⟩ dG_goesTo_35 hlk
      · refine lv_iconst (v := nI 1) hx hb dG_goesTo_30 (by decide) ?_
        refine lv_goto (tgt := 35) hx hb dG_goesTo_31 (by decide) ?_
        exact gx_zret hx hb hr rfl hV hS ⟨(if_pos ((cx_pend hp ha4).mpr ⟨h9, Or.inr h27⟩)).symm, rfl⟩ dG_goesTo_35 hlk

set_option maxHeartbeats 4000000 in
set_option maxRecDepth 100000 in
theorem k_M_hasInFlight (l : Launch) {D : va_G} {K : Nat → ClassId} {ad : Nat → Nat} {σ : Nat → Nat → Int32} {τ : Nat → Nat → Int64} {m : Nat} (hm : m < 3) {b q : Nat} (hb0 : σ (2 + 5 * m) 2 = nI b) (hb1 : b < 256) (hq : q < 8) : Met l yM_hasInFlight (Cond.code yM_hasInFlight prog_3_method_2_code 2 (some .boolean) :: mx_T) { frames := 0, cells := 0, slots := 0, locals := 0 } (va_Pc [.ref (ad (2 + 5 * m)), .int (nI q)] (cx_P D K ad σ τ)) (cx_Qi D K ad (fun rr u => rr = (if b / 2 ^ q % 2 = 1 then nI 1 else nI 0) ∧ u = (σ, τ))) 0 0 (gx_A ad 70) := by
  refine gx_met (by decide) rfl (Nat.le_of_ble_eq_true rfl) ?_
  intro pg ev s mid as below mth c ls hx hb hr hml ht hown hlk hnm hargs hB hl
  obtain ⟨hV, hZ⟩ := hB
  have hS : va_S (gx_A ad 70) s.heap s.heap [] := va_S.rf
  have hl : lv_has ls 2 [(0, .ref (ad (2 + 5 * m))), (1, .int (nI q))] := hl
  have hdv : b / 2 ^ q % 2 < 2 := Nat.mod_lt _ (by omega)
  refine lv_aload_n hx hb dM_hasInFlight_0 rfl (lv_at hl 0 rfl) ?_
  refine gx_get (C := mR_M) (T := mT_M) (N' := 5) (v := .int (nI b)) hx hb ht mh_M hown hV (show 2 + 5 * m < 70 by omega) (cx_E_M hm) rfl 2 (by decide) (ht _ mw_48) (fun _ h => h) (congrArg (fun z => some (Value.int z)) hb0) dM_hasInFlight_1 ?_
  refine lv_iload_n hx hb dM_hasInFlight_4 rfl (lv_at hl 1 rfl) ?_
  refine lv_ishr hx hb dM_hasInFlight_5 ?_
  refine lv_iconst (v := nI 1) hx hb dM_hasInFlight_6 (by decide) ?_
  refine lv_iand hx hb dM_hasInFlight_7 ?_
  refine gx_top (cx_bit (b := b) (s := q) (by omega) (by omega)) ?_
  refine lv_iconst (v := nI 1) hx hb dM_hasInFlight_8 (by decide) ?_
  refine gx_icmp_ne (a := (b / 2 ^ q % 2)) (b := 1) (tgt := 16) hx hb dM_hasInFlight_9 (by decide) (by omega) (by omega) (fun h9 => ?_) (fun h9 => ?_)
  · refine lv_iconst (v := nI 0) hx hb dM_hasInFlight_16 (by decide) ?_
    exact gx_zret hx hb hr rfl hV hS ⟨(if_neg h9).symm, rfl⟩ dM_hasInFlight_17 hlk
  · refine lv_iconst (v := nI 1) hx hb dM_hasInFlight_12 (by decide) ?_
    refine lv_goto (tgt := 17) hx hb dM_hasInFlight_13 (by decide) ?_
    exact gx_zret hx hb hr rfl hV hS ⟨(if_pos h9).symm, rfl⟩ dM_hasInFlight_17 hlk

set_option maxHeartbeats 4000000 in
set_option maxRecDepth 100000 in
theorem k_M_hasRoomForAnswer (l : Launch) {D : va_G} {K : Nat → ClassId} {ad : Nat → Nat} {σ : Nat → Nat → Int32} {τ : Nat → Nat → Int64} {m : Nat} (hm : m < 3) {ac n : Nat} (hac : σ (2 + 5 * m) 3 = nI ac) (hac1 : ac ≤ 1) (hn : σ (5 + 5 * m) 1 = nI n) (hn4 : n ≤ 4) : Met l yM_hasRoomForAnswer (Cond.code yM_hasRoomForAnswer prog_3_method_3_code 1 (some .boolean) :: mx_T) { frames := 1, cells := 0, slots := 0, locals := 20 } (va_Pc [.ref (ad (2 + 5 * m))] (cx_P D K ad σ τ)) (cx_Qi D K ad (fun rr u => rr = (if ac ≠ 0 ∧ n < 4 then nI 1 else nI 0) ∧ u = (σ, τ))) 0 0 (gx_A ad 70) := by
  refine gx_met (by decide) rfl (Nat.le_of_ble_eq_true rfl) ?_
  intro pg ev s mid as below mth c ls hx hb hr hml ht hown hlk hnm hargs hB hl
  obtain ⟨hV, hZ⟩ := hB
  have hS : va_S (gx_A ad 70) s.heap s.heap [] := va_S.rf
  have hl : lv_has ls 1 [(0, .ref (ad (2 + 5 * m)))] := hl
  refine lv_aload_n hx hb dM_hasRoomForAnswer_0 rfl (lv_at hl 0 rfl) ?_
  refine gx_get (C := mR_M) (T := mT_M) (N' := 5) (v := .int (nI ac)) hx hb ht mh_M hown hV (show 2 + 5 * m < 70 by omega) (cx_E_M hm) rfl 3 (by decide) (ht _ mw_50) (fun _ h => h) (congrArg (fun z => some (Value.int z)) hac) dM_hasRoomForAnswer_1 ?_
  refine gx_if_eq (a := ac) (tgt := 21) hx hb dM_hasRoomForAnswer_4 (by decide) (by omega) (fun h4 => ?_) (fun h4 => ?_)
  · refine lv_iconst (v := nI 0) hx hb dM_hasRoomForAnswer_21 (by decide) ?_
    exact gx_zret hx hb hr rfl hV hS ⟨(if_neg (fun q => q.1 h4)).symm, rfl⟩ dM_hasRoomForAnswer_22 hlk
  · refine lv_aload_n hx hb dM_hasRoomForAnswer_7 rfl (lv_at hl 0 rfl) ?_
    refine gx_get (C := mR_M) (T := mT_M) (N' := 5) hx hb ht mh_M hown hV (show 2 + 5 * m < 70 by omega) (cx_E_M hm) rfl 1 (by decide) (ht _ mw_46) (fun _ h => h) rfl dM_hasRoomForAnswer_8 ?_
    refine gx_calli (va_runV (As := []) (rest := []) ⟨hx, hb, hml, hown, ht⟩ (k_L_isFull l (cx_isL_B hm) hn hn4) (cwV 0 ht (mx_gV (C := "MessageCrossbar$Line") mw_289 mw_248 mw_249 mw_3 mw_250) rfl rfl rfl (by decide +kernel) ⟨Nat.le_of_ble_eq_true rfl, Nat.le_of_ble_eq_true rfl⟩) (gx_preV cx_ok hV hZ hS (q := (mR_L, mT_L, 2)) ((cx_isL_B hm)).lt.1 (cx_E_L (cx_isL_B hm)).1 rfl []) rfl rfl hl.1 rfl (lv_room (Nat.le_of_ble_eq_true rfl)) dM_hasRoomForAnswer_11 ⟨Nat.le_of_ble_eq_true rfl, Nat.le_of_ble_eq_true rfl⟩) hV hS (fun r1 σ' τ' H locs hp hV hS => ?_)
    obtain ⟨rfl, hu⟩ := hp
    cases hu
    refine gx_ifb_ne (q := 4 ≤ n) (tgt := 21) hx hb dM_hasRoomForAnswer_14 (by decide) (fun h14 => ?_) (fun h14 => ?_)
    · refine lv_iconst (v := nI 0) hx hb dM_hasRoomForAnswer_21 (by decide) ?_
      exact gx_zret hx hb hr rfl hV hS ⟨(if_neg (fun q => by omega)).symm, rfl⟩ dM_hasRoomForAnswer_22 hlk
    · refine lv_iconst (v := nI 1) hx hb dM_hasRoomForAnswer_17 (by decide) ?_
      refine lv_goto (tgt := 22) hx hb dM_hasRoomForAnswer_18 (by decide) ?_
      exact gx_zret hx hb hr rfl hV hS ⟨(if_pos ⟨h4, by omega⟩).symm, rfl⟩ dM_hasRoomForAnswer_22 hlk
