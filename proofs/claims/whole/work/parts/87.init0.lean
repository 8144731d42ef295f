/-! constructors -/

theorem nx_dL : ∀ j, j < 2 → defaultValue (mt_L j) = vp_V [.null, .int 0] j := by
  intro j hj
  rcases (show j = 0 ∨ j = 1 by omega) with rfl | rfl <;> rfl

theorem nx_dM : ∀ j, j < 5 → defaultValue (mt_M j) = vp_V [.null, .null, .int 0, .int 0, .int 0] j := by
  intro j hj
  rcases (show j = 0 ∨ j = 1 ∨ j = 2 ∨ j = 3 ∨ j = 4 by omega) with rfl | rfl | rfl | rfl | rfl <;> rfl

theorem nx_dG : ∀ j, j < 5 → defaultValue (mt_G j) = vp_V [.int 0, .int 0, .int 0, .long 0, .int 0] j := by
  intro j hj
  rcases (show j = 0 ∨ j = 1 ∨ j = 2 ∨ j = 3 ∨ j = 4 by omega) with rfl | rfl | rfl | rfl | rfl <;> rfl

theorem nx_dP : ∀ j, j < 7 → defaultValue (mt_P j) = vp_V [.null, .null, .null, .int 0, .int 0, .int 0, .int 0] j := by
  intro j hj
  rcases (show j = 0 ∨ j = 1 ∨ j = 2 ∨ j = 3 ∨ j = 4 ∨ j = 5 ∨ j = 6 by omega) with rfl | rfl | rfl | rfl | rfl | rfl | rfl <;> rfl

theorem nx_dX : ∀ j, j < 7 → defaultValue (mt_X j) = vp_V [.null, .null, .null, .null, .null, .null, .long 0] j := by
  intro j hj
  rcases (show j = 0 ∨ j = 1 ∨ j = 2 ∨ j = 3 ∨ j = 4 ∨ j = 5 ∨ j = 6 by omega) with rfl | rfl | rfl | rfl | rfl | rfl | rfl <;> rfl

theorem nx_dR : ∀ j, j < 20 → defaultValue (mt_R j) = vp_V [.int 0, .null, .null, .null, .null, .null, .null, .null, .null, .int 0, .null, .null, .null, .null, .null, .null, .null, .null, .long 0, .int 0] j := by
  intro j hj
  rcases (show j = 0 ∨ j = 1 ∨ j = 2 ∨ j = 3 ∨ j = 4 ∨ j = 5 ∨ j = 6 ∨ j = 7 ∨ j = 8 ∨ j = 9 ∨ j = 10 ∨ j = 11 ∨ j = 12 ∨ j = 13 ∨ j = 14 ∨ j = 15 ∨ j = 16 ∨ j = 17 ∨ j = 18 ∨ j = 19 by omega) with rfl | rfl | rfl | rfl | rfl | rfl | rfl | rfl | rfl | rfl | rfl | rfl | rfl | rfl | rfl | rfl | rfl | rfl | rfl | rfl <;> rfl

set_option maxHeartbeats 4000000 in
set_option maxRecDepth 100000 in
theorem k_L_init8 (l : Launch) {D : va_G} {K : Nat → ClassId} {a : Nat} : Met l yL_init (Cond.code yL_init prog_2_method_1_code 2 none :: mx_T) { frames := 1, cells := 1, slots := 8, locals := 20 } (va_Pc [.ref a, .int (nI 8)] (nx_P D K (fun _ => True) a (.inr (0, [.null, .int 0])))) (nx_Q D a [(a, .inr (0, [.ref (a + 1), .int (nI 0)])), ((a + 1), .inl (K 0, 8, .inl (fun _ => 0)))]) 1 8 (fun q => a ≤ q) := by
  refine gx_met (by decide) rfl (Nat.le_of_ble_eq_true rfl) ?_
  intro pg ev s mid as below mth c ls hx hb hr hml ht hown hlk hnm hargs hB hl
  obtain ⟨hP, hK, hz0, -⟩ := hB
  have hS : va_S (fun q => a ≤ q) s.heap s.heap [] := va_S.rf
  have hO : nx_ok a [(a, .inr (0, [.null, .int 0]))] := nx_ok.one
  have hA : a ≤ s.heap.size := by omega
  have hl : lv_has ls 2 [(0, .ref a), (1, .int (nI 8))] := hl
  refine lv_aload_n hx hb dL_init_0 rfl (lv_at hl 0 rfl) ?_
  refine W.objInit hx hb hown (ht _ mw_33) (ht _ mw_19) (ht _ mw_20) rfl (by rw [hml]; exact hl.1) rfl dL_init_1 (Nat.le_of_ble_eq_true rfl) (Nat.le_of_ble_eq_true rfl) ?_
  refine W.eq (g2 := F0 mid 4 ls []) rfl ?_
  refine lv_aload_n hx hb dL_init_4 rfl (lv_at hl 0 rfl) ?_
  refine lv_iload_n hx hb dL_init_5 rfl (lv_at hl 1 rfl) ?_
  refine nx_newa (atype := .int) (ty := .int) (N' := 8) (a0 := (8, .inl (fun _ => 0))) hx hb (ht _ mw_43) rfl hK 0 rfl hP hO hS hA (by rw [hz0]; rfl) (fun _ => rfl) (by decide) (by decide) (by decide) (Nat.le_of_ble_eq_true rfl) (Nat.le_of_ble_eq_true rfl) dL_init_6 (fun H hP hO hS => ?_)
  have hP : va_P D mx_cl [(a, .inr (0, [.null, .int 0])), ((a + 1), .inl (K 0, 8, .inl (fun _ => 0)))] H := hP
  have hO : nx_ok a [(a, .inr (0, [.null, .int 0])), ((a + 1), .inl (K 0, 8, .inl (fun _ => 0)))] := hO
  refine va_putF (C := mR_L) (T := mT_L) (N := 2) (ty := mt_L 0) (v := .ref (a + 1)) hx hb ht mh_L mt_L mk_L mn_L hown hK hP hO.D hS 0 rfl rfl 0 (by decide) (ht _ mw_34) (fun _ h => h) rfl hnm rfl (mk_L 0 (by decide)) rfl rfl (Nat.le_of_ble_eq_true rfl) dL_init_8 (fun H locs hP _ hS => ?_)
  have hP : va_P D mx_cl [(a, .inr (0, [.ref (a + 1), .int 0])), ((a + 1), .inl (K 0, 8, .inl (fun _ => 0)))] H := hP
  have hO : nx_ok a [(a, .inr (0, [.ref (a + 1), .int 0])), ((a + 1), .inl (K 0, 8, .inl (fun _ => 0)))] := hO.set (j := 0) rfl
  refine lv_aload_n hx hb dL_init_11 rfl (lv_at hl 0 rfl) ?_
  refine lv_iconst (v := nI 0) hx hb dL_init_12 (by decide) ?_
  refine va_put (C := mR_L) (T := mT_L) (N := 2) (ty := mt_L 1) (v := .int (nI 0)) hx hb ht mh_L mt_L mk_L mn_L hown hK hP hO.D hS 0 rfl rfl 1 (by decide) (ht _ mw_35) (fun _ h => h) rfl (mk_L 1 (by decide)) rfl rfl (Nat.le_of_ble_eq_true rfl) dL_init_13 (fun H locs hP _ hS => ?_)
  have hP : va_P D mx_cl [(a, .inr (0, [.ref (a + 1), .int (nI 0)])), ((a + 1), .inl (K 0, 8, .inl (fun _ => 0)))] H := hP
  have hO : nx_ok a [(a, .inr (0, [.ref (a + 1), .int (nI 0)])), ((a + 1), .inl (K 0, 8, .inl (fun _ => 0)))] := hO.set (j := 0) rfl
  exact nx_vret hx hb hr hP hS dL_init_16 hlk

set_option maxHeartbeats 4000000 in
set_option maxRecDepth 100000 in
theorem k_L_init4 (l : Launch) {D : va_G} {K : Nat → ClassId} {a : Nat} : Met l yL_init (Cond.code yL_init prog_2_method_1_code 2 none :: mx_T) { frames := 1, cells := 1, slots := 4, locals := 20 } (va_Pc [.ref a, .int (nI 4)] (nx_P D K (fun _ => True) a (.inr (0, [.null, .int 0])))) (nx_Q D a [(a, .inr (0, [.ref (a + 1), .int (nI 0)])), ((a + 1), .inl (K 0, 4, .inl (fun _ => 0)))]) 1 4 (fun q => a ≤ q) := by
  refine gx_met (by decide) rfl (Nat.le_of_ble_eq_true rfl) ?_
  intro pg ev s mid as below mth c ls hx hb hr hml ht hown hlk hnm hargs hB hl
  obtain ⟨hP, hK, hz0, -⟩ := hB
  have hS : va_S (fun q => a ≤ q) s.heap s.heap [] := va_S.rf
  have hO : nx_ok a [(a, .inr (0, [.null, .int 0]))] := nx_ok.one
  have hA : a ≤ s.heap.size := by omega
  have hl : lv_has ls 2 [(0, .ref a), (1, .int (nI 4))] := hl
  refine lv_aload_n hx hb dL_init_0 rfl (lv_at hl 0 rfl) ?_
  refine W.objInit hx hb hown (ht _ mw_33) (ht _ mw_19) (ht _ mw_20) rfl (by rw [hml]; exact hl.1) rfl dL_init_1 (Nat.le_of_ble_eq_true rfl) (Nat.le_of_ble_eq_true rfl) ?_
  refine W.eq (g2 := F0 mid 4 ls []) rfl ?_
  refine lv_aload_n hx hb dL_init_4 rfl (lv_at hl 0 rfl) ?_
  refine lv_iload_n hx hb dL_init_5 rfl (lv_at hl 1 rfl) ?_
  refine nx_newa (atype := .int) (ty := .int) (N' := 4) (a0 := (4, .inl (fun _ => 0))) hx hb (ht _ mw_43) rfl hK 0 rfl hP hO hS hA (by rw [hz0]; rfl) (fun _ => rfl) (by decide) (by decide) (by decide) (Nat.le_of_ble_eq_true rfl) (Nat.le_of_ble_eq_true rfl) dL_init_6 (fun H hP hO hS => ?_)
  have hP : va_P D mx_cl [(a, .inr (0, [.null, .int 0])), ((a + 1), .inl (K 0, 4, .inl (fun _ => 0)))] H := hP
  have hO : nx_ok a [(a, .inr (0, [.null, .int 0])), ((a + 1), .inl (K 0, 4, .inl (fun _ => 0)))] := hO
  refine va_putF (C := mR_L) (T := mT_L) (N := 2) (ty := mt_L 0) (v := .ref (a + 1)) hx hb ht mh_L mt_L mk_L mn_L hown hK hP hO.D hS 0 rfl rfl 0 (by decide) (ht _ mw_34) (fun _ h => h) rfl hnm rfl (mk_L 0 (by decide)) rfl rfl (Nat.le_of_ble_eq_true rfl) dL_init_8 (fun H locs hP _ hS => ?_)
  have hP : va_P D mx_cl [(a, .inr (0, [.ref (a + 1), .int 0])), ((a + 1), .inl (K 0, 4, .inl (fun _ => 0)))] H := hP
  have hO : nx_ok a [(a, .inr (0, [.ref (a + 1), .int 0])), ((a + 1), .inl (K 0, 4, .inl (fun _ => 0)))] := hO.set (j := 0) rfl
  refine lv_aload_n hx hb dL_init_11 rfl (lv_at hl 0 rfl) ?_
  refine lv_iconst (v := nI 0) hx hb dL_init_12 (by decide) ?_
  refine va_put (C := mR_L) (T := mT_L) (N := 2) (ty := mt_L 1) (v := .int (nI 0)) hx hb ht mh_L mt_L mk_L mn_L hown hK hP hO.D hS 0 rfl rfl 1 (by decide) (ht _ mw_35) (fun _ h => h) rfl (mk_L 1 (by decide)) rfl rfl (Nat.le_of_ble_eq_true rfl) dL_init_13 (fun H locs hP _ hS => ?_)
  have hP : va_P D mx_cl [(a, .inr (0, [.ref (a + 1), .int (nI 0)])), ((a + 1), .inl (K 0, 4, .inl (fun _ => 0)))] H := hP
  have hO : nx_ok a [(a, .inr (0, [.ref (a + 1), .int (nI 0)])), ((a + 1), .inl (K 0, 4, .inl (fun _ => 0)))] := hO.set (j := 0) rfl
  exact nx_vret hx hb hr hP hS dL_init_16 hlk

set_option maxHeartbeats 4000000 in
set_option maxRecDepth 100000 in
theorem k_L_init2 (l : Launch) {D : va_G} {K : Nat → ClassId} {a : Nat} : Met l yL_init (Cond.code yL_init prog_2_method_1_code 2 none :: mx_T) { frames := 1, cells := 1, slots := 2, locals := 20 } (va_Pc [.ref a, .int (nI 2)] (nx_P D K (fun _ => True) a (.inr (0, [.null, .int 0])))) (nx_Q D a [(a, .inr (0, [.ref (a + 1), .int (nI 0)])), ((a + 1), .inl (K 0, 2, .inl (fun _ => 0)))]) 1 2 (fun q => a ≤ q) := by
  refine gx_met (by decide) rfl (Nat.le_of_ble_eq_true rfl) ?_
  intro pg ev s mid as below mth c ls hx hb hr hml ht hown hlk hnm hargs hB hl
  obtain ⟨hP, hK, hz0, -⟩ := hB
  have hS : va_S (fun q => a ≤ q) s.heap s.heap [] := va_S.rf
  have hO : nx_ok a [(a, .inr (0, [.null, .int 0]))] := nx_ok.one
  have hA : a ≤ s.heap.size := by omega
  have hl : lv_has ls 2 [(0, .ref a), (1, .int (nI 2))] := hl
  refine lv_aload_n hx hb dL_init_0 rfl (lv_at hl 0 rfl) ?_
  refine W.objInit hx hb hown (ht _ mw_33) (ht _ mw_19) (ht _ mw_20) rfl (by rw [hml]; exact hl.1) rfl dL_init_1 (Nat.le_of_ble_eq_true rfl) (Nat.le_of_ble_eq_true rfl) ?_
  refine W.eq (g2 := F0 mid 4 ls []) rfl ?_
  refine lv_aload_n hx hb dL_init_4 rfl (lv_at hl 0 rfl) ?_
  refine lv_iload_n hx hb dL_init_5 rfl (lv_at hl 1 rfl) ?_
  refine nx_newa (atype := .int) (ty := .int) (N' := 2) (a0 := (2, .inl (fun _ => 0))) hx hb (ht _ mw_43) rfl hK 0 rfl hP hO hS hA (by rw [hz0]; rfl) (fun _ => rfl) (by decide) (by decide) (by decide) (Nat.le_of_ble_eq_true rfl) (Nat.le_of_ble_eq_true rfl) dL_init_6 (fun H hP hO hS => ?_)
  have hP : va_P D mx_cl [(a, .inr (0, [.null, .int 0])), ((a + 1), .inl (K 0, 2, .inl (fun _ => 0)))] H := hP
  have hO : nx_ok a [(a, .inr (0, [.null, .int 0])), ((a + 1), .inl (K 0, 2, .inl (fun _ => 0)))] := hO
  refine va_putF (C := mR_L) (T := mT_L) (N := 2) (ty := mt_L 0) (v := .ref (a + 1)) hx hb ht mh_L mt_L mk_L mn_L hown hK hP hO.D hS 0 rfl rfl 0 (by decide) (ht _ mw_34) (fun _ h => h) rfl hnm rfl (mk_L 0 (by decide)) rfl rfl (Nat.le_of_ble_eq_true rfl) dL_init_8 (fun H locs hP _ hS => ?_)
  have hP : va_P D mx_cl [(a, .inr (0, [.ref (a + 1), .int 0])), ((a + 1), .inl (K 0, 2, .inl (fun _ => 0)))] H := hP
  have hO : nx_ok a [(a, .inr (0, [.ref (a + 1), .int 0])), ((a + 1), .inl (K 0, 2, .inl (fun _ => 0)))] := hO.set (j := 0) rfl
  refine lv_aload_n hx hb dL_init_11 rfl (lv_at hl 0 rfl) ?_
  refine lv_iconst (v := nI 0) hx hb dL_init_12 (by decide) ?_
  refine va_put (C := mR_L) (T := mT_L) (N := 2) (ty := mt_L 1) (v := .int (nI 0)) hx hb ht mh_L mt_L mk_L mn_L hown hK hP hO.D hS 0 rfl rfl 1 (by decide) (ht _ mw_35) (fun _ h => h) rfl (mk_L 1 (by decide)) rfl rfl (Nat.le_of_ble_eq_true rfl) dL_init_13 (fun H locs hP _ hS => ?_)
  have hP : va_P D mx_cl [(a, .inr (0, [.ref (a + 1), .int (nI 0)])), ((a + 1), .inl (K 0, 2, .inl (fun _ => 0)))] H := hP
  have hO : nx_ok a [(a, .inr (0, [.ref (a + 1), .int (nI 0)])), ((a + 1), .inl (K 0, 2, .inl (fun _ => 0)))] := hO.set (j := 0) rfl
  exact nx_vret hx hb hr hP hS dL_init_16 hlk

set_option maxHeartbeats 4000000 in
set_option maxRecDepth 100000 in
theorem k_G_init (l : Launch) {D : va_G} {K : Nat → ClassId} {a : Nat} : Met l yG_init (Cond.code yG_init prog_4_method_1_code 1 none :: mx_T) { frames := 1, cells := 0, slots := 0, locals := 20 } (va_Pc [.ref a] (nx_P D K (fun _ => True) a (.inr (2, [.int 0, .int 0, .int 0, .long 0, .int 0])))) (nx_Q D a [(a, .inr (2, [.int 0, .int 0, .int 0, .long 0, .int 0]))]) 0 0 (fun q => a ≤ q) := by
  refine gx_met (by decide) rfl (Nat.le_of_ble_eq_true rfl) ?_
  intro pg ev s mid as below mth c ls hx hb hr hml ht hown hlk hnm hargs hB hl
  obtain ⟨hP, hK, hz0, -⟩ := hB
  have hS : va_S (fun q => a ≤ q) s.heap s.heap [] := va_S.rf
  have hO : nx_ok a [(a, .inr (2, [.int 0, .int 0, .int 0, .long 0, .int 0]))] := nx_ok.one
  have hA : a ≤ s.heap.size := by omega
  have hl : lv_has ls 1 [(0, .ref a)] := hl
  refine lv_aload_n hx hb dG_init_0 rfl (lv_at hl 0 rfl) ?_
  refine W.objInit hx hb hown (ht _ mw_109) (ht _ mw_19) (ht _ mw_20) rfl (by rw [hml]; exact hl.1) rfl dG_init_1 (Nat.le_of_ble_eq_true rfl) (Nat.le_of_ble_eq_true rfl) ?_
  refine W.eq (g2 := F0 mid 4 ls []) rfl ?_
  exact nx_vret hx hb hr hP hS dG_init_4 hlk
