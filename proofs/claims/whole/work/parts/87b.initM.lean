set_option maxHeartbeats 4000000 in
set_option maxRecDepth 100000 in
theorem k_M_init (l : Launch) {D : va_G} {K : Nat → ClassId} {a : Nat} : Met l yM_init (Cond.code yM_init prog_3_method_1_code 1 none :: mx_T) { frames := 2, cells := 4, slots := 16, locals := 41 } (va_Pc [.ref a] (nx_P D K (fun _ => True) a (.inr (1, [.null, .null, .int 0, .int 0, .int 0])))) (nx_Q D a [(a, .inr (1, [.ref (a + 1), .ref (a + 3), .int (nI 0), .int (nI 1), .int (nI 3)])), ((a + 1), .inr (0, [.ref (a + 2), .int (nI 0)])), ((a + 2), .inl (K 0, 8, .inl (fun _ => 0))), ((a + 3), .inr (0, [.ref (a + 4), .int (nI 0)])), ((a + 4), .inl (K 0, 4, .inl (fun _ => 0)))]) 4 16 (fun q => a ≤ q) := by
  refine gx_met (by decide) rfl (Nat.le_of_ble_eq_true rfl) ?_
  intro pg ev s mid as below mth c ls hx hb hr hml ht hown hlk hnm hargs hB hl
  obtain ⟨hP, hK, hz0, -⟩ := hB
  have hS : va_S (fun q => a ≤ q) s.heap s.heap [] := va_S.rf
  have hO : nx_ok a [(a, .inr (1, [.null, .null, .int 0, .int 0, .int 0]))] := nx_ok.one
  have hA : a ≤ s.heap.size := by omega
  have hl : lv_has ls 1 [(0, .ref a)] := hl
  refine lv_aload_n hx hb dM_init_0 rfl (lv_at hl 0 rfl) ?_
  refine W.objInit hx hb hown (ht _ mw_27) (ht _ mw_19) (ht _ mw_20) rfl (by rw [hml]; exact hl.1) rfl dM_init_1 (Nat.le_of_ble_eq_true rfl) (Nat.le_of_ble_eq_true rfl) ?_
  refine W.eq (g2 := F0 mid 4 ls []) rfl ?_
  refine lv_aload_n hx hb dM_init_4 rfl (lv_at hl 0 rfl) ?_
  refine nx_new (C := mR_L) (T := mT_L) (N := 2) (ci := 0) (fs := [.null, .int 0]) hx hb ht mh_L mt_L mk_L hown (ht _ mw_28) (ht _ mw_29) (ht _ mw_3) hK hP hO hS hA (by rw [hz0]; rfl) rfl nx_dL (Nat.le_of_ble_eq_true rfl) (Nat.le_of_ble_eq_true rfl) dM_init_5 (fun H hP hO hS => ?_)
  have hP : va_P D mx_cl [(a, .inr (1, [.null, .null, .int 0, .int 0, .int 0])), ((a + 1), .inr (0, [.null, .int 0]))] H := hP
  have hO : nx_ok a [(a, .inr (1, [.null, .null, .int 0, .int 0, .int 0])), ((a + 1), .inr (0, [.null, .int 0]))] := hO
  refine lv_dup hx hb dM_init_8 rfl ?_
  refine lv_bipush (v := nI 8) hx hb dM_init_9 (by decide) ?_
  refine nx_full (ws0 := [(a, .inr (1, [.null, .null, .int 0, .int 0, .int 0]))]) hP (by rw [hz0]; rfl) (fun hz => ?_)
  refine nx_callv (ws0 := [(a, .inr (1, [.null, .null, .int 0, .int 0, .int 0]))]) (ws1 := [((a + 1), .inr (0, [.ref ((a + 1) + 1), .int (nI 0)])), (((a + 1) + 1), .inl (K 0, 8, .inl (fun _ => 0)))]) (va_runI (As := [.int (nI 8)]) (rest := [.ref (a + 1), .ref a]) ⟨hx, hb, hml, hown, ht⟩ (k_L_init8 l) (cwI 1 ht (mx_good mw_32) rfl rfl rfl (ht _ mw_3) (ht _ mw_30) (ht _ mw_31) rfl (by decide +kernel) ⟨(Nat.le_of_ble_eq_true rfl), (Nat.le_of_ble_eq_true rfl)⟩) (nx_pre nx_w0 trivial hK hP hz [.int (nI 8)]) rfl rfl hl.1 rfl (lv_room (Nat.le_of_ble_eq_true rfl)) dM_init_11 ⟨(Nat.le_of_ble_eq_true rfl), (Nat.le_of_ble_eq_true rfl)⟩) hP hO (.cons (.cons .nil)) hS (fun H locs hP hO hS => ?_)
  have hP : va_P D mx_cl [(a, .inr (1, [.null, .null, .int 0, .int 0, .int 0])), ((a + 1), .inr (0, [.ref (a + 2), .int (nI 0)])), ((a + 2), .inl (K 0, 8, .inl (fun _ => 0)))] H := hP
  have hO : nx_ok a [(a, .inr (1, [.null, .null, .int 0, .int 0, .int 0])), ((a + 1), .inr (0, [.ref (a + 2), .int (nI 0)])), ((a + 2), .inl (K 0, 8, .inl (fun _ => 0)))] := hO
  refine va_putF (C := mR_M) (T := mT_M) (N := 5) (ty := mt_M 0) (v := .ref (a + 1)) hx hb ht mh_M mt_M mk_M mn_M hown hK hP hO.D hS 0 rfl rfl 0 (by decide) (ht _ mw_44) (fun _ h => h) rfl hnm rfl (mk_M 0 (by decide)) rfl rfl (Nat.le_of_ble_eq_true rfl) dM_init_14 (fun H locs hP _ hS => ?_)
  have hP : va_P D mx_cl [(a, .inr (1, [.ref (a + 1), .null, .int 0, .int 0, .int 0])), ((a + 1), .inr (0, [.ref (a + 2), .int (nI 0)])), ((a + 2), .inl (K 0, 8, .inl (fun _ => 0)))] H := hP
  have hO : nx_ok a [(a, .inr (1, [.ref (a + 1), .null, .int 0, .int 0, .int 0])), ((a + 1), .inr (0, [.ref (a + 2), .int (nI 0)])), ((a + 2), .inl (K 0, 8, .inl (fun _ => 0)))] := hO.set (j := 0) rfl
  refine lv_aload_n hx hb dM_init_17 rfl (lv_at hl 0 rfl) ?_
  refine nx_new (C := mR_L) (T := mT_L) (N := 2) (ci := 0) (fs := [.null, .int 0]) hx hb ht mh_L mt_L mk_L hown (ht _ mw_28) (ht _ mw_29) (ht _ mw_3) hK hP hO hS hA (by rw [hz0]; rfl) rfl nx_dL (Nat.le_of_ble_eq_true rfl) (Nat.le_of_ble_eq_true rfl) dM_init_18 (fun H hP hO hS => ?_)
  have hP : va_P D mx_cl [(a, .inr (1, [.ref (a + 1), .null, .int 0, .int 0, .int 0])), ((a + 1), .inr (0, [.ref (a + 2), .int (nI 0)])), ((a + 2), .inl (K 0, 8, .inl (fun _ => 0))), ((a + 3), .inr (0, [.null, .int 0]))] H := hP
  have hO : nx_ok a [(a, .inr (1, [.ref (a + 1), .null, .int 0, .int 0, .int 0])), ((a + 1), .inr (0, [.ref (a + 2), .int (nI 0)])), ((a + 2), .inl (K 0, 8, .inl (fun _ => 0))), ((a + 3), .inr (0, [.null, .int 0]))] := hO
  refine lv_dup hx hb dM_init_21 rfl ?_
  refine lv_iconst (v := nI 4) hx hb dM_init_22 (by decide) ?_
  refine nx_full (ws0 := [(a, .inr (1, [.ref (a + 1), .null, .int 0, .int 0, .int 0])), ((a + 1), .inr (0, [.ref (a + 2), .int (nI 0)])), ((a + 2), .inl (K 0, 8, .inl (fun _ => 0)))]) hP (by rw [hz0]; rfl) (fun hz => ?_)
  refine nx_callv (ws0 := [(a, .inr (1, [.ref (a + 1), .null, .int 0, .int 0, .int 0])), ((a + 1), .inr (0, [.ref (a + 2), .int (nI 0)])), ((a + 2), .inl (K 0, 8, .inl (fun _ => 0)))]) (ws1 := [((a + 3), .inr (0, [.ref ((a + 3) + 1), .int (nI 0)])), (((a + 3) + 1), .inl (K 0, 4, .inl (fun _ => 0)))]) (va_runI (As := [.int (nI 4)]) (rest := [.ref (a + 3), .ref a]) ⟨hx, hb, hml, hown, ht⟩ (k_L_init4 l) (cwI 1 ht (mx_good mw_32) rfl rfl rfl (ht _ mw_3) (ht _ mw_30) (ht _ mw_31) rfl (by decide +kernel) ⟨(Nat.le_of_ble_eq_true rfl), (Nat.le_of_ble_eq_true rfl)⟩) (nx_pre nx_w0 trivial hK hP hz [.int (nI 4)]) rfl rfl hl.1 rfl (lv_room (Nat.le_of_ble_eq_true rfl)) dM_init_23 ⟨(Nat.le_of_ble_eq_true rfl), (Nat.le_of_ble_eq_true rfl)⟩) hP hO (.cons (.cons .nil)) hS (fun H locs hP hO hS => ?_)
  have hP : va_P D mx_cl [(a, .inr (1, [.ref (a + 1), .null, .int 0, .int 0, .int 0])), ((a + 1), .inr (0, [.ref (a + 2), .int (nI 0)])), ((a + 2), .inl (K 0, 8, .inl (fun _ => 0))), ((a + 3), .inr (0, [.ref (a + 4), .int (nI 0)])), ((a + 4), .inl (K 0, 4, .inl (fun _ => 0)))] H := hP
  have hO : nx_ok a [(a, .inr (1, [.ref (a + 1), .null, .int 0, .int 0, .int 0])), ((a + 1), .inr (0, [.ref (a + 2), .int (nI 0)])), ((a + 2), .inl (K 0, 8, .inl (fun _ => 0))), ((a + 3), .inr (0, [.ref (a + 4), .int (nI 0)])), ((a + 4), .inl (K 0, 4, .inl (fun _ => 0)))] := hO
  refine va_putF (C := mR_M) (T := mT_M) (N := 5) (ty := mt_M 1) (v := .ref (a + 3)) hx hb ht mh_M mt_M mk_M mn_M hown hK hP hO.D hS 0 rfl rfl 1 (by decide) (ht _ mw_46) (fun _ h => h) rfl hnm rfl (mk_M 1 (by decide)) rfl rfl (Nat.le_of_ble_eq_true rfl) dM_init_26 (fun H locs hP _ hS => ?_)
  have hP : va_P D mx_cl [(a, .inr (1, [.ref (a + 1), .ref (a + 3), .int 0, .int 0, .int 0])), ((a + 1), .inr (0, [.ref (a + 2), .int (nI 0)])), ((a + 2), .inl (K 0, 8, .inl (fun _ => 0))), ((a + 3), .inr (0, [.ref (a + 4), .int (nI 0)])), ((a + 4), .inl (K 0, 4, .inl (fun _ => 0)))] H := hP
  have hO : nx_ok a [(a, .inr (1, [.ref (a + 1), .ref (a + 3), .int 0, .int 0, .int 0])), ((a + 1), .inr (0, [.ref (a + 2), .int (nI 0)])), ((a + 2), .inl (K 0, 8, .inl (fun _ => 0))), ((a + 3), .inr (0, [.ref (a + 4), .int (nI 0)])), ((a + 4), .inl (K 0, 4, .inl (fun _ => 0)))] := hO.set (j := 0) rfl
  refine lv_aload_n hx hb dM_init_29 rfl (lv_at hl 0 rfl) ?_
  refine lv_iconst (v := nI 0) hx hb dM_init_30 (by decide) ?_
  refine va_put (C := mR_M) (T := mT_M) (N := 5) (ty := mt_M 2) (v := .int (nI 0)) hx hb ht mh_M mt_M mk_M mn_M hown hK hP hO.D hS 0 rfl rfl 2 (by decide) (ht _ mw_48) (fun _ h => h) rfl (mk_M 2 (by decide)) rfl rfl (Nat.le_of_ble_eq_true rfl) dM_init_31 (fun H locs hP _ hS => ?_)
  have hP : va_P D mx_cl [(a, .inr (1, [.ref (a + 1), .ref (a + 3), .int (nI 0), .int 0, .int 0])), ((a + 1), .inr (0, [.ref (a + 2), .int (nI 0)])), ((a + 2), .inl (K 0, 8, .inl (fun _ => 0))), ((a + 3), .inr (0, [.ref (a + 4), .int (nI 0)])), ((a + 4), .inl (K 0, 4, .inl (fun _ => 0)))] H := hP
  have hO : nx_ok a [(a, .inr (1, [.ref (a + 1), .ref (a + 3), .int (nI 0), .int 0, .int 0])), ((a + 1), .inr (0, [.ref (a + 2), .int (nI 0)])), ((a + 2), .inl (K 0, 8, .inl (fun _ => 0))), ((a + 3), .inr (0, [.ref (a + 4), .int (nI 0)])), ((a + 4), .inl (K 0, 4, .inl (fun _ => 0)))] := hO.set (j := 0) rfl
  refine lv_aload_n hx hb dM_init_34 rfl (lv_at hl 0 rfl) ?_
  refine lv_iconst (v := nI 1) hx hb dM_init_35 (by decide) ?_
  refine va_put (C := mR_M) (T := mT_M) (N := 5) (ty := mt_M 3) (v := .int (nI 1)) hx hb ht mh_M mt_M mk_M mn_M hown hK hP hO.D hS 0 rfl rfl 3 (by decide) (ht _ mw_50) (fun _ h => h) rfl (mk_M 3 (by decide)) rfl rfl (Nat.le_of_ble_eq_true rfl) dM_init_36 (fun H locs hP _ hS => ?_)
  have hP : va_P D mx_cl [(a, .inr (1, [.ref (a + 1), .ref (a + 3), .int (nI 0), .int (nI 1), .int 0])), ((a + 1), .inr (0, [.ref (a + 2), .int (nI 0)])), ((a + 2), .inl (K 0, 8, .inl (fun _ => 0))), ((a + 3), .inr (0, [.ref (a + 4), .int (nI 0)])), ((a + 4), .inl (K 0, 4, .inl (fun _ => 0)))] H := hP
  have hO : nx_ok a [(a, .inr (1, [.ref (a + 1), .ref (a + 3), .int (nI 0), .int (nI 1), .int 0])), ((a + 1), .inr (0, [.ref (a + 2), .int (nI 0)])), ((a + 2), .inl (K 0, 8, .inl (fun _ => 0))), ((a + 3), .inr (0, [.ref (a + 4), .int (nI 0)])), ((a + 4), .inl (K 0, 4, .inl (fun _ => 0)))] := hO.set (j := 0) rfl
  refine lv_aload_n hx hb dM_init_39 rfl (lv_at hl 0 rfl) ?_
  refine lv_iconst (v := nI 3) hx hb dM_init_40 (by decide) ?_
  refine va_put (C := mR_M) (T := mT_M) (N := 5) (ty := mt_M 4) (v := .int (nI 3)) hx hb ht mh_M mt_M mk_M mn_M hown hK hP hO.D hS 0 rfl rfl 4 (by decide) (ht _ mw_52) (fun _ h => h) rfl (mk_M 4 (by decide)) rfl rfl (Nat.le_of_ble_eq_true rfl) dM_init_41 (fun H locs hP _ hS => ?_)
  have hP : va_P D mx_cl [(a, .inr (1, [.ref (a + 1), .ref (a + 3), .int (nI 0), .int (nI 1), .int (nI 3)])), ((a + 1), .inr (0, [.ref (a + 2), .int (nI 0)])), ((a + 2), .inl (K 0, 8, .inl (fun _ => 0))), ((a + 3), .inr (0, [.ref (a + 4), .int (nI 0)])), ((a + 4), .inl (K 0, 4, .inl (fun _ => 0)))] H := hP
  have hO : nx_ok a [(a, .inr (1, [.ref (a + 1), .ref (a + 3), .int (nI 0), .int (nI 1), .int (nI 3)])), ((a + 1), .inr (0, [.ref (a + 2), .int (nI 0)])), ((a + 2), .inl (K 0, 8, .inl (fun _ => 0))), ((a + 3), .inr (0, [.ref (a + 4), .int (nI 0)])), ((a + 4), .inl (K 0, 4, .inl (fun _ => 0)))] := hO.set (j := 0) rfl
  exact nx_vret hx hb hr hP hS dM_init_44 hlk
