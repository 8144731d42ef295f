theorem nx_own {k0 : Nat} : upd (fun i => if i < k0 then (-1 : Int32) else 0) k0 (-1) = fun i => if i < k0 + 1 then (-1 : Int32) else 0 := by
  funext i
  show (if i = k0 then (-1 : Int32) else if i < k0 then -1 else 0) = if i < k0 + 1 then -1 else 0
  by_cases h : i = k0
  · rw [if_pos h, if_pos (by omega)]
  · rw [if_neg h]
    by_cases h2 : i < k0
    · rw [if_pos h2, if_pos (by omega)]
    · rw [if_neg h2, if_neg (by omega)]
set_option maxHeartbeats 4000000 in
set_option maxRecDepth 100000 in
theorem k_P_init (l : Launch) {D : va_G} {K : Nat → ClassId} {a : Nat} : Met l yP_init (Cond.code yP_init prog_5_method_1_code 2 none :: mx_T) { frames := 2, cells := 5, slots := 12, locals := 41 } (va_Pc [.ref a] (nx_P D K (fun _ => True) a (.inr (3, [.null, .null, .null, .int 0, .int 0, .int 0, .int 0])))) (nx_Q D a [(a, .inr (3, [.ref (a + 1), .ref (a + 3), .ref (a + 5), .int (-1), .int (nI 0), .int (nI 0), .int (nI 2)])), ((a + 1), .inr (0, [.ref (a + 2), .int (nI 0)])), ((a + 2), .inl (K 0, 2, .inl (fun _ => 0))), ((a + 3), .inr (0, [.ref (a + 4), .int (nI 0)])), ((a + 4), .inl (K 0, 2, .inl (fun _ => 0))), ((a + 5), .inl (K 0, 4, .inl (fun i => if i < 4 then -1 else 0)))]) 5 12 (fun q => a ≤ q) := by
  refine gx_met (by decide) rfl (Nat.le_of_ble_eq_true rfl) ?_
  intro pg ev s mid as below mth c ls hx hb hr hml ht hown hlk hnm hargs hB hl
  obtain ⟨hP, hK, hz0, -⟩ := hB
  have hS : va_S (fun q => a ≤ q) s.heap s.heap [] := va_S.rf
  have hO : nx_ok a [(a, .inr (3, [.null, .null, .null, .int 0, .int 0, .int 0, .int 0]))] := nx_ok.one
  have hA : a ≤ s.heap.size := by omega
  have hl : lv_has ls 2 [(0, .ref a)] := hl
  refine lv_aload_n hx hb dP_init_0 rfl (lv_at hl 0 rfl) ?_
  refine W.objInit hx hb hown (ht _ mw_71) (ht _ mw_19) (ht _ mw_20) rfl (by rw [hml]; exact hl.1) rfl dP_init_1 (Nat.le_of_ble_eq_true rfl) (Nat.le_of_ble_eq_true rfl) ?_
  refine W.eq (g2 := F0 mid 4 ls []) rfl ?_
  refine lv_aload_n hx hb dP_init_4 rfl (lv_at hl 0 rfl) ?_
  refine nx_new (C := mR_L) (T := mT_L) (N := 2) (ci := 0) (fs := [.null, .int 0]) hx hb ht mh_L mt_L mk_L hown (ht _ mw_72) (ht _ mw_29) (ht _ mw_3) hK hP hO hS hA (by rw [hz0]; rfl) rfl nx_dL (Nat.le_of_ble_eq_true rfl) (Nat.le_of_ble_eq_true rfl) dP_init_5 (fun H hP hO hS => ?_)
  have hP : va_P D mx_cl [(a, .inr (3, [.null, .null, .null, .int 0, .int 0, .int 0, .int 0])), ((a + 1), .inr (0, [.null, .int 0]))] H := hP
  have hO : nx_ok a [(a, .inr (3, [.null, .null, .null, .int 0, .int 0, .int 0, .int 0])), ((a + 1), .inr (0, [.null, .int 0]))] := hO
  refine lv_dup hx hb dP_init_8 rfl ?_
  refine lv_iconst (v := nI 2) hx hb dP_init_9 (by decide) ?_
  refine nx_full (ws0 := [(a, .inr (3, [.null, .null, .null, .int 0, .int 0, .int 0, .int 0]))]) hP (by rw [hz0]; rfl) (fun hz => ?_)
  refine nx_callv (ws0 := [(a, .inr (3, [.null, .null, .null, .int 0, .int 0, .int 0, .int 0]))]) (ws1 := [((a + 1), .inr (0, [.ref ((a + 1) + 1), .int (nI 0)])), (((a + 1) + 1), .inl (K 0, 2, .inl (fun _ => 0)))]) (va_runI (As := [.int (nI 2)]) (rest := [.ref (a + 1), .ref a]) ⟨hx, hb, hml, hown, ht⟩ (k_L_init2 l) (cwI 1 ht (mx_good mw_32) rfl rfl rfl (ht _ mw_3) (ht _ mw_73) (ht _ mw_31) rfl (by decide +kernel) ⟨(Nat.le_of_ble_eq_true rfl), (Nat.le_of_ble_eq_true rfl)⟩) (nx_pre nx_w0 trivial hK hP hz [.int (nI 2)]) rfl rfl hl.1 rfl (lv_room (Nat.le_of_ble_eq_true rfl)) dP_init_10 ⟨(Nat.le_of_ble_eq_true rfl), (Nat.le_of_ble_eq_true rfl)⟩) hP hO (.cons (.cons .nil)) hS (fun H locs hP hO hS => ?_)
  have hP : va_P D mx_cl [(a, .inr (3, [.null, .null, .null, .int 0, .int 0, .int 0, .int 0])), ((a + 1), .inr (0, [.ref (a + 2), .int (nI 0)])), ((a + 2), .inl (K 0, 2, .inl (fun _ => 0)))] H := hP
  have hO : nx_ok a [(a, .inr (3, [.null, .null, .null, .int 0, .int 0, .int 0, .int 0])), ((a + 1), .inr (0, [.ref (a + 2), .int (nI 0)])), ((a + 2), .inl (K 0, 2, .inl (fun _ => 0)))] := hO
  refine va_putF (C := mR_P) (T := mT_P) (N := 7) (ty := mt_P 0) (v := .ref (a + 1)) hx hb ht mh_P mt_P mk_P mn_P hown hK hP hO.D hS 0 rfl rfl 0 (by decide) (ht _ mw_74) (fun _ h => h) rfl hnm rfl (mk_P 0 (by decide)) rfl rfl (Nat.le_of_ble_eq_true rfl) dP_init_13 (fun H locs hP _ hS => ?_)
  have hP : va_P D mx_cl [(a, .inr (3, [.ref (a + 1), .null, .null, .int 0, .int 0, .int 0, .int 0])), ((a + 1), .inr (0, [.ref (a + 2), .int (nI 0)])), ((a + 2), .inl (K 0, 2, .inl (fun _ => 0)))] H := hP
  have hO : nx_ok a [(a, .inr (3, [.ref (a + 1), .null, .null, .int 0, .int 0, .int 0, .int 0])), ((a + 1), .inr (0, [.ref (a + 2), .int (nI 0)])), ((a + 2), .inl (K 0, 2, .inl (fun _ => 0)))] := hO.set (j := 0) rfl
  refine lv_aload_n hx hb dP_init_16 rfl (lv_at hl 0 rfl) ?_
  refine nx_new (C := mR_L) (T := mT_L) (N := 2) (ci := 0) (fs := [.null, .int 0]) hx hb ht mh_L mt_L mk_L hown (ht _ mw_72) (ht _ mw_29) (ht _ mw_3) hK hP hO hS hA (by rw [hz0]; rfl) rfl nx_dL (Nat.le_of_ble_eq_true rfl) (Nat.le_of_ble_eq_true rfl) dP_init_17 (fun H hP hO hS => ?_)
  have hP : va_P D mx_cl [(a, .inr (3, [.ref (a + 1), .null, .null, .int 0, .int 0, .int 0, .int 0])), ((a + 1), .inr (0, [.ref (a + 2), .int (nI 0)])), ((a + 2), .inl (K 0, 2, .inl (fun _ => 0))), ((a + 3), .inr (0, [.null, .int 0]))] H := hP
  have hO : nx_ok a [(a, .inr (3, [.ref (a + 1), .null, .null, .int 0, .int 0, .int 0, .int 0])), ((a + 1), .inr (0, [.ref (a + 2), .int (nI 0)])), ((a + 2), .inl (K 0, 2, .inl (fun _ => 0))), ((a + 3), .inr (0, [.null, .int 0]))] := hO
  refine lv_dup hx hb dP_init_20 rfl ?_
  refine lv_iconst (v := nI 2) hx hb dP_init_21 (by decide) ?_
  refine nx_full (ws0 := [(a, .inr (3, [.ref (a + 1), .null, .null, .int 0, .int 0, .int 0, .int 0])), ((a + 1), .inr (0, [.ref (a + 2), .int (nI 0)])), ((a + 2), .inl (K 0, 2, .inl (fun _ => 0)))]) hP (by rw [hz0]; rfl) (fun hz => ?_)
  refine nx_callv (ws0 := [(a, .inr (3, [.ref (a + 1), .null, .null, .int 0, .int 0, .int 0, .int 0])), ((a + 1), .inr (0, [.ref (a + 2), .int (nI 0)])), ((a + 2), .inl (K 0, 2, .inl (fun _ => 0)))]) (ws1 := [((a + 3), .inr (0, [.ref ((a + 3) + 1), .int (nI 0)])), (((a + 3) + 1), .inl (K 0, 2, .inl (fun _ => 0)))]) (va_runI (As := [.int (nI 2)]) (rest := [.ref (a + 3), .ref a]) ⟨hx, hb, hml, hown, ht⟩ (k_L_init2 l) (cwI 1 ht (mx_good mw_32) rfl rfl rfl (ht _ mw_3) (ht _ mw_73) (ht _ mw_31) rfl (by decide +kernel) ⟨(Nat.le_of_ble_eq_true rfl), (Nat.le_of_ble_eq_true rfl)⟩) (nx_pre nx_w0 trivial hK hP hz [.int (nI 2)]) rfl rfl hl.1 rfl (lv_room (Nat.le_of_ble_eq_true rfl)) dP_init_22 ⟨(Nat.le_of_ble_eq_true rfl), (Nat.le_of_ble_eq_true rfl)⟩) hP hO (.cons (.cons .nil)) hS (fun H locs hP hO hS => ?_)
  have hP : va_P D mx_cl [(a, .inr (3, [.ref (a + 1), .null, .null, .int 0, .int 0, .int 0, .int 0])), ((a + 1), .inr (0, [.ref (a + 2), .int (nI 0)])), ((a + 2), .inl (K 0, 2, .inl (fun _ => 0))), ((a + 3), .inr (0, [.ref (a + 4), .int (nI 0)])), ((a + 4), .inl (K 0, 2, .inl (fun _ => 0)))] H := hP
  have hO : nx_ok a [(a, .inr (3, [.ref (a + 1), .null, .null, .int 0, .int 0, .int 0, .int 0])), ((a + 1), .inr (0, [.ref (a + 2), .int (nI 0)])), ((a + 2), .inl (K 0, 2, .inl (fun _ => 0))), ((a + 3), .inr (0, [.ref (a + 4), .int (nI 0)])), ((a + 4), .inl (K 0, 2, .inl (fun _ => 0)))] := hO
  refine va_putF (C := mR_P) (T := mT_P) (N := 7) (ty := mt_P 1) (v := .ref (a + 3)) hx hb ht mh_P mt_P mk_P mn_P hown hK hP hO.D hS 0 rfl rfl 1 (by decide) (ht _ mw_76) (fun _ h => h) rfl hnm rfl (mk_P 1 (by decide)) rfl rfl (Nat.le_of_ble_eq_true rfl) dP_init_25 (fun H locs hP _ hS => ?_)
  have hP : va_P D mx_cl [(a, .inr (3, [.ref (a + 1), .ref (a + 3), .null, .int 0, .int 0, .int 0, .int 0])), ((a + 1), .inr (0, [.ref (a + 2), .int (nI 0)])), ((a + 2), .inl (K 0, 2, .inl (fun _ => 0))), ((a + 3), .inr (0, [.ref (a + 4), .int (nI 0)])), ((a + 4), .inl (K 0, 2, .inl (fun _ => 0)))] H := hP
  have hO : nx_ok a [(a, .inr (3, [.ref (a + 1), .ref (a + 3), .null, .int 0, .int 0, .int 0, .int 0])), ((a + 1), .inr (0, [.ref (a + 2), .int (nI 0)])), ((a + 2), .inl (K 0, 2, .inl (fun _ => 0))), ((a + 3), .inr (0, [.ref (a + 4), .int (nI 0)])), ((a + 4), .inl (K 0, 2, .inl (fun _ => 0)))] := hO.set (j := 0) rfl
  refine lv_aload_n hx hb dP_init_28 rfl (lv_at hl 0 rfl) ?_
  refine lv_iconst (v := nI 4) hx hb dP_init_29 (by decide) ?_
  refine nx_newa (atype := .int) (ty := .int) (N' := 4) (a0 := (4, .inl (fun _ => 0))) hx hb (ht _ mw_43) rfl hK 0 rfl hP hO hS hA (by rw [hz0]; rfl) (fun _ => rfl) (by decide) (by decide) (by decide) (Nat.le_of_ble_eq_true rfl) (Nat.le_of_ble_eq_true rfl) dP_init_30 (fun H hP hO hS => ?_)
  have hP : va_P D mx_cl [(a, .inr (3, [.ref (a + 1), .ref (a + 3), .null, .int 0, .int 0, .int 0, .int 0])), ((a + 1), .inr (0, [.ref (a + 2), .int (nI 0)])), ((a + 2), .inl (K 0, 2, .inl (fun _ => 0))), ((a + 3), .inr (0, [.ref (a + 4), .int (nI 0)])), ((a + 4), .inl (K 0, 2, .inl (fun _ => 0))), ((a + 5), .inl (K 0, 4, .inl (fun _ => 0)))] H := hP
  have hO : nx_ok a [(a, .inr (3, [.ref (a + 1), .ref (a + 3), .null, .int 0, .int 0, .int 0, .int 0])), ((a + 1), .inr (0, [.ref (a + 2), .int (nI 0)])), ((a + 2), .inl (K 0, 2, .inl (fun _ => 0))), ((a + 3), .inr (0, [.ref (a + 4), .int (nI 0)])), ((a + 4), .inl (K 0, 2, .inl (fun _ => 0))), ((a + 5), .inl (K 0, 4, .inl (fun _ => 0)))] := hO
  refine va_putF (C := mR_P) (T := mT_P) (N := 7) (ty := mt_P 2) (v := .ref (a + 5)) hx hb ht mh_P mt_P mk_P mn_P hown hK hP hO.D hS 0 rfl rfl 2 (by decide) (ht _ mw_78) (fun _ h => h) rfl hnm rfl (mk_P 2 (by decide)) rfl rfl (Nat.le_of_ble_eq_true rfl) dP_init_32 (fun H locs hP _ hS => ?_)
  have hP : va_P D mx_cl [(a, .inr (3, [.ref (a + 1), .ref (a + 3), .ref (a + 5), .int 0, .int 0, .int 0, .int 0])), ((a + 1), .inr (0, [.ref (a + 2), .int (nI 0)])), ((a + 2), .inl (K 0, 2, .inl (fun _ => 0))), ((a + 3), .inr (0, [.ref (a + 4), .int (nI 0)])), ((a + 4), .inl (K 0, 2, .inl (fun _ => 0))), ((a + 5), .inl (K 0, 4, .inl (fun _ => 0)))] H := hP
  have hO : nx_ok a [(a, .inr (3, [.ref (a + 1), .ref (a + 3), .ref (a + 5), .int 0, .int 0, .int 0, .int 0])), ((a + 1), .inr (0, [.ref (a + 2), .int (nI 0)])), ((a + 2), .inl (K 0, 2, .inl (fun _ => 0))), ((a + 3), .inr (0, [.ref (a + 4), .int (nI 0)])), ((a + 4), .inl (K 0, 2, .inl (fun _ => 0))), ((a + 5), .inl (K 0, 4, .inl (fun _ => 0)))] := hO.set (j := 0) rfl
  refine lv_iconst (v := nI 0) hx hb dP_init_35 (by decide) ?_
  refine lv_istore_n (lv' := [(1, .int (nI 0)), (0, .ref a)]) hx hb dP_init_36 rfl hl (by decide) rfl (fun ls hl => ?_)
  refine W.widen (k := 5) (n := 12) (by decide) (by decide) ?_
  have loop : ∀ (k k0 : Nat) (H : Heap) (locs : List Loc) (ls : Array Slot), k0 + k = 4 → va_P D mx_cl [(a, .inr (3, [.ref (a + 1), .ref (a + 3), .ref (a + 5), .int 0, .int 0, .int 0, .int 0])), ((a + 1), .inr (0, [.ref (a + 2), .int (nI 0)])), ((a + 2), .inl (K 0, 2, .inl (fun _ => 0))), ((a + 3), .inr (0, [.ref (a + 4), .int (nI 0)])), ((a + 4), .inl (K 0, 2, .inl (fun _ => 0))), ((a + 5), .inl (K 0, 4, .inl (fun i => if i < k0 then -1 else 0)))] H → va_S (fun q => a ≤ q) s.heap H locs → lv_has ls 2 [(1, .int (nI k0)), (0, .ref a)] → W pg l ev (headSpec (Cond.code yP_init prog_5_method_1_code 2 none :: mx_T) { frames := 2, cells := 5, slots := 12, locals := 41 }).room s mid as below mth c H locs 5 12 (MQ below (nx_Q D a [(a, .inr (3, [.ref (a + 1), .ref (a + 3), .ref (a + 5), .int (-1), .int (nI 0), .int (nI 0), .int (nI 2)])), ((a + 1), .inr (0, [.ref (a + 2), .int (nI 0)])), ((a + 2), .inl (K 0, 2, .inl (fun _ => 0))), ((a + 3), .inr (0, [.ref (a + 4), .int (nI 0)])), ((a + 4), .inl (K 0, 2, .inl (fun _ => 0))), ((a + 5), .inl (K 0, 4, .inl (fun i => if i < 4 then -1 else 0)))]) as s 5 12 (fun q => a ≤ q)) (F0 mid 37 ls []) := by
    intro k
    induction k with
    | zero =>
      intro k0 H locs ls hk hP hS hl
      have hO : nx_ok a [(a, .inr (3, [.ref (a + 1), .ref (a + 3), .ref (a + 5), .int 0, .int 0, .int 0, .int 0])), ((a + 1), .inr (0, [.ref (a + 2), .int (nI 0)])), ((a + 2), .inl (K 0, 2, .inl (fun _ => 0))), ((a + 3), .inr (0, [.ref (a + 4), .int (nI 0)])), ((a + 4), .inl (K 0, 2, .inl (fun _ => 0))), ((a + 5), .inl (K 0, 4, .inl (fun i => if i < k0 then -1 else 0)))] := (.cons (.cons (.cons (.cons (.cons (.cons .nil))))))
      refine lv_iload_n hx hb dP_init_37 rfl (lv_at hl 0 rfl) ?_
      refine lv_iconst (v := nI 4) hx hb dP_init_38 (by decide) ?_
      refine gx_icmp_ge (a := k0) (b := 4) (tgt := 55) hx hb dP_init_39 (by decide) (by omega) (by omega) (fun h39 => ?_) (fun h39 => ?_)
      · have h4 : k0 = 4 := by omega
        subst h4
        have hP : va_P D mx_cl [(a, .inr (3, [.ref (a + 1), .ref (a + 3), .ref (a + 5), .int 0, .int 0, .int 0, .int 0])), ((a + 1), .inr (0, [.ref (a + 2), .int (nI 0)])), ((a + 2), .inl (K 0, 2, .inl (fun _ => 0))), ((a + 3), .inr (0, [.ref (a + 4), .int (nI 0)])), ((a + 4), .inl (K 0, 2, .inl (fun _ => 0))), ((a + 5), .inl (K 0, 4, .inl (fun i => if i < 4 then -1 else 0)))] H := hP
        have hO : nx_ok a [(a, .inr (3, [.ref (a + 1), .ref (a + 3), .ref (a + 5), .int 0, .int 0, .int 0, .int 0])), ((a + 1), .inr (0, [.ref (a + 2), .int (nI 0)])), ((a + 2), .inl (K 0, 2, .inl (fun _ => 0))), ((a + 3), .inr (0, [.ref (a + 4), .int (nI 0)])), ((a + 4), .inl (K 0, 2, .inl (fun _ => 0))), ((a + 5), .inl (K 0, 4, .inl (fun i => if i < 4 then -1 else 0)))] := hO
        refine lv_aload_n hx hb dP_init_55 rfl (lv_at hl 1 rfl) ?_
        refine lv_iconst (v := -1) hx hb dP_init_56 (by decide) ?_
        refine va_put (C := mR_P) (T := mT_P) (N := 7) (ty := mt_P 3) (v := .int (-1)) hx hb ht mh_P mt_P mk_P mn_P hown hK hP hO.D hS 0 rfl rfl 3 (by decide) (ht _ mw_80) (fun _ h => h) rfl (mk_P 3 (by decide)) rfl rfl (Nat.le_of_ble_eq_true rfl) dP_init_57 (fun H locs hP _ hS => ?_)
        have hP : va_P D mx_cl [(a, .inr (3, [.ref (a + 1), .ref (a + 3), .ref (a + 5), .int (-1), .int 0, .int 0, .int 0])), ((a + 1), .inr (0, [.ref (a + 2), .int (nI 0)])), ((a + 2), .inl (K 0, 2, .inl (fun _ => 0))), ((a + 3), .inr (0, [.ref (a + 4), .int (nI 0)])), ((a + 4), .inl (K 0, 2, .inl (fun _ => 0))), ((a + 5), .inl (K 0, 4, .inl (fun i => if i < 4 then -1 else 0)))] H := hP
        have hO : nx_ok a [(a, .inr (3, [.ref (a + 1), .ref (a + 3), .ref (a + 5), .int (-1), .int 0, .int 0, .int 0])), ((a + 1), .inr (0, [.ref (a + 2), .int (nI 0)])), ((a + 2), .inl (K 0, 2, .inl (fun _ => 0))), ((a + 3), .inr (0, [.ref (a + 4), .int (nI 0)])), ((a + 4), .inl (K 0, 2, .inl (fun _ => 0))), ((a + 5), .inl (K 0, 4, .inl (fun i => if i < 4 then -1 else 0)))] := hO.set (j := 0) rfl
        refine lv_aload_n hx hb dP_init_60 rfl (lv_at hl 1 rfl) ?_
        refine lv_iconst (v := nI 0) hx hb dP_init_61 (by decide) ?_
        refine va_put (C := mR_P) (T := mT_P) (N := 7) (ty := mt_P 4) (v := .int (nI 0)) hx hb ht mh_P mt_P mk_P mn_P hown hK hP hO.D hS 0 rfl rfl 4 (by decide) (ht _ mw_82) (fun _ h => h) rfl (mk_P 4 (by decide)) rfl rfl (Nat.le_of_ble_eq_true rfl) dP_init_62 (fun H locs hP _ hS => ?_)
        have hP : va_P D mx_cl [(a, .inr (3, [.ref (a + 1), .ref (a + 3), .ref (a + 5), .int (-1), .int (nI 0), .int 0, .int 0])), ((a + 1), .inr (0, [.ref (a + 2), .int (nI 0)])), ((a + 2), .inl (K 0, 2, .inl (fun _ => 0))), ((a + 3), .inr (0, [.ref (a + 4), .int (nI 0)])), ((a + 4), .inl (K 0, 2, .inl (fun _ => 0))), ((a + 5), .inl (K 0, 4, .inl (fun i => if i < 4 then -1 else 0)))] H := hP
        have hO : nx_ok a [(a, .inr (3, [.ref (a + 1), .ref (a + 3), .ref (a + 5), .int (-1), .int (nI 0), .int 0, .int 0])), ((a + 1), .inr (0, [.ref (a + 2), .int (nI 0)])), ((a + 2), .inl (K 0, 2, .inl (fun _ => 0))), ((a + 3), .inr (0, [.ref (a + 4), .int (nI 0)])), ((a + 4), .inl (K 0, 2, .inl (fun _ => 0))), ((a + 5), .inl (K 0, 4, .inl (fun i => if i < 4 then -1 else 0)))] := hO.set (j := 0) rfl
        refine lv_aload_n hx hb dP_init_65 rfl (lv_at hl 1 rfl) ?_
        refine lv_iconst (v := nI 0) hx hb dP_init_66 (by decide) ?_
        refine va_put (C := mR_P) (T := mT_P) (N := 7) (ty := mt_P 5) (v := .int (nI 0)) hx hb ht mh_P mt_P mk_P mn_P hown hK hP hO.D hS 0 rfl rfl 5 (by decide) (ht _ mw_84) (fun _ h => h) rfl (mk_P 5 (by decide)) rfl rfl (Nat.le_of_ble_eq_true rfl) dP_init_67 (fun H locs hP _ hS => ?_)
        have hP : va_P D mx_cl [(a, .inr (3, [.ref (a + 1), .ref (a + 3), .ref (a + 5), .int (-1), .int (nI 0), .int (nI 0), .int 0])), ((a + 1), .inr (0, [.ref (a + 2), .int (nI 0)])), ((a + 2), .inl (K 0, 2, .inl (fun _ => 0))), ((a + 3), .inr (0, [.ref (a + 4), .int (nI 0)])), ((a + 4), .inl (K 0, 2, .inl (fun _ => 0))), ((a + 5), .inl (K 0, 4, .inl (fun i => if i < 4 then -1 else 0)))] H := hP
        have hO : nx_ok a [(a, .inr (3, [.ref (a + 1), .ref (a + 3), .ref (a + 5), .int (-1), .int (nI 0), .int (nI 0), .int 0])), ((a + 1), .inr (0, [.ref (a + 2), .int (nI 0)])), ((a + 2), .inl (K 0, 2, .inl (fun _ => 0))), ((a + 3), .inr (0, [.ref (a + 4), .int (nI 0)])), ((a + 4), .inl (K 0, 2, .inl (fun _ => 0))), ((a + 5), .inl (K 0, 4, .inl (fun i => if i < 4 then -1 else 0)))] := hO.set (j := 0) rfl
        refine lv_aload_n hx hb dP_init_70 rfl (lv_at hl 1 rfl) ?_
        refine lv_iconst (v := nI 2) hx hb dP_init_71 (by decide) ?_
        refine va_put (C := mR_P) (T := mT_P) (N := 7) (ty := mt_P 6) (v := .int (nI 2)) hx hb ht mh_P mt_P mk_P mn_P hown hK hP hO.D hS 0 rfl rfl 6 (by decide) (ht _ mw_86) (fun _ h => h) rfl (mk_P 6 (by decide)) rfl rfl (Nat.le_of_ble_eq_true rfl) dP_init_72 (fun H locs hP _ hS => ?_)
        have hP : va_P D mx_cl [(a, .inr (3, [.ref (a + 1), .ref (a + 3), .ref (a + 5), .int (-1), .int (nI 0), .int (nI 0), .int (nI 2)])), ((a + 1), .inr (0, [.ref (a + 2), .int (nI 0)])), ((a + 2), .inl (K 0, 2, .inl (fun _ => 0))), ((a + 3), .inr (0, [.ref (a + 4), .int (nI 0)])), ((a + 4), .inl (K 0, 2, .inl (fun _ => 0))), ((a + 5), .inl (K 0, 4, .inl (fun i => if i < 4 then -1 else 0)))] H := hP
        have hO : nx_ok a [(a, .inr (3, [.ref (a + 1), .ref (a + 3), .ref (a + 5), .int (-1), .int (nI 0), .int (nI 0), .int (nI 2)])), ((a + 1), .inr (0, [.ref (a + 2), .int (nI 0)])), ((a + 2), .inl (K 0, 2, .inl (fun _ => 0))), ((a + 3), .inr (0, [.ref (a + 4), .int (nI 0)])), ((a + 4), .inl (K 0, 2, .inl (fun _ => 0))), ((a + 5), .inl (K 0, 4, .inl (fun i => if i < 4 then -1 else 0)))] := hO.set (j := 0) rfl
        exact nx_vret hx hb hr hP hS dP_init_75 hlk
      · exact absurd h39 (by omega)
    | succ k ih =>
      intro k0 H locs ls hk hP hS hl
      have hO : nx_ok a [(a, .inr (3, [.ref (a + 1), .ref (a + 3), .ref (a + 5), .int 0, .int 0, .int 0, .int 0])), ((a + 1), .inr (0, [.ref (a + 2), .int (nI 0)])), ((a + 2), .inl (K 0, 2, .inl (fun _ => 0))), ((a + 3), .inr (0, [.ref (a + 4), .int (nI 0)])), ((a + 4), .inl (K 0, 2, .inl (fun _ => 0))), ((a + 5), .inl (K 0, 4, .inl (fun i => if i < k0 then -1 else 0)))] := (.cons (.cons (.cons (.cons (.cons (.cons .nil))))))
      refine lv_iload_n hx hb dP_init_37 rfl (lv_at hl 0 rfl) ?_
      refine lv_iconst (v := nI 4) hx hb dP_init_38 (by decide) ?_
      refine gx_icmp_ge (a := k0) (b := 4) (tgt := 55) hx hb dP_init_39 (by decide) (by omega) (by omega) (fun h39 => ?_) (fun h39 => ?_)
      · exact absurd h39 (by omega)
      · refine lv_aload_n hx hb dP_init_42 rfl (lv_at hl 1 rfl) ?_
        refine va_get (C := mR_P) (T := mT_P) (N := 7) hx hb ht mh_P hown hK hP 0 rfl rfl 2 (by decide) (ht _ mw_78) (fun _ h => h) rfl dP_init_43 ?_
        refine lv_iload_n hx hb dP_init_46 rfl (lv_at hl 0 rfl) ?_
        refine lv_iconst (v := -1) hx hb dP_init_47 (by decide) ?_
        refine va_iast hx hb hK hP hO.D hS 5 0 rfl rfl (gx_ia (k := k0) (n := 4) (by omega) (by decide) rfl).1 dP_init_48 (fun H locs hP _ hS => ?_)
        rw [(gx_ia (k := k0) (n := 4) (by omega) (by decide) rfl).2, nx_own] at hP
        refine lv_iinc (k := 0) (v := (nI (k0 + 1))) (lv' := [(1, .int (nI (k0 + 1))), (0, .ref a)]) hx hb dP_init_49 hl rfl (nI_succ k0).symm (by decide) rfl (fun ls hl => ?_)
        refine lv_goto (tgt := 37) hx hb dP_init_52 (by decide) ?_
        exact ih (k0 + 1) H locs ls (by omega) hP hS (lv_sub hl [0, 1] rfl)
  exact loop 4 0 H locs ls (by omega) hP hS (lv_sub hl [0, 1] rfl)
