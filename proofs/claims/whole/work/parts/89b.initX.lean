set_option maxHeartbeats 8000000 in
set_option maxRecDepth 100000 in
theorem k_X_init (l : Launch) {D : va_G} {K : Nat → ClassId} {a : Nat} : Met l yX_init (Cond.code yX_init prog_1_method_1_code 2 none :: mx_T) { frames := 3, cells := 69, slots := 970, locals := 62 } (va_Pc [.ref a] (nx_P D K nx_ZX a (.inr (4, [.null, .null, .null, .null, .null, .null, .long 0])))) (nx_Q D a (nx_ws a 70 (cx_E (fun j => a + j) K cx_s0 cx_l0))) 69 970 (fun q => a ≤ q) := by
  refine gx_met (by decide) rfl (Nat.le_of_ble_eq_true rfl) ?_
  intro pg ev s mid as below mth c ls hx hb hr hml ht hown hlk hnm hargs hB hl
  obtain ⟨hP, hK, hz0, hZ⟩ := hB
  have hS : va_S (fun q => a ≤ q) s.heap s.heap [] := va_S.rf
  have hA : a ≤ s.heap.size := by omega
  have hl : lv_has ls 2 [(0, .ref a)] := hl
  refine lv_aload_n hx hb dX_init_0 rfl (lv_at hl 0 rfl) ?_
  refine W.objInit hx hb hown (ht _ mw_18) (ht _ mw_19) (ht _ mw_20) rfl (by rw [hml]; exact hl.1) rfl dX_init_1 (Nat.le_of_ble_eq_true rfl) (Nat.le_of_ble_eq_true rfl) ?_
  refine W.eq (g2 := F0 mid 4 ls []) rfl ?_
  have hP : va_P D mx_cl (nx_ws a 1 (cs_E a K [.null, .null, .null, .null, .null, .null, .long 0] (cs_f a 2 5 0) (cs_f a 18 6 0) (cs_f a 43 1 0))) s.heap := hP
  refine lv_aload_n hx hb dX_init_4 rfl (lv_at hl 0 rfl) ?_
  refine lv_iconst (v := nI 3) hx hb dX_init_5 (by decide) ?_
  refine nx_newq (C := "MessageCrossbar$Master") (N' := 3) hx hb hown (ht _ mw_21) hZ.1 hK 4 rfl hP nx_wok hS hA (by have h9 := nx_wlen (a := a) (N := 1) (e := (cs_E a K [.null, .null, .null, .null, .null, .null, .long 0] (cs_f a 2 5 0) (cs_f a 18 6 0) (cs_f a 43 1 0))); omega) (by decide) (by decide) (by decide) (Nat.le_of_ble_eq_true rfl) (Nat.le_of_ble_eq_true rfl) dX_init_6 (fun H hP _ hS => ?_)
  rw [nx_wlen] at hP ⊢
  have hP := nx_psh (e' := (cs_E a K [.null, .null, .null, .null, .null, .null, .long 0] (cs_f a 2 5 0) (cs_f a 18 6 0) (cs_f a 43 1 0))) hP (by show Sum.inl _ = Sum.inl _; rw [cs_f0]) (fun _ _ => rfl)
  have hP : va_P D mx_cl (nx_ws a 2 (cs_E a K [.null, .null, .null, .null, .null, .null, .long 0] (cs_f a 2 5 0) (cs_f a 18 6 0) (cs_f a 43 1 0))) H := nx_wch hP (by omega)
  refine va_putF (C := mR_X) (T := mT_X) (N := 7) (ty := mt_X 0) (v := .ref (a + 1)) hx hb ht mh_X mt_X mk_X mn_X hown hK hP nx_wok.D hS 0 (show (nx_ws a 2 (cs_E a K [.null, .null, .null, .null, .null, .null, .long 0] (cs_f a 2 5 0) (cs_f a 18 6 0) (cs_f a 43 1 0)))[0]? = some (a, .inr (4, [.null, .null, .null, .null, .null, .null, .long 0])) from nx_wat (by omega)) rfl 0 (by decide) (ht _ mw_129) (fun _ h => h) rfl hnm rfl (mk_X 0 (by decide)) rfl rfl (Nat.le_of_ble_eq_true rfl) dX_init_9 (fun H locs hP _ hS => ?_)
  have hP := nx_put1 (q0 := 0) (v := .inr (4, [.ref (a + 1), .null, .null, .null, .null, .null, .long 0])) (e' := (cs_E a K [.ref (a + 1), .null, .null, .null, .null, .null, .long 0] (cs_f a 2 5 0) (cs_f a 18 6 0) (cs_f a 43 1 0))) hP (by omega) rfl cs_k0
  refine lv_iconst (v := nI 0) hx hb dX_init_12 (by decide) ?_
  refine lv_istore_n (lv' := [(1, .int (nI 0)), (0, .ref a)]) hx hb dX_init_13 rfl hl (by decide) rfl (fun ls hl => ?_)
  refine W.widen (k := 1 + 5 * 0) (n := 3 + 21 * 0) (by decide) (by decide) ?_
  have loop : ∀ (k m : Nat) (H : Heap) (locs : List Loc) (ls : Array Slot), m + k = 3 → va_P D mx_cl (nx_ws a (2 + 5 * m) (cs_E a K [.ref (a + 1), .null, .null, .null, .null, .null, .long 0] (cs_f a 2 5 m) (cs_f a 18 6 0) (cs_f a 43 1 0))) H → va_S (fun q => a ≤ q) s.heap H locs → lv_has ls 2 [(1, .int (nI m)), (0, .ref a)] → W pg l ev (headSpec (Cond.code yX_init prog_1_method_1_code 2 none :: mx_T) { frames := 3, cells := 69, slots := 970, locals := 62 }).room s mid as below mth c H locs (1 + 5 * m) (3 + 21 * m) (MQ below (nx_Q D a (nx_ws a 70 (cx_E (fun j => a + j) K cx_s0 cx_l0))) as s 69 970 (fun q => a ≤ q)) (F0 mid 14 ls []) := by
    intro k
    induction k with
    | zero =>
      intro m H locs ls hk hP hS hl
      refine lv_iload_n hx hb dX_init_14 rfl (lv_at hl 0 rfl) ?_
      refine lv_iconst (v := nI 3) hx hb dX_init_15 (by decide) ?_
      refine gx_icmp_ge (a := m) (b := 3) (tgt := 38) hx hb dX_init_16 (by decide) (by omega) (by omega) (fun h16 => ?_) (fun h16 => ?_)
      · have he : m = 3 := by omega
        subst he
        have hP : va_P D mx_cl (nx_ws a 17 (cs_E a K [.ref (a + 1), .null, .null, .null, .null, .null, .long 0] (cs_f a 2 5 3) (cs_f a 18 6 0) (cs_f a 43 1 0))) H := nx_wch hP (by omega)
        have hl : lv_has ls 2 [(1, .int (nI 3)), (0, .ref a)] := hl
        refine W.widen (k := 16) (n := 66) (by omega) (by omega) ?_
        refine lv_aload_n hx hb dX_init_38 rfl (lv_at hl 1 rfl) ?_
        refine lv_iconst (v := nI 4) hx hb dX_init_39 (by decide) ?_
        refine nx_newq (C := "MessageCrossbar$Port") (N' := 4) hx hb hown (ht _ mw_65) hZ.2.1 hK 5 rfl hP nx_wok hS hA (by have h9 := nx_wlen (a := a) (N := 17) (e := (cs_E a K [.ref (a + 1), .null, .null, .null, .null, .null, .long 0] (cs_f a 2 5 3) (cs_f a 18 6 0) (cs_f a 43 1 0))); omega) (by decide) (by decide) (by decide) (Nat.le_of_ble_eq_true rfl) (Nat.le_of_ble_eq_true rfl) dX_init_40 (fun H hP _ hS => ?_)
        rw [nx_wlen] at hP ⊢
        have hP := nx_psh (e' := (cs_E a K [.ref (a + 1), .null, .null, .null, .null, .null, .long 0] (cs_f a 2 5 3) (cs_f a 18 6 0) (cs_f a 43 1 0))) hP (by show Sum.inl _ = Sum.inl _; rw [cs_f0]) (fun _ _ => rfl)
        have hP : va_P D mx_cl (nx_ws a 18 (cs_E a K [.ref (a + 1), .null, .null, .null, .null, .null, .long 0] (cs_f a 2 5 3) (cs_f a 18 6 0) (cs_f a 43 1 0))) H := nx_wch hP (by omega)
        refine va_putF (C := mR_X) (T := mT_X) (N := 7) (ty := mt_X 1) (v := .ref (a + 17)) hx hb ht mh_X mt_X mk_X mn_X hown hK hP nx_wok.D hS 0 (show (nx_ws a 18 (cs_E a K [.ref (a + 1), .null, .null, .null, .null, .null, .long 0] (cs_f a 2 5 3) (cs_f a 18 6 0) (cs_f a 43 1 0)))[0]? = some (a, .inr (4, [.ref (a + 1), .null, .null, .null, .null, .null, .long 0])) from nx_wat (by omega)) rfl 1 (by decide) (ht _ mw_130) (fun _ h => h) rfl hnm rfl (mk_X 1 (by decide)) rfl rfl (Nat.le_of_ble_eq_true rfl) dX_init_43 (fun H locs hP _ hS => ?_)
        have hP := nx_put1 (q0 := 0) (v := .inr (4, [.ref (a + 1), .ref (a + 17), .null, .null, .null, .null, .long 0])) (e' := (cs_E a K [.ref (a + 1), .ref (a + 17), .null, .null, .null, .null, .long 0] (cs_f a 2 5 3) (cs_f a 18 6 0) (cs_f a 43 1 0))) hP (by omega) rfl cs_k0
        refine lv_iconst (v := nI 0) hx hb dX_init_46 (by decide) ?_
        refine lv_istore_n (lv' := [(1, .int (nI 0)), (0, .ref a)]) hx hb dX_init_47 rfl hl (by decide) rfl (fun ls hl => ?_)
        refine W.widen (k := 17 + 6 * 0) (n := 70 + 19 * 0) (by decide) (by decide) ?_
        have loop : ∀ (k p : Nat) (H : Heap) (locs : List Loc) (ls : Array Slot), p + k = 4 → va_P D mx_cl (nx_ws a (18 + 6 * p) (cs_E a K [.ref (a + 1), .ref (a + 17), .null, .null, .null, .null, .long 0] (cs_f a 2 5 3) (cs_f a 18 6 p) (cs_f a 43 1 0))) H → va_S (fun q => a ≤ q) s.heap H locs → lv_has ls 2 [(1, .int (nI p)), (0, .ref a)] → W pg l ev (headSpec (Cond.code yX_init prog_1_method_1_code 2 none :: mx_T) { frames := 3, cells := 69, slots := 970, locals := 62 }).room s mid as below mth c H locs (17 + 6 * p) (70 + 19 * p) (MQ below (nx_Q D a (nx_ws a 70 (cx_E (fun j => a + j) K cx_s0 cx_l0))) as s 69 970 (fun q => a ≤ q)) (F0 mid 48 ls []) := by
          intro k
          induction k with
          | zero =>
            intro p H locs ls hk hP hS hl
            refine lv_iload_n hx hb dX_init_48 rfl (lv_at hl 0 rfl) ?_
            refine lv_iconst (v := nI 4) hx hb dX_init_49 (by decide) ?_
            refine gx_icmp_ge (a := p) (b := 4) (tgt := 72) hx hb dX_init_50 (by decide) (by omega) (by omega) (fun h50 => ?_) (fun h50 => ?_)
            · have he : p = 4 := by omega
              subst he
              have hP : va_P D mx_cl (nx_ws a 42 (cs_E a K [.ref (a + 1), .ref (a + 17), .null, .null, .null, .null, .long 0] (cs_f a 2 5 3) (cs_f a 18 6 4) (cs_f a 43 1 0))) H := nx_wch hP (by omega)
              have hl : lv_has ls 2 [(1, .int (nI 4)), (0, .ref a)] := hl
              refine W.widen (k := 41) (n := 146) (by omega) (by omega) ?_
              refine lv_aload_n hx hb dX_init_72 rfl (lv_at hl 1 rfl) ?_
              refine lv_bipush (v := nI 24) hx hb dX_init_73 (by decide) ?_
              refine nx_newq (C := "MessageCrossbar$Message") (N' := 24) hx hb hown (ht _ mw_103) hZ.2.2.1 hK 6 rfl hP nx_wok hS hA (by have h9 := nx_wlen (a := a) (N := 42) (e := (cs_E a K [.ref (a + 1), .ref (a + 17), .null, .null, .null, .null, .long 0] (cs_f a 2 5 3) (cs_f a 18 6 4) (cs_f a 43 1 0))); omega) (by decide) (by decide) (by decide) (Nat.le_of_ble_eq_true rfl) (Nat.le_of_ble_eq_true rfl) dX_init_75 (fun H hP _ hS => ?_)
              rw [nx_wlen] at hP ⊢
              have hP := nx_psh (e' := (cs_E a K [.ref (a + 1), .ref (a + 17), .null, .null, .null, .null, .long 0] (cs_f a 2 5 3) (cs_f a 18 6 4) (cs_f a 43 1 0))) hP (by show Sum.inl _ = Sum.inl _; rw [cs_f0]) (fun _ _ => rfl)
              have hP : va_P D mx_cl (nx_ws a 43 (cs_E a K [.ref (a + 1), .ref (a + 17), .null, .null, .null, .null, .long 0] (cs_f a 2 5 3) (cs_f a 18 6 4) (cs_f a 43 1 0))) H := nx_wch hP (by omega)
              refine va_putF (C := mR_X) (T := mT_X) (N := 7) (ty := mt_X 2) (v := .ref (a + 42)) hx hb ht mh_X mt_X mk_X mn_X hown hK hP nx_wok.D hS 0 (show (nx_ws a 43 (cs_E a K [.ref (a + 1), .ref (a + 17), .null, .null, .null, .null, .long 0] (cs_f a 2 5 3) (cs_f a 18 6 4) (cs_f a 43 1 0)))[0]? = some (a, .inr (4, [.ref (a + 1), .ref (a + 17), .null, .null, .null, .null, .long 0])) from nx_wat (by omega)) rfl 2 (by decide) (ht _ mw_131) (fun _ h => h) rfl hnm rfl (mk_X 2 (by decide)) rfl rfl (Nat.le_of_ble_eq_true rfl) dX_init_78 (fun H locs hP _ hS => ?_)
              have hP := nx_put1 (q0 := 0) (v := .inr (4, [.ref (a + 1), .ref (a + 17), .ref (a + 42), .null, .null, .null, .long 0])) (e' := (cs_E a K [.ref (a + 1), .ref (a + 17), .ref (a + 42), .null, .null, .null, .long 0] (cs_f a 2 5 3) (cs_f a 18 6 4) (cs_f a 43 1 0))) hP (by omega) rfl cs_k0
              refine lv_iconst (v := nI 0) hx hb dX_init_81 (by decide) ?_
              refine lv_istore_n (lv' := [(1, .int (nI 0)), (0, .ref a)]) hx hb dX_init_82 rfl hl (by decide) rfl (fun ls hl => ?_)
              refine W.widen (k := 42 + 0) (n := 170 + 5 * 0) (by decide) (by decide) ?_
              have loop : ∀ (k x : Nat) (H : Heap) (locs : List Loc) (ls : Array Slot), x + k = 24 → va_P D mx_cl (nx_ws a (43 + 1 * x) (cs_E a K [.ref (a + 1), .ref (a + 17), .ref (a + 42), .null, .null, .null, .long 0] (cs_f a 2 5 3) (cs_f a 18 6 4) (cs_f a 43 1 x))) H → va_S (fun q => a ≤ q) s.heap H locs → lv_has ls 2 [(1, .int (nI x)), (0, .ref a)] → W pg l ev (headSpec (Cond.code yX_init prog_1_method_1_code 2 none :: mx_T) { frames := 3, cells := 69, slots := 970, locals := 62 }).room s mid as below mth c H locs (42 + x) (170 + 5 * x) (MQ below (nx_Q D a (nx_ws a 70 (cx_E (fun j => a + j) K cx_s0 cx_l0))) as s 69 970 (fun q => a ≤ q)) (F0 mid 83 ls []) := by
                intro k
                induction k with
                | zero =>
                  intro x H locs ls hk hP hS hl
                  refine lv_iload_n hx hb dX_init_83 rfl (lv_at hl 0 rfl) ?_
                  refine lv_bipush (v := nI 24) hx hb dX_init_84 (by decide) ?_
                  refine gx_icmp_ge (a := x) (b := 24) (tgt := 108) hx hb dX_init_86 (by decide) (by omega) (by omega) (fun h86 => ?_) (fun h86 => ?_)
                  · have he : x = 24 := by omega
                    subst he
                    have hP : va_P D mx_cl (nx_ws a 67 (cs_E a K [.ref (a + 1), .ref (a + 17), .ref (a + 42), .null, .null, .null, .long 0] (cs_f a 2 5 3) (cs_f a 18 6 4) (cs_f a 43 1 24))) H := nx_wch hP (by omega)
                    have hl : lv_has ls 2 [(1, .int (nI 24)), (0, .ref a)] := hl
                    refine W.widen (k := 66) (n := 290) (by omega) (by omega) ?_
                    refine lv_aload_n hx hb dX_init_108 rfl (lv_at hl 1 rfl) ?_
                    refine lv_sipush (v := nI 640) hx hb dX_init_109 (by decide) ?_
                    refine nx_newa (atype := .byte) (ty := .byte) (N' := 640) (a0 := (640, .inl (fun _ => 0))) hx hb (ht _ mw_151) rfl hK 1 rfl hP nx_wok hS hA (by have h9 := nx_wlen (a := a) (N := 67) (e := (cs_E a K [.ref (a + 1), .ref (a + 17), .ref (a + 42), .null, .null, .null, .long 0] (cs_f a 2 5 3) (cs_f a 18 6 4) (cs_f a 43 1 24))); omega) (fun _ => rfl) (by decide) (by decide) (by decide) (Nat.le_of_ble_eq_true rfl) (Nat.le_of_ble_eq_true rfl) dX_init_112 (fun H hP _ hS => ?_)
                    rw [nx_wlen] at hP ⊢
                    have hP := nx_psh (e' := (cs_E a K [.ref (a + 1), .ref (a + 17), .ref (a + 42), .null, .null, .null, .long 0] (cs_f a 2 5 3) (cs_f a 18 6 4) (cs_f a 43 1 24))) hP rfl (fun _ _ => rfl)
                    have hP : va_P D mx_cl (nx_ws a 68 (cs_E a K [.ref (a + 1), .ref (a + 17), .ref (a + 42), .null, .null, .null, .long 0] (cs_f a 2 5 3) (cs_f a 18 6 4) (cs_f a 43 1 24))) H := nx_wch hP (by omega)
                    refine va_putF (C := mR_X) (T := mT_X) (N := 7) (ty := mt_X 3) (v := .ref (a + 67)) hx hb ht mh_X mt_X mk_X mn_X hown hK hP nx_wok.D hS 0 (show (nx_ws a 68 (cs_E a K [.ref (a + 1), .ref (a + 17), .ref (a + 42), .null, .null, .null, .long 0] (cs_f a 2 5 3) (cs_f a 18 6 4) (cs_f a 43 1 24)))[0]? = some (a, .inr (4, [.ref (a + 1), .ref (a + 17), .ref (a + 42), .null, .null, .null, .long 0])) from nx_wat (by omega)) rfl 3 (by decide) (ht _ mw_132) (fun _ h => h) rfl hnm rfl (mk_X 3 (by decide)) rfl rfl (Nat.le_of_ble_eq_true rfl) dX_init_114 (fun H locs hP _ hS => ?_)
                    have hP := nx_put1 (q0 := 0) (v := .inr (4, [.ref (a + 1), .ref (a + 17), .ref (a + 42), .ref (a + 67), .null, .null, .long 0])) (e' := (cs_E a K [.ref (a + 1), .ref (a + 17), .ref (a + 42), .ref (a + 67), .null, .null, .long 0] (cs_f a 2 5 3) (cs_f a 18 6 4) (cs_f a 43 1 24))) hP (by omega) rfl cs_k0
                    refine lv_aload_n hx hb dX_init_117 rfl (lv_at hl 1 rfl) ?_
                    refine lv_bipush (v := nI 32) hx hb dX_init_118 (by decide) ?_
                    refine nx_newa (atype := .int) (ty := .int) (N' := 32) (a0 := (32, .inl (fun _ => 0))) hx hb (ht _ mw_43) rfl hK 0 rfl hP nx_wok hS hA (by have h9 := nx_wlen (a := a) (N := 68) (e := (cs_E a K [.ref (a + 1), .ref (a + 17), .ref (a + 42), .ref (a + 67), .null, .null, .long 0] (cs_f a 2 5 3) (cs_f a 18 6 4) (cs_f a 43 1 24))); omega) (fun _ => rfl) (by decide) (by decide) (by decide) (Nat.le_of_ble_eq_true rfl) (Nat.le_of_ble_eq_true rfl) dX_init_120 (fun H hP _ hS => ?_)
                    rw [nx_wlen] at hP ⊢
                    have hP := nx_psh (e' := (cs_E a K [.ref (a + 1), .ref (a + 17), .ref (a + 42), .ref (a + 67), .null, .null, .long 0] (cs_f a 2 5 3) (cs_f a 18 6 4) (cs_f a 43 1 24))) hP rfl (fun _ _ => rfl)
                    have hP : va_P D mx_cl (nx_ws a 69 (cs_E a K [.ref (a + 1), .ref (a + 17), .ref (a + 42), .ref (a + 67), .null, .null, .long 0] (cs_f a 2 5 3) (cs_f a 18 6 4) (cs_f a 43 1 24))) H := nx_wch hP (by omega)
                    refine va_putF (C := mR_X) (T := mT_X) (N := 7) (ty := mt_X 4) (v := .ref (a + 68)) hx hb ht mh_X mt_X mk_X mn_X hown hK hP nx_wok.D hS 0 (show (nx_ws a 69 (cs_E a K [.ref (a + 1), .ref (a + 17), .ref (a + 42), .ref (a + 67), .null, .null, .long 0] (cs_f a 2 5 3) (cs_f a 18 6 4) (cs_f a 43 1 24)))[0]? = some (a, .inr (4, [.ref (a + 1), .ref (a + 17), .ref (a + 42), .ref (a + 67), .null, .null, .long 0])) from nx_wat (by omega)) rfl 4 (by decide) (ht _ mw_133) (fun _ h => h) rfl hnm rfl (mk_X 4 (by decide)) rfl rfl (Nat.le_of_ble_eq_true rfl) dX_init_122 (fun H locs hP _ hS => ?_)
                    have hP := nx_put1 (q0 := 0) (v := .inr (4, [.ref (a + 1), .ref (a + 17), .ref (a + 42), .ref (a + 67), .ref (a + 68), .null, .long 0])) (e' := (cs_E a K [.ref (a + 1), .ref (a + 17), .ref (a + 42), .ref (a + 67), .ref (a + 68), .null, .long 0] (cs_f a 2 5 3) (cs_f a 18 6 4) (cs_f a 43 1 24))) hP (by omega) rfl cs_k0
                    refine lv_aload_n hx hb dX_init_125 rfl (lv_at hl 1 rfl) ?_
                    refine lv_bipush (v := nI 8) hx hb dX_init_126 (by decide) ?_
                    refine nx_newa (atype := .int) (ty := .int) (N' := 8) (a0 := (8, .inl (fun _ => 0))) hx hb (ht _ mw_43) rfl hK 0 rfl hP nx_wok hS hA (by have h9 := nx_wlen (a := a) (N := 69) (e := (cs_E a K [.ref (a + 1), .ref (a + 17), .ref (a + 42), .ref (a + 67), .ref (a + 68), .null, .long 0] (cs_f a 2 5 3) (cs_f a 18 6 4) (cs_f a 43 1 24))); omega) (fun _ => rfl) (by decide) (by decide) (by decide) (Nat.le_of_ble_eq_true rfl) (Nat.le_of_ble_eq_true rfl) dX_init_128 (fun H hP _ hS => ?_)
                    rw [nx_wlen] at hP ⊢
                    have hP := nx_psh (e' := (cs_E a K [.ref (a + 1), .ref (a + 17), .ref (a + 42), .ref (a + 67), .ref (a + 68), .null, .long 0] (cs_f a 2 5 3) (cs_f a 18 6 4) (cs_f a 43 1 24))) hP rfl (fun _ _ => rfl)
                    have hP : va_P D mx_cl (nx_ws a 70 (cs_E a K [.ref (a + 1), .ref (a + 17), .ref (a + 42), .ref (a + 67), .ref (a + 68), .null, .long 0] (cs_f a 2 5 3) (cs_f a 18 6 4) (cs_f a 43 1 24))) H := nx_wch hP (by omega)
                    refine va_putF (C := mR_X) (T := mT_X) (N := 7) (ty := mt_X 5) (v := .ref (a + 69)) hx hb ht mh_X mt_X mk_X mn_X hown hK hP nx_wok.D hS 0 (show (nx_ws a 70 (cs_E a K [.ref (a + 1), .ref (a + 17), .ref (a + 42), .ref (a + 67), .ref (a + 68), .null, .long 0] (cs_f a 2 5 3) (cs_f a 18 6 4) (cs_f a 43 1 24)))[0]? = some (a, .inr (4, [.ref (a + 1), .ref (a + 17), .ref (a + 42), .ref (a + 67), .ref (a + 68), .null, .long 0])) from nx_wat (by omega)) rfl 5 (by decide) (ht _ mw_134) (fun _ h => h) rfl hnm rfl (mk_X 5 (by decide)) rfl rfl (Nat.le_of_ble_eq_true rfl) dX_init_130 (fun H locs hP _ hS => ?_)
                    have hP := nx_put1 (q0 := 0) (v := .inr (4, [.ref (a + 1), .ref (a + 17), .ref (a + 42), .ref (a + 67), .ref (a + 68), .ref (a + 69), .long 0])) (e' := (cs_E a K [.ref (a + 1), .ref (a + 17), .ref (a + 42), .ref (a + 67), .ref (a + 68), .ref (a + 69), .long 0] (cs_f a 2 5 3) (cs_f a 18 6 4) (cs_f a 43 1 24))) hP (by omega) rfl cs_k0
                    refine lv_aload_n hx hb dX_init_133 rfl (lv_at hl 1 rfl) ?_
                    refine lv_lconst (v := 0) hx hb dX_init_134 (by decide) ?_
                    refine va_put (C := mR_X) (T := mT_X) (N := 7) (ty := mt_X 6) (v := .long 0) hx hb ht mh_X mt_X mk_X mn_X hown hK hP nx_wok.D hS 0 (show (nx_ws a 70 (cs_E a K [.ref (a + 1), .ref (a + 17), .ref (a + 42), .ref (a + 67), .ref (a + 68), .ref (a + 69), .long 0] (cs_f a 2 5 3) (cs_f a 18 6 4) (cs_f a 43 1 24)))[0]? = some (a, .inr (4, [.ref (a + 1), .ref (a + 17), .ref (a + 42), .ref (a + 67), .ref (a + 68), .ref (a + 69), .long 0])) from nx_wat (by omega)) rfl 6 (by decide) (ht _ mw_135) (fun _ h => h) rfl (mk_X 6 (by decide)) rfl rfl (Nat.le_of_ble_eq_true rfl) dX_init_135 (fun H locs hP _ hS => ?_)
                    have hP := nx_put1 (q0 := 0) (v := .inr (4, [.ref (a + 1), .ref (a + 17), .ref (a + 42), .ref (a + 67), .ref (a + 68), .ref (a + 69), .long 0])) (e' := (cs_E a K [.ref (a + 1), .ref (a + 17), .ref (a + 42), .ref (a + 67), .ref (a + 68), .ref (a + 69), .long 0] (cs_f a 2 5 3) (cs_f a 18 6 4) (cs_f a 43 1 24))) hP (by omega) rfl cs_k0
                    exact nx_vret hx hb hr (cs_end hP) hS dX_init_138 hlk
                  · exact absurd h86 (by omega)
                | succ k ih =>
                  intro x H locs ls hk hP hS hl
                  have hx9 : x < 24 := by omega
                  refine lv_iload_n hx hb dX_init_83 rfl (lv_at hl 0 rfl) ?_
                  refine lv_bipush (v := nI 24) hx hb dX_init_84 (by decide) ?_
                  refine gx_icmp_ge (a := x) (b := 24) (tgt := 108) hx hb dX_init_86 (by decide) (by omega) (by omega) (fun h86 => ?_) (fun h86 => ?_)
                  · exact absurd h86 (by omega)
                  · refine lv_aload_n hx hb dX_init_89 rfl (lv_at hl 1 rfl) ?_
                    refine va_get (C := mR_X) (T := mT_X) (N := 7) hx hb ht mh_X hown hK hP 0 (show (nx_ws a (43 + 1 * x) (cs_E a K [.ref (a + 1), .ref (a + 17), .ref (a + 42), .null, .null, .null, .long 0] (cs_f a 2 5 3) (cs_f a 18 6 4) (cs_f a 43 1 x)))[0]? = some (a, .inr (4, [.ref (a + 1), .ref (a + 17), .ref (a + 42), .null, .null, .null, .long 0])) from nx_wat (by omega)) rfl 2 (by decide) (ht _ mw_131) (fun _ h => h) rfl dX_init_90 ?_
                    refine lv_iload_n hx hb dX_init_93 rfl (lv_at hl 0 rfl) ?_
                    refine nx_new (C := mR_G) (T := mT_G) (N := 5) (ci := 2) (fs := [.int 0, .int 0, .int 0, .long 0, .int 0]) hx hb ht mh_G mt_G mk_G hown (ht _ mw_103) (ht _ mw_105) (ht _ mw_5) hK hP nx_wok hS hA (by have h9 := nx_wlen (a := a) (N := (43 + 1 * x)) (e := (cs_E a K [.ref (a + 1), .ref (a + 17), .ref (a + 42), .null, .null, .null, .long 0] (cs_f a 2 5 3) (cs_f a 18 6 4) (cs_f a 43 1 x))); omega) rfl nx_dG (by show (42 + x) + 1 ≤ 69; omega) (by show (170 + 5 * x) + 5 ≤ 970; omega) dX_init_94 (fun H hP hO hS => ?_)
                    refine lv_dup hx hb dX_init_97 rfl ?_
                    refine nx_full (ws0 := (nx_ws a (43 + 1 * x) (cs_E a K [.ref (a + 1), .ref (a + 17), .ref (a + 42), .null, .null, .null, .long 0] (cs_f a 2 5 3) (cs_f a 18 6 4) (cs_f a 43 1 x)))) hP (by have h9 := nx_wlen (a := a) (N := (43 + 1 * x)) (e := (cs_E a K [.ref (a + 1), .ref (a + 17), .ref (a + 42), .null, .null, .null, .long 0] (cs_f a 2 5 3) (cs_f a 18 6 4) (cs_f a 43 1 x))); omega) (fun hz => ?_)
                    refine nx_callv (ws0 := (nx_ws a (43 + 1 * x) (cs_E a K [.ref (a + 1), .ref (a + 17), .ref (a + 42), .null, .null, .null, .long 0] (cs_f a 2 5 3) (cs_f a 18 6 4) (cs_f a 43 1 x)))) (ws1 := [((a + (nx_ws a (43 + 1 * x) (cs_E a K [.ref (a + 1), .ref (a + 17), .ref (a + 42), .null, .null, .null, .long 0] (cs_f a 2 5 3) (cs_f a 18 6 4) (cs_f a 43 1 x))).length), .inr (2, [.int 0, .int 0, .int 0, .long 0, .int 0]))]) (va_runIN (As := []) (rest := [.ref (a + (nx_ws a (43 + 1 * x) (cs_E a K [.ref (a + 1), .ref (a + 17), .ref (a + 42), .null, .null, .null, .long 0] (cs_f a 2 5 3) (cs_f a 18 6 4) (cs_f a 43 1 x))).length), .int (nI x), .ref (a + 42)]) ⟨hx, hb, hml, hown, ht⟩ (k_G_init l) ⟨va_cnB 0 ht (mx_good mw_108) rfl rfl rfl hZ.2.2.2 (ht _ mw_5) (by decide +kernel) ⟨(Nat.le_of_ble_eq_true rfl), (Nat.le_of_ble_eq_true rfl)⟩, rfl, ht _ mw_107⟩ (nx_pre nx_w0 trivial hK hP hz []) rfl rfl hl.1 rfl (lv_room (Nat.le_of_ble_eq_true rfl)) dX_init_98 ⟨by show (42 + x + 1) + 0 ≤ 69; omega, by show (170 + 5 * x + 5) + 0 ≤ 970; omega⟩) hP hO (.cons .nil) hS (fun H locs hP hO hS => ?_)
                    rw [nx_wlen] at hP hO ⊢
                    refine va_astq (r := (mR_G, mT_G, 5)) hx hb hK hP hO.D hS 42 6 ((43 + 1 * x)) 2 (by rw [List.getElem?_append_left (by rw [nx_wlen]; omega)]; exact nx_wat (by omega)) rfl (by rw [List.getElem?_append_right (by rw [nx_wlen]; omega), nx_wlen, Nat.sub_self]; rfl) rfl (gx_ia (k := x) (n := 24) hx9 (by decide) rfl).1 dX_init_101 (fun H locs hP _ hS => ?_)
                    rw [(gx_ia (k := x) (n := 24) hx9 (by decide) rfl).2, cs_up] at hP
                    have hP := nx_step (q0 := 42) (n := 1) (e' := (cs_E a K [.ref (a + 1), .ref (a + 17), .ref (a + 42), .null, .null, .null, .long 0] (cs_f a 2 5 3) (cs_f a 18 6 4) (cs_f a 43 1 (x + 1)))) hP rfl (by omega) rfl cs_k42 (cs_G hx9)
                    refine lv_iinc (k := 0) (v := (nI (x + 1))) (lv' := [(1, .int (nI (x + 1))), (0, .ref a)]) hx hb dX_init_102 hl rfl (nI_succ x).symm (by decide) rfl (fun ls hl => ?_)
                    refine lv_goto (tgt := 83) hx hb dX_init_105 (by decide) ?_
                    refine W.widen (k := 42 + (x + 1)) (n := 170 + 5 * (x + 1)) (by omega) (by omega) ?_
                    exact ih (x + 1) H locs ls (by omega) (nx_wch hP (by omega)) hS (lv_sub hl [0, 1] rfl)
              exact loop 24 0 H locs ls (by omega) (nx_wch hP (by omega)) hS (lv_sub hl [0, 1] rfl)
            · exact absurd h50 (by omega)
          | succ k ih =>
            intro p H locs ls hk hP hS hl
            have hp9 : p < 4 := by omega
            refine lv_iload_n hx hb dX_init_48 rfl (lv_at hl 0 rfl) ?_
            refine lv_iconst (v := nI 4) hx hb dX_init_49 (by decide) ?_
            refine gx_icmp_ge (a := p) (b := 4) (tgt := 72) hx hb dX_init_50 (by decide) (by omega) (by omega) (fun h50 => ?_) (fun h50 => ?_)
            · exact absurd h50 (by omega)
            · refine lv_aload_n hx hb dX_init_53 rfl (lv_at hl 1 rfl) ?_
              refine va_get (C := mR_X) (T := mT_X) (N := 7) hx hb ht mh_X hown hK hP 0 (show (nx_ws a (18 + 6 * p) (cs_E a K [.ref (a + 1), .ref (a + 17), .null, .null, .null, .null, .long 0] (cs_f a 2 5 3) (cs_f a 18 6 p) (cs_f a 43 1 0)))[0]? = some (a, .inr (4, [.ref (a + 1), .ref (a + 17), .null, .null, .null, .null, .long 0])) from nx_wat (by omega)) rfl 1 (by decide) (ht _ mw_130) (fun _ h => h) rfl dX_init_54 ?_
              refine lv_iload_n hx hb dX_init_57 rfl (lv_at hl 0 rfl) ?_
              refine nx_new (C := mR_P) (T := mT_P) (N := 7) (ci := 3) (fs := [.null, .null, .null, .int 0, .int 0, .int 0, .int 0]) hx hb ht mh_P mt_P mk_P hown (ht _ mw_65) (ht _ mw_67) (ht _ mw_4) hK hP nx_wok hS hA (by have h9 := nx_wlen (a := a) (N := (18 + 6 * p)) (e := (cs_E a K [.ref (a + 1), .ref (a + 17), .null, .null, .null, .null, .long 0] (cs_f a 2 5 3) (cs_f a 18 6 p) (cs_f a 43 1 0))); omega) rfl nx_dP (by show (17 + 6 * p) + 1 ≤ 69; omega) (by show (70 + 19 * p) + 7 ≤ 970; omega) dX_init_58 (fun H hP hO hS => ?_)
              refine lv_dup hx hb dX_init_61 rfl ?_
              refine nx_full (ws0 := (nx_ws a (18 + 6 * p) (cs_E a K [.ref (a + 1), .ref (a + 17), .null, .null, .null, .null, .long 0] (cs_f a 2 5 3) (cs_f a 18 6 p) (cs_f a 43 1 0)))) hP (by have h9 := nx_wlen (a := a) (N := (18 + 6 * p)) (e := (cs_E a K [.ref (a + 1), .ref (a + 17), .null, .null, .null, .null, .long 0] (cs_f a 2 5 3) (cs_f a 18 6 p) (cs_f a 43 1 0))); omega) (fun hz => ?_)
              refine nx_callv (ws0 := (nx_ws a (18 + 6 * p) (cs_E a K [.ref (a + 1), .ref (a + 17), .null, .null, .null, .null, .long 0] (cs_f a 2 5 3) (cs_f a 18 6 p) (cs_f a 43 1 0)))) (ws1 := [((a + (nx_ws a (18 + 6 * p) (cs_E a K [.ref (a + 1), .ref (a + 17), .null, .null, .null, .null, .long 0] (cs_f a 2 5 3) (cs_f a 18 6 p) (cs_f a 43 1 0))).length), .inr (3, [.ref ((a + (nx_ws a (18 + 6 * p) (cs_E a K [.ref (a + 1), .ref (a + 17), .null, .null, .null, .null, .long 0] (cs_f a 2 5 3) (cs_f a 18 6 p) (cs_f a 43 1 0))).length) + 1), .ref ((a + (nx_ws a (18 + 6 * p) (cs_E a K [.ref (a + 1), .ref (a + 17), .null, .null, .null, .null, .long 0] (cs_f a 2 5 3) (cs_f a 18 6 p) (cs_f a 43 1 0))).length) + 3), .ref ((a + (nx_ws a (18 + 6 * p) (cs_E a K [.ref (a + 1), .ref (a + 17), .null, .null, .null, .null, .long 0] (cs_f a 2 5 3) (cs_f a 18 6 p) (cs_f a 43 1 0))).length) + 5), .int (-1), .int (nI 0), .int (nI 0), .int (nI 2)])), (((a + (nx_ws a (18 + 6 * p) (cs_E a K [.ref (a + 1), .ref (a + 17), .null, .null, .null, .null, .long 0] (cs_f a 2 5 3) (cs_f a 18 6 p) (cs_f a 43 1 0))).length) + 1), .inr (0, [.ref ((a + (nx_ws a (18 + 6 * p) (cs_E a K [.ref (a + 1), .ref (a + 17), .null, .null, .null, .null, .long 0] (cs_f a 2 5 3) (cs_f a 18 6 p) (cs_f a 43 1 0))).length) + 2), .int (nI 0)])), (((a + (nx_ws a (18 + 6 * p) (cs_E a K [.ref (a + 1), .ref (a + 17), .null, .null, .null, .null, .long 0] (cs_f a 2 5 3) (cs_f a 18 6 p) (cs_f a 43 1 0))).length) + 2), .inl (K 0, 2, .inl (fun _ => 0))), (((a + (nx_ws a (18 + 6 * p) (cs_E a K [.ref (a + 1), .ref (a + 17), .null, .null, .null, .null, .long 0] (cs_f a 2 5 3) (cs_f a 18 6 p) (cs_f a 43 1 0))).length) + 3), .inr (0, [.ref ((a + (nx_ws a (18 + 6 * p) (cs_E a K [.ref (a + 1), .ref (a + 17), .null, .null, .null, .null, .long 0] (cs_f a 2 5 3) (cs_f a 18 6 p) (cs_f a 43 1 0))).length) + 4), .int (nI 0)])), (((a + (nx_ws a (18 + 6 * p) (cs_E a K [.ref (a + 1), .ref (a + 17), .null, .null, .null, .null, .long 0] (cs_f a 2 5 3) (cs_f a 18 6 p) (cs_f a 43 1 0))).length) + 4), .inl (K 0, 2, .inl (fun _ => 0))), (((a + (nx_ws a (18 + 6 * p) (cs_E a K [.ref (a + 1), .ref (a + 17), .null, .null, .null, .null, .long 0] (cs_f a 2 5 3) (cs_f a 18 6 p) (cs_f a 43 1 0))).length) + 5), .inl (K 0, 4, .inl (fun i => if i < 4 then -1 else 0)))]) (va_runI (As := []) (rest := [.ref (a + (nx_ws a (18 + 6 * p) (cs_E a K [.ref (a + 1), .ref (a + 17), .null, .null, .null, .null, .long 0] (cs_f a 2 5 3) (cs_f a 18 6 p) (cs_f a 43 1 0))).length), .int (nI p), .ref (a + 17)]) ⟨hx, hb, hml, hown, ht⟩ (k_P_init l) (cwI 0 ht (mx_good mw_70) rfl rfl rfl (ht _ mw_4) (ht _ mw_68) (ht _ mw_69) rfl (by decide +kernel) ⟨(Nat.le_of_ble_eq_true rfl), (Nat.le_of_ble_eq_true rfl)⟩) (nx_pre nx_w0 trivial hK hP hz []) rfl rfl hl.1 rfl (lv_room (Nat.le_of_ble_eq_true rfl)) dX_init_62 ⟨by show (17 + 6 * p + 1) + 5 ≤ 69; omega, by show (70 + 19 * p + 7) + 12 ≤ 970; omega⟩) hP hO (.cons (.cons (.cons (.cons (.cons (.cons .nil)))))) hS (fun H locs hP hO hS => ?_)
              rw [nx_wlen] at hP hO ⊢
              refine va_astq (r := (mR_P, mT_P, 7)) hx hb hK hP hO.D hS 17 5 ((18 + 6 * p)) 3 (by rw [List.getElem?_append_left (by rw [nx_wlen]; omega)]; exact nx_wat (by omega)) rfl (by rw [List.getElem?_append_right (by rw [nx_wlen]; omega), nx_wlen, Nat.sub_self]; rfl) rfl (gx_ia (k := p) (n := 4) hp9 (by decide) rfl).1 dX_init_65 (fun H locs hP _ hS => ?_)
              rw [(gx_ia (k := p) (n := 4) hp9 (by decide) rfl).2, cs_up] at hP
              have hP := nx_step (q0 := 17) (n := 6) (e' := (cs_E a K [.ref (a + 1), .ref (a + 17), .null, .null, .null, .null, .long 0] (cs_f a 2 5 3) (cs_f a 18 6 (p + 1)) (cs_f a 43 1 0))) hP rfl (by omega) rfl cs_k17 (cs_P hp9)
              refine lv_iinc (k := 0) (v := (nI (p + 1))) (lv' := [(1, .int (nI (p + 1))), (0, .ref a)]) hx hb dX_init_66 hl rfl (nI_succ p).symm (by decide) rfl (fun ls hl => ?_)
              refine lv_goto (tgt := 48) hx hb dX_init_69 (by decide) ?_
              refine W.widen (k := 17 + 6 * (p + 1)) (n := 70 + 19 * (p + 1)) (by omega) (by omega) ?_
              exact ih (p + 1) H locs ls (by omega) (nx_wch hP (by omega)) hS (lv_sub hl [0, 1] rfl)
        exact loop 4 0 H locs ls (by omega) (nx_wch hP (by omega)) hS (lv_sub hl [0, 1] rfl)
      · exact absurd h16 (by omega)
    | succ k ih =>
      intro m H locs ls hk hP hS hl
      have hm : m < 3 := by omega
      refine lv_iload_n hx hb dX_init_14 rfl (lv_at hl 0 rfl) ?_
      refine lv_iconst (v := nI 3) hx hb dX_init_15 (by decide) ?_
      refine gx_icmp_ge (a := m) (b := 3) (tgt := 38) hx hb dX_init_16 (by decide) (by omega) (by omega) (fun h16 => ?_) (fun h16 => ?_)
      · exact absurd h16 (by omega)
      · refine lv_aload_n hx hb dX_init_19 rfl (lv_at hl 1 rfl) ?_
        refine va_get (C := mR_X) (T := mT_X) (N := 7) hx hb ht mh_X hown hK hP 0 (show (nx_ws a (2 + 5 * m) (cs_E a K [.ref (a + 1), .null, .null, .null, .null, .null, .long 0] (cs_f a 2 5 m) (cs_f a 18 6 0) (cs_f a 43 1 0)))[0]? = some (a, .inr (4, [.ref (a + 1), .null, .null, .null, .null, .null, .long 0])) from nx_wat (by omega)) rfl 0 (by decide) (ht _ mw_129) (fun _ h => h) rfl dX_init_20 ?_
        refine lv_iload_n hx hb dX_init_23 rfl (lv_at hl 0 rfl) ?_
        refine nx_new (C := mR_M) (T := mT_M) (N := 5) (ci := 1) (fs := [.null, .null, .int 0, .int 0, .int 0]) hx hb ht mh_M mt_M mk_M hown (ht _ mw_21) (ht _ mw_23) (ht _ mw_2) hK hP nx_wok hS hA (by have h9 := nx_wlen (a := a) (N := (2 + 5 * m)) (e := (cs_E a K [.ref (a + 1), .null, .null, .null, .null, .null, .long 0] (cs_f a 2 5 m) (cs_f a 18 6 0) (cs_f a 43 1 0))); omega) rfl nx_dM (by show (1 + 5 * m) + 1 ≤ 69; omega) (by show (3 + 21 * m) + 5 ≤ 970; omega) dX_init_24 (fun H hP hO hS => ?_)
        refine lv_dup hx hb dX_init_27 rfl ?_
        refine nx_full (ws0 := (nx_ws a (2 + 5 * m) (cs_E a K [.ref (a + 1), .null, .null, .null, .null, .null, .long 0] (cs_f a 2 5 m) (cs_f a 18 6 0) (cs_f a 43 1 0)))) hP (by have h9 := nx_wlen (a := a) (N := (2 + 5 * m)) (e := (cs_E a K [.ref (a + 1), .null, .null, .null, .null, .null, .long 0] (cs_f a 2 5 m) (cs_f a 18 6 0) (cs_f a 43 1 0))); omega) (fun hz => ?_)
        refine nx_callv (ws0 := (nx_ws a (2 + 5 * m) (cs_E a K [.ref (a + 1), .null, .null, .null, .null, .null, .long 0] (cs_f a 2 5 m) (cs_f a 18 6 0) (cs_f a 43 1 0)))) (ws1 := [((a + (nx_ws a (2 + 5 * m) (cs_E a K [.ref (a + 1), .null, .null, .null, .null, .null, .long 0] (cs_f a 2 5 m) (cs_f a 18 6 0) (cs_f a 43 1 0))).length), .inr (1, [.ref ((a + (nx_ws a (2 + 5 * m) (cs_E a K [.ref (a + 1), .null, .null, .null, .null, .null, .long 0] (cs_f a 2 5 m) (cs_f a 18 6 0) (cs_f a 43 1 0))).length) + 1), .ref ((a + (nx_ws a (2 + 5 * m) (cs_E a K [.ref (a + 1), .null, .null, .null, .null, .null, .long 0] (cs_f a 2 5 m) (cs_f a 18 6 0) (cs_f a 43 1 0))).length) + 3), .int (nI 0), .int (nI 1), .int (nI 3)])), (((a + (nx_ws a (2 + 5 * m) (cs_E a K [.ref (a + 1), .null, .null, .null, .null, .null, .long 0] (cs_f a 2 5 m) (cs_f a 18 6 0) (cs_f a 43 1 0))).length) + 1), .inr (0, [.ref ((a + (nx_ws a (2 + 5 * m) (cs_E a K [.ref (a + 1), .null, .null, .null, .null, .null, .long 0] (cs_f a 2 5 m) (cs_f a 18 6 0) (cs_f a 43 1 0))).length) + 2), .int (nI 0)])), (((a + (nx_ws a (2 + 5 * m) (cs_E a K [.ref (a + 1), .null, .null, .null, .null, .null, .long 0] (cs_f a 2 5 m) (cs_f a 18 6 0) (cs_f a 43 1 0))).length) + 2), .inl (K 0, 8, .inl (fun _ => 0))), (((a + (nx_ws a (2 + 5 * m) (cs_E a K [.ref (a + 1), .null, .null, .null, .null, .null, .long 0] (cs_f a 2 5 m) (cs_f a 18 6 0) (cs_f a 43 1 0))).length) + 3), .inr (0, [.ref ((a + (nx_ws a (2 + 5 * m) (cs_E a K [.ref (a + 1), .null, .null, .null, .null, .null, .long 0] (cs_f a 2 5 m) (cs_f a 18 6 0) (cs_f a 43 1 0))).length) + 4), .int (nI 0)])), (((a + (nx_ws a (2 + 5 * m) (cs_E a K [.ref (a + 1), .null, .null, .null, .null, .null, .long 0] (cs_f a 2 5 m) (cs_f a 18 6 0) (cs_f a 43 1 0))).length) + 4), .inl (K 0, 4, .inl (fun _ => 0)))]) (va_runI (As := []) (rest := [.ref (a + (nx_ws a (2 + 5 * m) (cs_E a K [.ref (a + 1), .null, .null, .null, .null, .null, .long 0] (cs_f a 2 5 m) (cs_f a 18 6 0) (cs_f a 43 1 0))).length), .int (nI m), .ref (a + 1)]) ⟨hx, hb, hml, hown, ht⟩ (k_M_init l) (cwI 0 ht (mx_good mw_26) rfl rfl rfl (ht _ mw_2) (ht _ mw_24) (ht _ mw_25) rfl (by decide +kernel) ⟨(Nat.le_of_ble_eq_true rfl), (Nat.le_of_ble_eq_true rfl)⟩) (nx_pre nx_w0 trivial hK hP hz []) rfl rfl hl.1 rfl (lv_room (Nat.le_of_ble_eq_true rfl)) dX_init_28 ⟨by show (1 + 5 * m + 1) + 4 ≤ 69; omega, by show (3 + 21 * m + 5) + 16 ≤ 970; omega⟩) hP hO (.cons (.cons (.cons (.cons (.cons .nil))))) hS (fun H locs hP hO hS => ?_)
        rw [nx_wlen] at hP hO ⊢
        refine va_astq (r := (mR_M, mT_M, 5)) hx hb hK hP hO.D hS 1 4 ((2 + 5 * m)) 1 (by rw [List.getElem?_append_left (by rw [nx_wlen]; omega)]; exact nx_wat (by omega)) rfl (by rw [List.getElem?_append_right (by rw [nx_wlen]; omega), nx_wlen, Nat.sub_self]; rfl) rfl (gx_ia (k := m) (n := 3) hm (by decide) rfl).1 dX_init_31 (fun H locs hP _ hS => ?_)
        rw [(gx_ia (k := m) (n := 3) hm (by decide) rfl).2, cs_up] at hP
        have hP := nx_step (q0 := 1) (n := 5) (e' := (cs_E a K [.ref (a + 1), .null, .null, .null, .null, .null, .long 0] (cs_f a 2 5 (m + 1)) (cs_f a 18 6 0) (cs_f a 43 1 0))) hP rfl (by omega) rfl cs_k1 (cs_M hm)
        refine lv_iinc (k := 0) (v := (nI (m + 1))) (lv' := [(1, .int (nI (m + 1))), (0, .ref a)]) hx hb dX_init_32 hl rfl (nI_succ m).symm (by decide) rfl (fun ls hl => ?_)
        refine lv_goto (tgt := 14) hx hb dX_init_35 (by decide) ?_
        refine W.widen (k := 1 + 5 * (m + 1)) (n := 3 + 21 * (m + 1)) (by omega) (by omega) ?_
        exact ih (m + 1) H locs ls (by omega) (nx_wch hP (by omega)) hS (lv_sub hl [0, 1] rfl)
  exact loop 3 0 H locs ls (by omega) (nx_wch hP (by omega)) hS (lv_sub hl [0, 1] rfl)
