set_option maxHeartbeats 4000000 in
set_option maxRecDepth 100000 in
theorem lw_case9 {pg : Program} {l : Launch} {ev : Env} {s : State} {mid : MethodId} {below : List Frame} {mth : Method} {c : Code} {b L : Nat} {xs : Nat → Int32} {D : va_G} {K : Nat → ClassId} {ad : Nat → Nat} {Q : State → Prop} {cells slots i : Nat} {σ : Nat → Nat → Int32} {τ : Nat → Nat → Int64} {ρ : Nat → Nat → Nat} {μ : Nat → Int64} {lt : Int64} {pl : Nat → Nat → List Nat} {o : Nat → Int64} {H : Heap} {locs : List Loc} {ls : Array Slot} (hlt : l.stackTraces = false) (hx : pg.tables.exec = Jvm.exec) (hb : c.code = code) (hml : c.maxLocals = 7) (hown : s.vm.findClass "MessageCrossbarLaw" = some mid.cls) (ht : ∀ w ∈ mx_T, w.before #[Value.ref b] s = true) (hX : va_X b L xs s s.heap) (hbl : b < s.heap.size) (hbA : ¬ gx_A ad 88 b) (hZ : lz_Z (gx_A ad 88) s s.heap) (hcs : cells + 1 ≤ 601024 ∧ slots + 6 ≤ 7293034) (hi : 9 * i + 9 ≤ L) (hL : L ≤ 4608) (hR : rr_R σ τ ρ μ lt pl) (hmv : ρ 0 1 ≤ 160064 * i) (hV : lz_V D K ad σ τ ρ μ lt o s H) (hS : va_S (gx_A ad 88) s.heap H locs) (hl : lv_has ls 7 [(4, .int (nI (9 * i))), (0, .ref b), (1, .ref (ad 0)), (2, .ref (ad 70)), (3, .ref (ad 87))]) (kk : lw_K pg l ev s mid below mth c b D K ad Q cells slots i) : W pg l ev room_1 s mid #[Value.ref b] below mth c H locs cells slots Q (F0 mid 743 ls []) := by
  have hR0 : rr_R σ τ (mq_up ρ 0 0 0) μ lt pl := hR
  rcases lw_in (xs (9 * i + 1)) (n := 32) (by decide) with ⟨k, hk, e1⟩ | hbad
  · refine lv_aload_n hx hb dZ_law_743 rfl (lv_at hl 2 rfl) ?_
    refine lv_aload_n hx hb dZ_law_744 rfl (lv_at hl 1 rfl) ?_
    refine lv_iload hx hb dZ_law_745 (lv_at hl 0 rfl) ?_
    refine lv_iconst (v := nI 1) hx hb dZ_law_747 (by decide) ?_
    refine gx_iadd (a := (9 * i)) (b := 1) hx hb dZ_law_748 ?_
    refine va_sld hx hb hX hbl hbA hS (gx_ia (k := 9 * i + 1) (n := L) (by omega) (by omega) rfl).1 dZ_law_749 ?_
    refine gx_top (y := nI k) ((congrArg xs (gx_ia (k := 9 * i + 1) (n := L) (by omega) (by omega) rfl).2).trans e1) ?_
    refine lz_calliC (va_runV (As := [.int (nI k)]) (rest := []) ⟨hx, hb, hml, hown, ht⟩ (k_X_done l hk hR (show ρ 0 1 < 2 ^ 31 by omega)) (cwV 1 ht (mx_gV (C := "MessageCrossbar") mw_156 mw_157 mw_158 mw_1 mw_159) rfl rfl rfl (by decide +kernel) ⟨(Nat.le_of_ble_eq_true rfl), (Nat.le_of_ble_eq_true rfl)⟩) (lz_preC hV hZ hS [.int (nI k)]) rfl rfl hl.1 rfl (lv_room (Nat.le_of_ble_eq_true rfl)) dZ_law_750 ⟨by show cells + 0 ≤ 601024; omega, by show slots + 0 ≤ 7293034; omega⟩) hV hS (fun r σ1 τ1 H locs hp hV hS => ?_)
    obtain ⟨hp1, hu⟩ := hp
    cases hu
    refine gx_top (y := (if ρ 16 3 ≤ k then -1 else nI (ρ 15 ((ρ 16 3 - 1 - k) % 32)))) hp1 ?_
    refine lv_aload_n hx hb dZ_law_753 rfl (lv_at hl 3 rfl) ?_
    refine lv_aload_n hx hb dZ_law_754 rfl (lv_at hl 1 rfl) ?_
    refine lv_iload hx hb dZ_law_755 (lv_at hl 0 rfl) ?_
    refine lv_iconst (v := nI 1) hx hb dZ_law_757 (by decide) ?_
    refine gx_iadd (a := (9 * i)) (b := 1) hx hb dZ_law_758 ?_
    refine va_sld hx hb hX hbl hbA hS (gx_ia (k := 9 * i + 1) (n := L) (by omega) (by omega) rfl).1 dZ_law_759 ?_
    refine gx_top (y := nI k) ((congrArg xs (gx_ia (k := 9 * i + 1) (n := L) (by omega) (by omega) rfl).2).trans e1) ?_
    refine lz_calliR (va_runV (As := [.int (nI k)]) (rest := [.int (if ρ 16 3 ≤ k then -1 else nI (ρ 15 ((ρ 16 3 - 1 - k) % 32)))]) ⟨hx, hb, hml, hown, ht⟩ (k_R_done l (ad := fun i => ad (i + 70)) (ρ := ρ) (μ := μ) (lt := lt) hk hR (show ρ 0 1 + 16 < 2 ^ 31 by omega)) (cwV 1 ht (mx_gV (C := "MessageCrossbarModel") mw_628 mw_629 mw_630 mw_6 mw_631) rfl rfl rfl (by decide +kernel) ⟨(Nat.le_of_ble_eq_true rfl), (Nat.le_of_ble_eq_true rfl)⟩) (lz_preR hV [.int (nI k)]) rfl rfl hl.1 rfl (lv_room (Nat.le_of_ble_eq_true rfl)) dZ_law_760 ⟨by show cells + 0 ≤ 601024; omega, by show slots + 0 ≤ 7293034; omega⟩) hV hS (fun rb u H locs hq hVf hS => ?_)
    obtain ⟨hq1, hu⟩ := hq
    have hV := hVf _ _ _ hu
    refine gx_top (y := (if ρ 16 3 ≤ k then -1 else nI (ρ 15 ((ρ 16 3 - 1 - k) % 32)))) hq1 ?_
    refine lv_icmp_eq (tgt := 793) hx hb dZ_law_763 (by decide) (fun h763 => ?_) (fun h763 => ?_)
    · refine W.widen (k := cells + 1) (n := slots + 6) (by omega) (by omega) ?_
      exact kk σ τ (mq_up ρ 0 0 0) μ lt pl o H locs ls hR (show ρ 0 1 ≤ _ by omega) hV hS (lv_sub hl [0, 1, 2, 3, 4] rfl)
    · exact absurd rfl h763
  · refine lv_aload_n hx hb dZ_law_743 rfl (lv_at hl 2 rfl) ?_
    refine lv_aload_n hx hb dZ_law_744 rfl (lv_at hl 1 rfl) ?_
    refine lv_iload hx hb dZ_law_745 (lv_at hl 0 rfl) ?_
    refine lv_iconst (v := nI 1) hx hb dZ_law_747 (by decide) ?_
    refine gx_iadd (a := (9 * i)) (b := 1) hx hb dZ_law_748 ?_
    refine va_sld hx hb hX hbl hbA hS (gx_ia (k := 9 * i + 1) (n := L) (by omega) (by omega) rfl).1 dZ_law_749 ?_
    refine gx_top (y := xs (9 * i + 1)) (congrArg xs (gx_ia (k := 9 * i + 1) (n := L) (by omega) (by omega) rfl).2) ?_
    refine lz_calliC (va_runV (As := [.int (xs (9 * i + 1))]) (rest := []) ⟨hx, hb, hml, hown, ht⟩ (k_X_doneB l hbad) (cwV 1 ht (mx_gV (C := "MessageCrossbar") mw_156 mw_157 mw_158 mw_1 mw_159) rfl rfl rfl (by decide +kernel) ⟨(Nat.le_of_ble_eq_true rfl), (Nat.le_of_ble_eq_true rfl)⟩) (lz_preC hV hZ hS [.int (xs (9 * i + 1))]) rfl rfl hl.1 rfl (lv_room (Nat.le_of_ble_eq_true rfl)) dZ_law_750 ⟨by show cells + 0 ≤ 601024; omega, by show slots + 0 ≤ 7293034; omega⟩) hV hS (fun r σ1 τ1 H locs hp hV hS => ?_)
    obtain ⟨hp1, hu⟩ := hp
    cases hu
    refine gx_top (y := (-1)) hp1 ?_
    refine lv_aload_n hx hb dZ_law_753 rfl (lv_at hl 3 rfl) ?_
    refine lv_aload_n hx hb dZ_law_754 rfl (lv_at hl 1 rfl) ?_
    refine lv_iload hx hb dZ_law_755 (lv_at hl 0 rfl) ?_
    refine lv_iconst (v := nI 1) hx hb dZ_law_757 (by decide) ?_
    refine gx_iadd (a := (9 * i)) (b := 1) hx hb dZ_law_758 ?_
    refine va_sld hx hb hX hbl hbA hS (gx_ia (k := 9 * i + 1) (n := L) (by omega) (by omega) rfl).1 dZ_law_759 ?_
    refine gx_top (y := xs (9 * i + 1)) (congrArg xs (gx_ia (k := 9 * i + 1) (n := L) (by omega) (by omega) rfl).2) ?_
    refine lz_calliR (va_runV (As := [.int (xs (9 * i + 1))]) (rest := [.int (-1)]) ⟨hx, hb, hml, hown, ht⟩ (k_R_doneB l (ad := fun i => ad (i + 70)) (ρ := ρ) (μ := μ) (lt := lt) hbad) (cwV 1 ht (mx_gV (C := "MessageCrossbarModel") mw_628 mw_629 mw_630 mw_6 mw_631) rfl rfl rfl (by decide +kernel) ⟨(Nat.le_of_ble_eq_true rfl), (Nat.le_of_ble_eq_true rfl)⟩) (lz_preR hV [.int (xs (9 * i + 1))]) rfl rfl hl.1 rfl (lv_room (Nat.le_of_ble_eq_true rfl)) dZ_law_760 ⟨by show cells + 0 ≤ 601024; omega, by show slots + 0 ≤ 7293034; omega⟩) hV hS (fun rb u H locs hq hVf hS => ?_)
    obtain ⟨hq1, hu⟩ := hq
    have hV := hVf _ _ _ hu
    refine gx_top (y := (-1)) hq1 ?_
    refine lv_icmp_eq (tgt := 793) hx hb dZ_law_763 (by decide) (fun h763 => ?_) (fun h763 => ?_)
    · refine W.widen (k := cells + 1) (n := slots + 6) (by omega) (by omega) ?_
      exact kk σ τ (mq_up ρ 0 0 0) μ lt pl o H locs ls hR (show ρ 0 1 ≤ _ by omega) hV hS (lv_sub hl [0, 1, 2, 3, 4] rfl)
    · exact absurd rfl h763
