set_option maxHeartbeats 4000000 in
set_option maxRecDepth 100000 in
theorem lw_case5 {pg : Program} {l : Launch} {ev : Env} {s : State} {mid : MethodId} {below : List Frame} {mth : Method} {c : Code} {b L : Nat} {xs : Nat → Int32} {D : va_G} {K : Nat → ClassId} {ad : Nat → Nat} {Q : State → Prop} {cells slots i : Nat} {σ : Nat → Nat → Int32} {τ : Nat → Nat → Int64} {ρ : Nat → Nat → Nat} {μ : Nat → Int64} {lt : Int64} {pl : Nat → Nat → List Nat} {o : Nat → Int64} {H : Heap} {locs : List Loc} {ls : Array Slot} (hlt : l.stackTraces = false) (hx : pg.tables.exec = Jvm.exec) (hb : c.code = code) (hml : c.maxLocals = 7) (hown : s.vm.findClass "MessageCrossbarLaw" = some mid.cls) (ht : ∀ w ∈ mx_T, w.before #[Value.ref b] s = true) (hX : va_X b L xs s s.heap) (hbl : b < s.heap.size) (hbA : ¬ gx_A ad 88 b) (hZ : lz_Z (gx_A ad 88) s s.heap) (hcs : cells + 1 ≤ 601024 ∧ slots + 6 ≤ 7293034) (hi : 9 * i + 9 ≤ L) (hL : L ≤ 4608) (hR : rr_R σ τ ρ μ lt pl) (hmv : ρ 0 1 ≤ 160064 * i) (hV : lz_V D K ad σ τ ρ μ lt o s H) (hS : va_S (gx_A ad 88) s.heap H locs) (hl : lv_has ls 7 [(4, .int (nI (9 * i))), (0, .ref b), (1, .ref (ad 0)), (2, .ref (ad 70)), (3, .ref (ad 87))]) (kk : lw_K pg l ev s mid below mth c b D K ad Q cells slots i) : W pg l ev room_1 s mid #[Value.ref b] below mth c H locs cells slots Q (F0 mid 483 ls []) := by
  have hR0 : rr_R σ τ (mq_up ρ 0 0 0) μ lt pl := hR
  rcases lw_in (xs (9 * i + 1)) (n := 4) (by decide) with ⟨p, hp0, e1⟩ | hbad
  · rcases lw_in (xs (9 * i + 2)) (n := 5) (by decide) with ⟨w, hw, e2⟩ | hbad
    · refine lv_aload_n hx hb dZ_law_483 rfl (lv_at hl 2 rfl) ?_
      refine lv_aload_n hx hb dZ_law_484 rfl (lv_at hl 1 rfl) ?_
      refine lv_iload hx hb dZ_law_485 (lv_at hl 0 rfl) ?_
      refine lv_iconst (v := nI 1) hx hb dZ_law_487 (by decide) ?_
      refine gx_iadd (a := (9 * i)) (b := 1) hx hb dZ_law_488 ?_
      refine va_sld hx hb hX hbl hbA hS (gx_ia (k := 9 * i + 1) (n := L) (by omega) (by omega) rfl).1 dZ_law_489 ?_
      refine gx_top (y := nI p) ((congrArg xs (gx_ia (k := 9 * i + 1) (n := L) (by omega) (by omega) rfl).2).trans e1) ?_
      refine lv_aload_n hx hb dZ_law_490 rfl (lv_at hl 1 rfl) ?_
      refine lv_iload hx hb dZ_law_491 (lv_at hl 0 rfl) ?_
      refine lv_iconst (v := nI 2) hx hb dZ_law_493 (by decide) ?_
      refine gx_iadd (a := (9 * i)) (b := 2) hx hb dZ_law_494 ?_
      refine va_sld hx hb hX hbl hbA hS (gx_ia (k := 9 * i + 2) (n := L) (by omega) (by omega) rfl).1 dZ_law_495 ?_
      refine gx_top (y := nI w) ((congrArg xs (gx_ia (k := 9 * i + 2) (n := L) (by omega) (by omega) rfl).2).trans e2) ?_
      refine lv_aload_n hx hb dZ_law_496 rfl (lv_at hl 4 rfl) ?_
      refine lz_calliH (vx_runSW (As := [.ref (ad 0), .int (nI p), .int (nI w), .ref (ad 87)]) (rest := []) ⟨hx, hb, hml, hown, ht⟩ (z_port l hp0 hw hR) (vx_cwSW 4 ht (mx_gW mw_421 mw_422 mw_0 mw_423) rfl rfl rfl (by decide +kernel) ⟨(Nat.le_of_ble_eq_true rfl), (Nat.le_of_ble_eq_true rfl)⟩) (gx_preS lz_ok hV hZ hS [.ref (ad 0), .int (nI p), .int (nI w), .ref (ad 87)]) rfl rfl hl.1 rfl (lv_room (Nat.le_of_ble_eq_true rfl)) dZ_law_497 ⟨by show cells + 1 ≤ 601024; omega, by show slots + 6 ≤ 7293034; omega⟩) hV hS (fun r0 σ1 τ1 H locs hp hV hS => ?_)
      obtain ⟨rfl, r, σ', τ', o', ho, hP, hu⟩ := hp
      cases hu
      refine lv_istore (lv' := [(5, .int (nI 0)), (4, .int (nI (9 * i))), (0, .ref b), (1, .ref (ad 0)), (2, .ref (ad 70)), (3, .ref (ad 87))]) hx hb dZ_law_500 hl (by decide) rfl (fun ls hl => ?_)
      refine lv_aload_n hx hb dZ_law_502 rfl (lv_at hl 4 rfl) ?_
      refine lv_aload_n hx hb dZ_law_503 rfl (lv_at hl 2 rfl) ?_
      refine lv_iload hx hb dZ_law_504 (lv_at hl 1 rfl) ?_
      refine lv_iconst (v := nI 1) hx hb dZ_law_506 (by decide) ?_
      refine gx_iadd (a := (9 * i)) (b := 1) hx hb dZ_law_507 ?_
      refine va_sld hx hb hX hbl hbA hS (gx_ia (k := 9 * i + 1) (n := L) (by omega) (by omega) rfl).1 dZ_law_508 ?_
      refine gx_top (y := nI p) ((congrArg xs (gx_ia (k := 9 * i + 1) (n := L) (by omega) (by omega) rfl).2).trans e1) ?_
      refine lv_aload_n hx hb dZ_law_509 rfl (lv_at hl 2 rfl) ?_
      refine lv_iload hx hb dZ_law_510 (lv_at hl 1 rfl) ?_
      refine lv_iconst (v := nI 2) hx hb dZ_law_512 (by decide) ?_
      refine gx_iadd (a := (9 * i)) (b := 2) hx hb dZ_law_513 ?_
      refine va_sld hx hb hX hbl hbA hS (gx_ia (k := 9 * i + 2) (n := L) (by omega) (by omega) rfl).1 dZ_law_514 ?_
      refine gx_top (y := nI w) ((congrArg xs (gx_ia (k := 9 * i + 2) (n := L) (by omega) (by omega) rfl).2).trans e2) ?_
      refine lz_calliR (va_runV (As := [.int (nI p), .int (nI w)]) (rest := []) ⟨hx, hb, hml, hown, ht⟩ (k_R_port l (ad := fun i => ad (i + 70)) (ρ := ρ) (μ := μ) (lt := lt) hp0 hw hR (show ρ 0 1 + 16 < 2 ^ 31 by omega)) (cwV 2 ht (mx_gV (C := "MessageCrossbarModel") mw_612 mw_613 mw_614 mw_6 mw_615) rfl rfl rfl (by decide +kernel) ⟨(Nat.le_of_ble_eq_true rfl), (Nat.le_of_ble_eq_true rfl)⟩) (lz_preR hV [.int (nI p), .int (nI w)]) rfl rfl hl.1 rfl (lv_room (Nat.le_of_ble_eq_true rfl)) dZ_law_515 ⟨by show cells + 1 + 0 ≤ 601024; omega, by show slots + 6 + 0 ≤ 7293034; omega⟩) hV hS (fun rb u H locs hq hVf hS => ?_)
      have key : ∃ (ρ' : Nat → Nat → Nat) (μ' : Nat → Int64) (lt' : Int64) (pl' : Nat → Nat → List Nat), rb = r ∧ u = (mq_n ρ', rx_t μ' lt') ∧ rr_R σ' τ' ρ' μ' lt' pl' ∧ ρ' 0 1 ≤ 160064 * (i + 1) ∧ ρ' 0 0 = 0 := by
        obtain ⟨h1, h2⟩ := hP
        obtain ⟨h3, h4⟩ := hq
        cases h2
        rcases (show w = 0 ∨ w = 1 ∨ w = 2 ∨ w = 3 ∨ w = 4 by omega) with rfl | rfl | rfl | rfl | rfl <;> exact ⟨mq_up ρ 0 0 0, μ, lt, pl, h3.trans h1.symm, h4, hR, (show ρ 0 1 ≤ _ by omega), rfl⟩
      obtain ⟨ρ', μ', lt', pl', hrb, hu, hR', hm', h00⟩ := key
      have hV := hVf _ _ _ hu
      refine gx_top (y := r) hrb ?_
      refine lv_istore (lv' := [(6, .int r), (5, .int (nI 0)), (4, .int (nI (9 * i))), (0, .ref b), (1, .ref (ad 0)), (2, .ref (ad 70)), (3, .ref (ad 87))]) hx hb dZ_law_518 hl (by decide) rfl (fun ls hl => ?_)
      refine lv_aload_n hx hb dZ_law_520 rfl (lv_at hl 5 rfl) ?_
      refine lz_calliR (va_runV (As := []) (rest := []) ⟨hx, hb, hml, hown, ht⟩ (k_R_thrown l (ad := fun i => ad (i + 70))) (cwV 0 ht (mx_gV (C := "MessageCrossbarModel") mw_535 mw_536 mw_537 mw_6 mw_538) rfl rfl rfl (by decide +kernel) ⟨(Nat.le_of_ble_eq_true rfl), (Nat.le_of_ble_eq_true rfl)⟩) (lz_preR hV []) rfl rfl hl.1 rfl (lv_room (Nat.le_of_ble_eq_true rfl)) dZ_law_521 ⟨by show cells + 1 + 0 ≤ 601024; omega, by show slots + 6 + 0 ≤ 7293034; omega⟩) hV hS (fun rt ut H locs hqt hVf2 hS => ?_)
      obtain ⟨hq1, hu2⟩ := hqt
      have hV := hVf2 _ _ _ hu2
      refine gx_top (y := nI 0) (by rw [hq1, h00]) ?_
      refine lv_iload hx hb dZ_law_524 (lv_at hl 1 rfl) ?_
      refine gx_icmp_eq (a := 0) (b := 0) (tgt := 531) hx hb dZ_law_526 (by decide) (by omega) (by omega) (fun h526 => ?_) (fun h526 => ?_)
      · refine lv_iload hx hb dZ_law_531 (lv_at hl 1 rfl) ?_
        refine gx_if_ne (a := 0) (tgt := 548) hx hb dZ_law_533 (by decide) (by omega) (fun h533 => ?_) (fun h533 => ?_)
        · exact absurd rfl h533
        · refine lv_aload_n hx hb dZ_law_536 rfl (lv_at hl 6 rfl) ?_
          refine lv_iconst (v := nI 0) hx hb dZ_law_537 (by decide) ?_
          refine gx_lald hx hb hV (j := 87) (by omega) 3 lz_eO rfl 0 (by omega) (by decide) rfl dZ_law_538 ?_
          refine gx_topl (y := (r.toInt64)) ho ?_
          refine lv_iload hx hb dZ_law_539 (lv_at hl 0 rfl) ?_
          refine lv_i2l hx hb dZ_law_541 rfl ?_
          refine W.lcmp hx hb dZ_law_542 ?_
          refine gx_top (y := nI 0) lw_cmp ?_
          refine gx_if_eq (a := 0) (tgt := 548) hx hb dZ_law_543 (by decide) (by omega) (fun h543 => ?_) (fun h543 => ?_)
          · refine lv_goto (tgt := 793) hx hb dZ_law_548 (by decide) ?_
            refine W.widen (k := cells + 1) (n := slots + 6) (by omega) (by omega) ?_
            exact kk σ' τ' ρ' μ' lt' pl' o' H locs ls hR' hm' hV hS (lv_sub hl [2, 3, 4, 5, 6] rfl)
          · exact absurd rfl h543
      · exact absurd rfl h526
    · refine lv_aload_n hx hb dZ_law_483 rfl (lv_at hl 2 rfl) ?_
      refine lv_aload_n hx hb dZ_law_484 rfl (lv_at hl 1 rfl) ?_
      refine lv_iload hx hb dZ_law_485 (lv_at hl 0 rfl) ?_
      refine lv_iconst (v := nI 1) hx hb dZ_law_487 (by decide) ?_
      refine gx_iadd (a := (9 * i)) (b := 1) hx hb dZ_law_488 ?_
      refine va_sld hx hb hX hbl hbA hS (gx_ia (k := 9 * i + 1) (n := L) (by omega) (by omega) rfl).1 dZ_law_489 ?_
      refine gx_top (y := nI p) ((congrArg xs (gx_ia (k := 9 * i + 1) (n := L) (by omega) (by omega) rfl).2).trans e1) ?_
      refine lv_aload_n hx hb dZ_law_490 rfl (lv_at hl 1 rfl) ?_
      refine lv_iload hx hb dZ_law_491 (lv_at hl 0 rfl) ?_
      refine lv_iconst (v := nI 2) hx hb dZ_law_493 (by decide) ?_
      refine gx_iadd (a := (9 * i)) (b := 2) hx hb dZ_law_494 ?_
      refine va_sld hx hb hX hbl hbA hS (gx_ia (k := 9 * i + 2) (n := L) (by omega) (by omega) rfl).1 dZ_law_495 ?_
      refine gx_top (y := xs (9 * i + 2)) (congrArg xs (gx_ia (k := 9 * i + 2) (n := L) (by omega) (by omega) rfl).2) ?_
      refine lv_aload_n hx hb dZ_law_496 rfl (lv_at hl 4 rfl) ?_
      refine lz_calliH (vx_runSW (As := [.ref (ad 0), .int (nI p), .int (xs (9 * i + 2)), .ref (ad 87)]) (rest := []) ⟨hx, hb, hml, hown, ht⟩ (z_portC l hlt hp0 hbad) (vx_cwSW 4 ht (mx_gW mw_421 mw_422 mw_0 mw_423) rfl rfl rfl (by decide +kernel) ⟨(Nat.le_of_ble_eq_true rfl), (Nat.le_of_ble_eq_true rfl)⟩) (gx_preS lz_ok hV hZ hS [.ref (ad 0), .int (nI p), .int (xs (9 * i + 2)), .ref (ad 87)]) rfl rfl hl.1 rfl (lv_room (Nat.le_of_ble_eq_true rfl)) dZ_law_497 ⟨by show cells + 1 ≤ 601024; omega, by show slots + 6 ≤ 7293034; omega⟩) hV hS (fun r0 σ1 τ1 H locs hp hV hS => ?_)
      obtain ⟨rfl, hu⟩ := hp
      cases hu
      refine lv_istore (lv' := [(5, .int (nI 2)), (4, .int (nI (9 * i))), (0, .ref b), (1, .ref (ad 0)), (2, .ref (ad 70)), (3, .ref (ad 87))]) hx hb dZ_law_500 hl (by decide) rfl (fun ls hl => ?_)
      refine lv_aload_n hx hb dZ_law_502 rfl (lv_at hl 4 rfl) ?_
      refine lv_aload_n hx hb dZ_law_503 rfl (lv_at hl 2 rfl) ?_
      refine lv_iload hx hb dZ_law_504 (lv_at hl 1 rfl) ?_
      refine lv_iconst (v := nI 1) hx hb dZ_law_506 (by decide) ?_
      refine gx_iadd (a := (9 * i)) (b := 1) hx hb dZ_law_507 ?_
      refine va_sld hx hb hX hbl hbA hS (gx_ia (k := 9 * i + 1) (n := L) (by omega) (by omega) rfl).1 dZ_law_508 ?_
      refine gx_top (y := nI p) ((congrArg xs (gx_ia (k := 9 * i + 1) (n := L) (by omega) (by omega) rfl).2).trans e1) ?_
      refine lv_aload_n hx hb dZ_law_509 rfl (lv_at hl 2 rfl) ?_
      refine lv_iload hx hb dZ_law_510 (lv_at hl 1 rfl) ?_
      refine lv_iconst (v := nI 2) hx hb dZ_law_512 (by decide) ?_
      refine gx_iadd (a := (9 * i)) (b := 2) hx hb dZ_law_513 ?_
      refine va_sld hx hb hX hbl hbA hS (gx_ia (k := 9 * i + 2) (n := L) (by omega) (by omega) rfl).1 dZ_law_514 ?_
      refine gx_top (y := xs (9 * i + 2)) (congrArg xs (gx_ia (k := 9 * i + 2) (n := L) (by omega) (by omega) rfl).2) ?_
      refine lz_calliR (va_runV (As := [.int (nI p), .int (xs (9 * i + 2))]) (rest := []) ⟨hx, hb, hml, hown, ht⟩ (k_R_portC l (ad := fun i => ad (i + 70)) (ρ := ρ) (μ := μ) (lt := lt) (cx_bl hp0 (by decide)) hbad) (cwV 2 ht (mx_gV (C := "MessageCrossbarModel") mw_612 mw_613 mw_614 mw_6 mw_615) rfl rfl rfl (by decide +kernel) ⟨(Nat.le_of_ble_eq_true rfl), (Nat.le_of_ble_eq_true rfl)⟩) (lz_preR hV [.int (nI p), .int (xs (9 * i + 2))]) rfl rfl hl.1 rfl (lv_room (Nat.le_of_ble_eq_true rfl)) dZ_law_515 ⟨by show cells + 1 + 0 ≤ 601024; omega, by show slots + 6 + 0 ≤ 7293034; omega⟩) hV hS (fun rb u H locs hq hVf hS => ?_)
      obtain ⟨hq0, hu⟩ := hq
      have hV := hVf _ _ _ hu
      refine gx_top (y := nI 0) hq0 ?_
      refine lv_istore (lv' := [(6, .int (nI 0)), (5, .int (nI 2)), (4, .int (nI (9 * i))), (0, .ref b), (1, .ref (ad 0)), (2, .ref (ad 70)), (3, .ref (ad 87))]) hx hb dZ_law_518 hl (by decide) rfl (fun ls hl => ?_)
      refine lv_aload_n hx hb dZ_law_520 rfl (lv_at hl 5 rfl) ?_
      refine lz_calliR (va_runV (As := []) (rest := []) ⟨hx, hb, hml, hown, ht⟩ (k_R_thrown l (ad := fun i => ad (i + 70))) (cwV 0 ht (mx_gV (C := "MessageCrossbarModel") mw_535 mw_536 mw_537 mw_6 mw_538) rfl rfl rfl (by decide +kernel) ⟨(Nat.le_of_ble_eq_true rfl), (Nat.le_of_ble_eq_true rfl)⟩) (lz_preR hV []) rfl rfl hl.1 rfl (lv_room (Nat.le_of_ble_eq_true rfl)) dZ_law_521 ⟨by show cells + 1 + 0 ≤ 601024; omega, by show slots + 6 + 0 ≤ 7293034; omega⟩) hV hS (fun rt ut H locs hqt hVf2 hS => ?_)
      obtain ⟨hq1, hu2⟩ := hqt
      have hV := hVf2 _ _ _ hu2
      refine gx_top (y := nI 2) (by rw [hq1, mq_up_s]) ?_
      refine lv_iload hx hb dZ_law_524 (lv_at hl 1 rfl) ?_
      refine gx_icmp_eq (a := 2) (b := 2) (tgt := 531) hx hb dZ_law_526 (by decide) (by omega) (by omega) (fun h526 => ?_) (fun h526 => ?_)
      · refine lv_iload hx hb dZ_law_531 (lv_at hl 1 rfl) ?_
        refine gx_if_ne (a := 2) (tgt := 548) hx hb dZ_law_533 (by decide) (by omega) (fun h533 => ?_) (fun h533 => ?_)
        · refine lv_goto (tgt := 793) hx hb dZ_law_548 (by decide) ?_
          refine W.widen (k := cells + 1) (n := slots + 6) (by omega) (by omega) ?_
          exact kk σ τ (mq_up ρ 0 0 2) μ lt pl o H locs ls hR (show ρ 0 1 ≤ _ by omega) hV hS (lv_sub hl [2, 3, 4, 5, 6] rfl)
        · exact absurd h533 (by decide)
      · exact absurd rfl h526
  · refine lv_aload_n hx hb dZ_law_483 rfl (lv_at hl 2 rfl) ?_
    refine lv_aload_n hx hb dZ_law_484 rfl (lv_at hl 1 rfl) ?_
    refine lv_iload hx hb dZ_law_485 (lv_at hl 0 rfl) ?_
    refine lv_iconst (v := nI 1) hx hb dZ_law_487 (by decide) ?_
    refine gx_iadd (a := (9 * i)) (b := 1) hx hb dZ_law_488 ?_
    refine va_sld hx hb hX hbl hbA hS (gx_ia (k := 9 * i + 1) (n := L) (by omega) (by omega) rfl).1 dZ_law_489 ?_
    refine gx_top (y := xs (9 * i + 1)) (congrArg xs (gx_ia (k := 9 * i + 1) (n := L) (by omega) (by omega) rfl).2) ?_
    refine lv_aload_n hx hb dZ_law_490 rfl (lv_at hl 1 rfl) ?_
    refine lv_iload hx hb dZ_law_491 (lv_at hl 0 rfl) ?_
    refine lv_iconst (v := nI 2) hx hb dZ_law_493 (by decide) ?_
    refine gx_iadd (a := (9 * i)) (b := 2) hx hb dZ_law_494 ?_
    refine va_sld hx hb hX hbl hbA hS (gx_ia (k := 9 * i + 2) (n := L) (by omega) (by omega) rfl).1 dZ_law_495 ?_
    refine gx_top (y := xs (9 * i + 2)) (congrArg xs (gx_ia (k := 9 * i + 2) (n := L) (by omega) (by omega) rfl).2) ?_
    refine lv_aload_n hx hb dZ_law_496 rfl (lv_at hl 4 rfl) ?_
    refine lz_calliH (vx_runSW (As := [.ref (ad 0), .int (xs (9 * i + 1)), .int (xs (9 * i + 2)), .ref (ad 87)]) (rest := []) ⟨hx, hb, hml, hown, ht⟩ (z_portB l hlt hbad) (vx_cwSW 4 ht (mx_gW mw_421 mw_422 mw_0 mw_423) rfl rfl rfl (by decide +kernel) ⟨(Nat.le_of_ble_eq_true rfl), (Nat.le_of_ble_eq_true rfl)⟩) (gx_preS lz_ok hV hZ hS [.ref (ad 0), .int (xs (9 * i + 1)), .int (xs (9 * i + 2)), .ref (ad 87)]) rfl rfl hl.1 rfl (lv_room (Nat.le_of_ble_eq_true rfl)) dZ_law_497 ⟨by show cells + 1 ≤ 601024; omega, by show slots + 6 ≤ 7293034; omega⟩) hV hS (fun r0 σ1 τ1 H locs hp hV hS => ?_)
    obtain ⟨rfl, hu⟩ := hp
    cases hu
    refine lv_istore (lv' := [(5, .int (nI 1)), (4, .int (nI (9 * i))), (0, .ref b), (1, .ref (ad 0)), (2, .ref (ad 70)), (3, .ref (ad 87))]) hx hb dZ_law_500 hl (by decide) rfl (fun ls hl => ?_)
    refine lv_aload_n hx hb dZ_law_502 rfl (lv_at hl 4 rfl) ?_
    refine lv_aload_n hx hb dZ_law_503 rfl (lv_at hl 2 rfl) ?_
    refine lv_iload hx hb dZ_law_504 (lv_at hl 1 rfl) ?_
    refine lv_iconst (v := nI 1) hx hb dZ_law_506 (by decide) ?_
    refine gx_iadd (a := (9 * i)) (b := 1) hx hb dZ_law_507 ?_
    refine va_sld hx hb hX hbl hbA hS (gx_ia (k := 9 * i + 1) (n := L) (by omega) (by omega) rfl).1 dZ_law_508 ?_
    refine gx_top (y := xs (9 * i + 1)) (congrArg xs (gx_ia (k := 9 * i + 1) (n := L) (by omega) (by omega) rfl).2) ?_
    refine lv_aload_n hx hb dZ_law_509 rfl (lv_at hl 2 rfl) ?_
    refine lv_iload hx hb dZ_law_510 (lv_at hl 1 rfl) ?_
    refine lv_iconst (v := nI 2) hx hb dZ_law_512 (by decide) ?_
    refine gx_iadd (a := (9 * i)) (b := 2) hx hb dZ_law_513 ?_
    refine va_sld hx hb hX hbl hbA hS (gx_ia (k := 9 * i + 2) (n := L) (by omega) (by omega) rfl).1 dZ_law_514 ?_
    refine gx_top (y := xs (9 * i + 2)) (congrArg xs (gx_ia (k := 9 * i + 2) (n := L) (by omega) (by omega) rfl).2) ?_
    refine lz_calliR (va_runV (As := [.int (xs (9 * i + 1)), .int (xs (9 * i + 2))]) (rest := []) ⟨hx, hb, hml, hown, ht⟩ (k_R_portB l (ad := fun i => ad (i + 70)) (ρ := ρ) (μ := μ) (lt := lt) hbad) (cwV 2 ht (mx_gV (C := "MessageCrossbarModel") mw_612 mw_613 mw_614 mw_6 mw_615) rfl rfl rfl (by decide +kernel) ⟨(Nat.le_of_ble_eq_true rfl), (Nat.le_of_ble_eq_true rfl)⟩) (lz_preR hV [.int (xs (9 * i + 1)), .int (xs (9 * i + 2))]) rfl rfl hl.1 rfl (lv_room (Nat.le_of_ble_eq_true rfl)) dZ_law_515 ⟨by show cells + 1 + 0 ≤ 601024; omega, by show slots + 6 + 0 ≤ 7293034; omega⟩) hV hS (fun rb u H locs hq hVf hS => ?_)
    obtain ⟨hq0, hu⟩ := hq
    have hV := hVf _ _ _ hu
    refine gx_top (y := nI 0) hq0 ?_
    refine lv_istore (lv' := [(6, .int (nI 0)), (5, .int (nI 1)), (4, .int (nI (9 * i))), (0, .ref b), (1, .ref (ad 0)), (2, .ref (ad 70)), (3, .ref (ad 87))]) hx hb dZ_law_518 hl (by decide) rfl (fun ls hl => ?_)
    refine lv_aload_n hx hb dZ_law_520 rfl (lv_at hl 5 rfl) ?_
    refine lz_calliR (va_runV (As := []) (rest := []) ⟨hx, hb, hml, hown, ht⟩ (k_R_thrown l (ad := fun i => ad (i + 70))) (cwV 0 ht (mx_gV (C := "MessageCrossbarModel") mw_535 mw_536 mw_537 mw_6 mw_538) rfl rfl rfl (by decide +kernel) ⟨(Nat.le_of_ble_eq_true rfl), (Nat.le_of_ble_eq_true rfl)⟩) (lz_preR hV []) rfl rfl hl.1 rfl (lv_room (Nat.le_of_ble_eq_true rfl)) dZ_law_521 ⟨by show cells + 1 + 0 ≤ 601024; omega, by show slots + 6 + 0 ≤ 7293034; omega⟩) hV hS (fun rt ut H locs hqt hVf2 hS => ?_)
    obtain ⟨hq1, hu2⟩ := hqt
    have hV := hVf2 _ _ _ hu2
    refine gx_top (y := nI 1) (by rw [hq1, mq_up_s]) ?_
    refine lv_iload hx hb dZ_law_524 (lv_at hl 1 rfl) ?_
    refine gx_icmp_eq (a := 1) (b := 1) (tgt := 531) hx hb dZ_law_526 (by decide) (by omega) (by omega) (fun h526 => ?_) (fun h526 => ?_)
    · refine lv_iload hx hb dZ_law_531 (lv_at hl 1 rfl) ?_
      refine gx_if_ne (a := 1) (tgt := 548) hx hb dZ_law_533 (by decide) (by omega) (fun h533 => ?_) (fun h533 => ?_)
      · refine lv_goto (tgt := 793) hx hb dZ_law_548 (by decide) ?_
        refine W.widen (k := cells + 1) (n := slots + 6) (by omega) (by omega) ?_
        exact kk σ τ (mq_up ρ 0 0 1) μ lt pl o H locs ls hR (show ρ 0 1 ≤ _ by omega) hV hS (lv_sub hl [2, 3, 4, 5, 6] rfl)
      · exact absurd h533 (by decide)
    · exact absurd rfl h526
