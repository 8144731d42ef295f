set_option maxHeartbeats 4000000 in
set_option maxRecDepth 100000 in
theorem lw_case4 {pg : Program} {l : Launch} {ev : Env} {s : State} {mid : MethodId} {below : List Frame} {mth : Method} {c : Code} {b L : Nat} {xs : Nat → Int32} {D : va_G} {K : Nat → ClassId} {ad : Nat → Nat} {Q : State → Prop} {cells slots i : Nat} {σ : Nat → Nat → Int32} {τ : Nat → Nat → Int64} {ρ : Nat → Nat → Nat} {μ : Nat → Int64} {lt : Int64} {pl : Nat → Nat → List Nat} {o : Nat → Int64} {H : Heap} {locs : List Loc} {ls : Array Slot} (hlt : l.stackTraces = false) (hx : pg.tables.exec = Jvm.exec) (hb : c.code = code) (hml : c.maxLocals = 7) (hown : s.vm.findClass "MessageCrossbarLaw" = some mid.cls) (ht : ∀ w ∈ mx_T, w.before #[Value.ref b] s = true) (hX : va_X b L xs s s.heap) (hbl : b < s.heap.size) (hbA : ¬ gx_A ad 88 b) (hZ : lz_Z (gx_A ad 88) s s.heap) (hcs : cells + 1 ≤ 601024 ∧ slots + 6 ≤ 7293034) (hi : 9 * i + 9 ≤ L) (hL : L ≤ 4608) (hR : rr_R σ τ ρ μ lt pl) (hmv : ρ 0 1 ≤ 160064 * i) (hV : lz_V D K ad σ τ ρ μ lt o s H) (hS : va_S (gx_A ad 88) s.heap H locs) (hl : lv_has ls 7 [(4, .int (nI (9 * i))), (0, .ref b), (1, .ref (ad 0)), (2, .ref (ad 70)), (3, .ref (ad 87))]) (kk : lw_K pg l ev s mid below mth c b D K ad Q cells slots i) : W pg l ev room_1 s mid #[Value.ref b] below mth c H locs cells slots Q (F0 mid 469 ls []) := by
  have hR0 : rr_R σ τ (mq_up ρ 0 0 0) μ lt pl := hR
  refine lv_aload_n hx hb dZ_law_469 rfl (lv_at hl 2 rfl) ?_
  refine lz_calllC (va_runV (As := []) (rest := []) ⟨hx, hb, hml, hown, ht⟩ (k_X_data l hR) (cwV 0 ht (mx_gV (C := "MessageCrossbar") mw_152 mw_153 mw_154 mw_1 mw_155) rfl rfl rfl (by decide +kernel) ⟨(Nat.le_of_ble_eq_true rfl), (Nat.le_of_ble_eq_true rfl)⟩) (lz_preC hV hZ hS []) rfl rfl hl.1 rfl (lv_room (Nat.le_of_ble_eq_true rfl)) dZ_law_470 ⟨by show cells + 0 ≤ 601024; omega, by show slots + 0 ≤ 7293034; omega⟩) hV hS (fun r σ1 τ1 H locs hp hV hS => ?_)
  obtain ⟨hp1, hu⟩ := hp
  cases hu
  refine gx_topl (y := lt) hp1 ?_
  refine lv_aload_n hx hb dZ_law_473 rfl (lv_at hl 3 rfl) ?_
  refine lz_calllR (va_runV (As := []) (rest := [.long lt]) ⟨hx, hb, hml, hown, ht⟩ (k_R_data l (ad := fun i => ad (i + 70)) (ρ := ρ) (μ := μ) (lt := lt)) (cwV 0 ht (mx_gV (C := "MessageCrossbarModel") mw_608 mw_609 mw_610 mw_6 mw_611) rfl rfl rfl (by decide +kernel) ⟨(Nat.le_of_ble_eq_true rfl), (Nat.le_of_ble_eq_true rfl)⟩) (lz_preR hV []) rfl rfl hl.1 rfl (lv_room (Nat.le_of_ble_eq_true rfl)) dZ_law_474 ⟨by show cells + 0 ≤ 601024; omega, by show slots + 0 ≤ 7293034; omega⟩) hV hS (fun rb u H locs hq hVf hS => ?_)
  obtain ⟨hq1, hu⟩ := hq
  have hV := hVf _ _ _ hu
  refine gx_topl (y := lt) hq1 ?_
  refine W.lcmp hx hb dZ_law_477 ?_
  refine gx_top (y := nI 0) lw_cmp ?_
  refine gx_if_eq (a := 0) (tgt := 793) hx hb dZ_law_478 (by decide) (by omega) (fun h478 => ?_) (fun h478 => ?_)
  · refine W.widen (k := cells + 1) (n := slots + 6) (by omega) (by omega) ?_
    exact kk σ τ (mq_up ρ 0 0 0) μ lt pl o H locs ls hR (show ρ 0 1 ≤ _ by omega) hV hS (lv_sub hl [0, 1, 2, 3, 4] rfl)
  · exact absurd rfl h478
