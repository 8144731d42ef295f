theorem lw_neg9 : ∀ L, L < 9 → nI L - nI 9 < 0 := by decide +kernel
set_option maxHeartbeats 4000000 in
set_option maxRecDepth 100000 in
theorem lw_loop {pg : Program} {l : Launch} {ev : Env} {s : State} {mid : MethodId} {below : List Frame} {mth : Method} {c : Code} {b L : Nat} {xs : Nat → Int32} {D : va_G} {K : Nat → ClassId} {ad : Nat → Nat} (hlt : l.stackTraces = false) (hx : pg.tables.exec = Jvm.exec) (hb : c.code = code) (hr : mth.sig.returnType = ret) (hlk : mth.locks = false) (hml : c.maxLocals = 7) (hown : s.vm.findClass "MessageCrossbarLaw" = some mid.cls) (ht : ∀ w ∈ mx_T, w.before #[Value.ref b] s = true) (hX : va_X b L xs s s.heap) (hbl : b < s.heap.size) (had : ∀ j, s.heap.size ≤ ad j) (hZ : lz_Z (gx_A ad 88) s s.heap) (hL : L ≤ 4608) : ∀ (n i : Nat) (σ : Nat → Nat → Int32) (τ : Nat → Nat → Int64) (ρ : Nat → Nat → Nat) (μ : Nat → Int64) (lt : Int64) (pl : Nat → Nat → List Nat) (o : Nat → Int64) (H : Heap) (locs : List Loc) (ls : Array Slot), i + n = 513 → rr_R σ τ ρ μ lt pl → ρ 0 1 ≤ 160064 * i → lz_V D K ad σ τ ρ μ lt o s H → va_S (gx_A ad 88) s.heap H locs → lv_has ls 7 [(4, .int (nI (9 * i))), (0, .ref b), (1, .ref (ad 0)), (2, .ref (ad 70)), (3, .ref (ad 87))] → W pg l ev room_1 s mid #[Value.ref b] below mth c H locs (88 + i) (1888 + 6 * i) (lw_Z below #[Value.ref b] s) (F0 mid 23 ls []) := by
  have hbA : ¬ gx_A ad 88 b := fun ⟨j, _, e⟩ => by have h9 := had j; omega
  intro n
  induction n with
  | zero =>
    intro i σ τ ρ μ lt pl o H locs ls hn hR hmv hV hS hl
    refine lv_iload hx hb dZ_law_23 (lv_at hl 0 rfl) ?_
    refine lv_aload_n hx hb dZ_law_25 rfl (lv_at hl 1 rfl) ?_
    refine va_slen hx hb hX hbl hbA hS dZ_law_26 ?_
    refine gx_top (y := nI L) rfl ?_
    refine lv_bipush (v := nI 9) hx hb dZ_law_27 (by decide) ?_
    by_cases hL9 : 9 ≤ L
    · refine gx_isub (a := L) (b := 9) hx hb dZ_law_29 hL9 ?_
      refine gx_icmp_gt (a := 9 * i) (b := L - 9) (tgt := 799) hx hb dZ_law_30 (by decide) (by omega) (by omega) (fun h30 => ?_) (fun h30 => ?_)
      · refine lv_iconst (v := 1) hx hb dZ_law_799 (by decide) ?_
        refine va_forget (fun q hq => by obtain ⟨j, _, e⟩ := hS.2.2 q hq; rw [e]; exact had j) ?_
        refine W.widen (k := 601024) (n := 7293034) (by omega) (by omega) ?_
        exact lw_ret hx hb hr hlk dZ_law_800
      · exact absurd h30 (by omega)
    · refine lv_isub hx hb dZ_law_29 ?_
      refine lv_icmp_gt (tgt := 799) hx hb dZ_law_30 (by decide) (fun h30 => ?_) (fun h30 => ?_)
      · refine lv_iconst (v := 1) hx hb dZ_law_799 (by decide) ?_
        refine va_forget (fun q hq => by obtain ⟨j, _, e⟩ := hS.2.2 q hq; rw [e]; exact had j) ?_
        refine W.widen (k := 601024) (n := 7293034) (by omega) (by omega) ?_
        exact lw_ret hx hb hr hlk dZ_law_800
      · exact absurd (Int32.lt_of_lt_of_le (lw_neg9 L (by omega)) (nI_pos' (by omega))) h30
  | succ n ih =>
    intro i σ τ ρ μ lt pl o H locs ls hn hR hmv hV hS hl
    refine lv_iload hx hb dZ_law_23 (lv_at hl 0 rfl) ?_
    refine lv_aload_n hx hb dZ_law_25 rfl (lv_at hl 1 rfl) ?_
    refine va_slen hx hb hX hbl hbA hS dZ_law_26 ?_
    refine gx_top (y := nI L) rfl ?_
    refine lv_bipush (v := nI 9) hx hb dZ_law_27 (by decide) ?_
    by_cases hL9 : 9 ≤ L
    · refine gx_isub (a := L) (b := 9) hx hb dZ_law_29 hL9 ?_
      refine gx_icmp_gt (a := 9 * i) (b := L - 9) (tgt := 799) hx hb dZ_law_30 (by decide) (by omega) (by omega) (fun h30 => ?_) (fun h30 => ?_)
      · refine lv_iconst (v := 1) hx hb dZ_law_799 (by decide) ?_
        refine va_forget (fun q hq => by obtain ⟨j, _, e⟩ := hS.2.2 q hq; rw [e]; exact had j) ?_
        refine W.widen (k := 601024) (n := 7293034) (by omega) (by omega) ?_
        exact lw_ret hx hb hr hlk dZ_law_800
      · have hi : 9 * i + 9 ≤ L := by omega
        have kk : lw_K pg l ev s mid below mth c b D K ad (lw_Z below #[Value.ref b] s) (88 + i) (1888 + 6 * i) i := by
          intro σ τ ρ μ lt pl o H locs ls hR hmv hV hS hl
          refine lv_iinc (k := 0) (v := nI (9 * (i + 1))) (lv' := [(4, .int (nI (9 * (i + 1)))), (0, .ref b), (1, .ref (ad 0)), (2, .ref (ad 70)), (3, .ref (ad 87))]) hx hb dZ_law_793 hl rfl (show nI (9 * i) + nI 9 = nI (9 * (i + 1)) by rw [nI_add, Nat.mul_succ]) (by decide) rfl (fun ls hl => ?_)
          refine lv_goto (tgt := 23) hx hb dZ_law_796 (by decide) ?_
          refine W.widen (k := 88 + (i + 1)) (n := 1888 + 6 * (i + 1)) (by omega) (by omega) ?_
          exact ih (i + 1) σ τ ρ μ lt pl o H locs ls (by omega) hR hmv hV hS hl
        refine lv_aload_n hx hb dZ_law_33 rfl (lv_at hl 1 rfl) ?_
        refine lv_iload hx hb dZ_law_34 (lv_at hl 0 rfl) ?_
        refine va_sld hx hb hX hbl hbA hS (gx_ia (k := 9 * i) (n := L) (by omega) (by omega) rfl).1 dZ_law_36 ?_
        refine gx_top (y := xs (9 * i)) (congrArg xs (gx_ia (k := 9 * i) (n := L) (by omega) (by omega) rfl).2) ?_
        refine lv_bipush (v := nI 15) hx hb dZ_law_37 (by decide) ?_
        refine lv_iand hx hb dZ_law_39 ?_
        have hcs : 88 + i + 1 ≤ 601024 ∧ 1888 + 6 * i + 6 ≤ 7293034 := by omega
        rcases lw_sw (xs (9 * i) &&& nI 15) with h9 | h9 | h9 | h9 | h9 | h9 | h9 | h9 | h9 | h9 | h9 | h9
        · refine gx_top (y := nI 0) h9 ?_
          refine lv_tableIn (off := 60) (tgt := 100) hx hb dZ_law_40 (by decide) (by decide) rfl (by decide) ?_
          exact lw_case0 hlt hx hb hml hown ht hX hbl hbA hZ hcs hi hL hR hmv hV hS hl kk
        · refine gx_top (y := nI 1) h9 ?_
          refine lv_tableIn (off := 226) (tgt := 266) hx hb dZ_law_40 (by decide) (by decide) rfl (by decide) ?_
          exact lw_case1 hlt hx hb hml hown ht hX hbl hbA hZ hcs hi hL hR hmv hV hS hl kk
        · refine gx_top (y := nI 2) h9 ?_
          refine lv_tableIn (off := 317) (tgt := 357) hx hb dZ_law_40 (by decide) (by decide) rfl (by decide) ?_
          exact lw_case2 hlt hx hb hml hown ht hX hbl hbA hZ hcs hi hL hR hmv hV hS hl kk
        · refine gx_top (y := nI 3) h9 ?_
          refine lv_tableIn (off := 373) (tgt := 413) hx hb dZ_law_40 (by decide) (by decide) rfl (by decide) ?_
          exact lw_case3 hlt hx hb hml hown ht hX hbl hbA hZ hcs hi hL hR hmv hV hS hl kk
        · refine gx_top (y := nI 4) h9 ?_
          refine lv_tableIn (off := 429) (tgt := 469) hx hb dZ_law_40 (by decide) (by decide) rfl (by decide) ?_
          exact lw_case4 hlt hx hb hml hown ht hX hbl hbA hZ hcs hi hL hR hmv hV hS hl kk
        · refine gx_top (y := nI 5) h9 ?_
          refine lv_tableIn (off := 443) (tgt := 483) hx hb dZ_law_40 (by decide) (by decide) rfl (by decide) ?_
          exact lw_case5 hlt hx hb hml hown ht hX hbl hbA hZ hcs hi hL hR hmv hV hS hl kk
        · refine gx_top (y := nI 6) h9 ?_
          refine lv_tableIn (off := 511) (tgt := 551) hx hb dZ_law_40 (by decide) (by decide) rfl (by decide) ?_
          exact lw_case6 hlt hx hb hml hown ht hX hbl hbA hZ hcs hi hL hR hmv hV hS hl kk
        · refine gx_top (y := nI 7) h9 ?_
          refine lv_tableIn (off := 579) (tgt := 619) hx hb dZ_law_40 (by decide) (by decide) rfl (by decide) ?_
          exact lw_case7 hlt hx hb hml hown ht hX hbl hbA hZ hcs hi hL hR hmv hV hS hl kk
        · refine gx_top (y := nI 8) h9 ?_
          refine lv_tableIn (off := 647) (tgt := 687) hx hb dZ_law_40 (by decide) (by decide) rfl (by decide) ?_
          exact lw_case8 hlt hx hb hml hown ht hX hbl hbA hZ hcs hi hL hR hmv hV hS hl kk
        · refine gx_top (y := nI 9) h9 ?_
          refine lv_tableIn (off := 703) (tgt := 743) hx hb dZ_law_40 (by decide) (by decide) rfl (by decide) ?_
          exact lw_case9 hlt hx hb hml hown ht hX hbl hbA hZ hcs hi hL hR hmv hV hS hl kk
        · refine gx_top (y := nI 10) h9 ?_
          refine lv_tableIn (off := 728) (tgt := 768) hx hb dZ_law_40 (by decide) (by decide) rfl (by decide) ?_
          exact lw_case10 hlt hx hb hml hown ht hX hbl hbA hZ hcs hi hL hR hmv hV hS hl kk
        · refine lv_tableOut (tgt := 793) hx hb dZ_law_40 h9 (by decide) ?_
          refine W.widen (k := 88 + i + 1) (n := 1888 + 6 * i + 6) (by omega) (by omega) ?_
          exact kk σ τ ρ μ lt pl o H locs ls hR (by omega) hV hS hl
    · refine lv_isub hx hb dZ_law_29 ?_
      refine lv_icmp_gt (tgt := 799) hx hb dZ_law_30 (by decide) (fun h30 => ?_) (fun h30 => ?_)
      · refine lv_iconst (v := 1) hx hb dZ_law_799 (by decide) ?_
        refine va_forget (fun q hq => by obtain ⟨j, _, e⟩ := hS.2.2 q hq; rw [e]; exact had j) ?_
        refine W.widen (k := 601024) (n := 7293034) (by omega) (by omega) ?_
        exact lw_ret hx hb hr hlk dZ_law_800
      · exact absurd (Int32.lt_of_lt_of_le (lw_neg9 L (by omega)) (nI_pos' (by omega))) h30
