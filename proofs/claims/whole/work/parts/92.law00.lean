set_option maxHeartbeats 4000000 in
set_option maxRecDepth 100000 in
theorem lw_case0 {pg : Program} {l : Launch} {ev : Env} {s : State} {mid : MethodId} {below : List Frame} {mth : Method} {c : Code} {b L : Nat} {xs : Nat → Int32} {D : va_G} {K : Nat → ClassId} {ad : Nat → Nat} {Q : State → Prop} {cells slots i : Nat} {σ : Nat → Nat → Int32} {τ : Nat → Nat → Int64} {ρ : Nat → Nat → Nat} {μ : Nat → Int64} {lt : Int64} {pl : Nat → Nat → List Nat} {o : Nat → Int64} {H : Heap} {locs : List Loc} {ls : Array Slot} (hlt : l.stackTraces = false) (hx : pg.tables.exec = Jvm.exec) (hb : c.code = code) (hml : c.maxLocals = 7) (hown : s.vm.findClass "MessageCrossbarLaw" = some mid.cls) (ht : ∀ w ∈ mx_T, w.before #[Value.ref b] s = true) (hX : va_X b L xs s s.heap) (hbl : b < s.heap.size) (hbA : ¬ gx_A ad 88 b) (hZ : lz_Z (gx_A ad 88) s s.heap) (hcs : cells + 1 ≤ 601024 ∧ slots + 6 ≤ 7293034) (hi : 9 * i + 9 ≤ L) (hL : L ≤ 4608) (hR : rr_R σ τ ρ μ lt pl) (hmv : ρ 0 1 ≤ 160064 * i) (hV : lz_V D K ad σ τ ρ μ lt o s H) (hS : va_S (gx_A ad 88) s.heap H locs) (hl : lv_has ls 7 [(4, .int (nI (9 * i))), (0, .ref b), (1, .ref (ad 0)), (2, .ref (ad 70)), (3, .ref (ad 87))]) (kk : lw_K pg l ev s mid below mth c b D K ad Q cells slots i) : W pg l ev room_1 s mid #[Value.ref b] below mth c H locs cells slots Q (F0 mid 100 ls []) := by
  have hR0 : rr_R σ τ (mq_up ρ 0 0 0) μ lt pl := hR
  by_cases hbad : (0 ≤ (xs (9 * i + 1)) ∧ (xs (9 * i + 1)) < nI 3) ∧ (0 ≤ (xs (9 * i + 2)) ∧ (xs (9 * i + 2)) < nI 8) ∧ (0 ≤ (xs (9 * i + 3)) ∧ (xs (9 * i + 3)) < nI 3) ∧ (0 ≤ (xs (9 * i + 4)) ∧ (xs (9 * i + 4)) < nI 4) ∧ (0 ≤ (xs (9 * i + 5)) ∧ (xs (9 * i + 5)) < nI 1024) ∧ (0 ≤ (xs (9 * i + 8)) ∧ (xs (9 * i + 8)) < nI 256)
  · obtain ⟨m, hm, e1⟩ := (lw_in (xs (9 * i + 1)) (n := 3) (by decide)).resolve_right (fun z => z hbad.1)
    obtain ⟨q, hq8, e2⟩ := (lw_in (xs (9 * i + 2)) (n := 8) (by decide)).resolve_right (fun z => z hbad.2.1)
    obtain ⟨so, hso, e3⟩ := (lw_in (xs (9 * i + 3)) (n := 3) (by decide)).resolve_right (fun z => z hbad.2.2.1)
    obtain ⟨z, hz, e4⟩ := (lw_in (xs (9 * i + 4)) (n := 4) (by decide)).resolve_right (fun z => z hbad.2.2.2.1)
    obtain ⟨a, ha, e5⟩ := (lw_in (xs (9 * i + 5)) (n := 1024) (by decide)).resolve_right (fun z => z hbad.2.2.2.2.1)
    obtain ⟨mk, hmk, e8⟩ := (lw_in (xs (9 * i + 8)) (n := 256) (by decide)).resolve_right (fun z => z hbad.2.2.2.2.2)
    by_cases hal : a % 2 ^ z = 0
    · refine lv_aload_n hx hb dZ_law_100 rfl (lv_at hl 2 rfl) ?_
      refine lv_aload_n hx hb dZ_law_101 rfl (lv_at hl 1 rfl) ?_
      refine lv_iload hx hb dZ_law_102 (lv_at hl 0 rfl) ?_
      refine lv_iconst (v := nI 1) hx hb dZ_law_104 (by decide) ?_
      refine gx_iadd (a := (9 * i)) (b := 1) hx hb dZ_law_105 ?_
      refine va_sld hx hb hX hbl hbA hS (gx_ia (k := 9 * i + 1) (n := L) (by omega) (by omega) rfl).1 dZ_law_106 ?_
      refine gx_top (y := nI m) ((congrArg xs (gx_ia (k := 9 * i + 1) (n := L) (by omega) (by omega) rfl).2).trans e1) ?_
      refine lv_aload_n hx hb dZ_law_107 rfl (lv_at hl 1 rfl) ?_
      refine lv_iload hx hb dZ_law_108 (lv_at hl 0 rfl) ?_
      refine lv_iconst (v := nI 2) hx hb dZ_law_110 (by decide) ?_
      refine gx_iadd (a := (9 * i)) (b := 2) hx hb dZ_law_111 ?_
      refine va_sld hx hb hX hbl hbA hS (gx_ia (k := 9 * i + 2) (n := L) (by omega) (by omega) rfl).1 dZ_law_112 ?_
      refine gx_top (y := nI q) ((congrArg xs (gx_ia (k := 9 * i + 2) (n := L) (by omega) (by omega) rfl).2).trans e2) ?_
      refine lv_aload_n hx hb dZ_law_113 rfl (lv_at hl 1 rfl) ?_
      refine lv_iload hx hb dZ_law_114 (lv_at hl 0 rfl) ?_
      refine lv_iconst (v := nI 3) hx hb dZ_law_116 (by decide) ?_
      refine gx_iadd (a := (9 * i)) (b := 3) hx hb dZ_law_117 ?_
      refine va_sld hx hb hX hbl hbA hS (gx_ia (k := 9 * i + 3) (n := L) (by omega) (by omega) rfl).1 dZ_law_118 ?_
      refine gx_top (y := nI so) ((congrArg xs (gx_ia (k := 9 * i + 3) (n := L) (by omega) (by omega) rfl).2).trans e3) ?_
      refine lv_aload_n hx hb dZ_law_119 rfl (lv_at hl 1 rfl) ?_
      refine lv_iload hx hb dZ_law_120 (lv_at hl 0 rfl) ?_
      refine lv_iconst (v := nI 4) hx hb dZ_law_122 (by decide) ?_
      refine gx_iadd (a := (9 * i)) (b := 4) hx hb dZ_law_123 ?_
      refine va_sld hx hb hX hbl hbA hS (gx_ia (k := 9 * i + 4) (n := L) (by omega) (by omega) rfl).1 dZ_law_124 ?_
      refine gx_top (y := nI z) ((congrArg xs (gx_ia (k := 9 * i + 4) (n := L) (by omega) (by omega) rfl).2).trans e4) ?_
      refine lv_aload_n hx hb dZ_law_125 rfl (lv_at hl 1 rfl) ?_
      refine lv_iload hx hb dZ_law_126 (lv_at hl 0 rfl) ?_
      refine lv_iconst (v := nI 5) hx hb dZ_law_128 (by decide) ?_
      refine gx_iadd (a := (9 * i)) (b := 5) hx hb dZ_law_129 ?_
      refine va_sld hx hb hX hbl hbA hS (gx_ia (k := 9 * i + 5) (n := L) (by omega) (by omega) rfl).1 dZ_law_130 ?_
      refine gx_top (y := nI a) ((congrArg xs (gx_ia (k := 9 * i + 5) (n := L) (by omega) (by omega) rfl).2).trans e5) ?_
      refine lv_aload_n hx hb dZ_law_131 rfl (lv_at hl 1 rfl) ?_
      refine lv_iload hx hb dZ_law_132 (lv_at hl 0 rfl) ?_
      refine lv_bipush (v := nI 6) hx hb dZ_law_134 (by decide) ?_
      refine gx_iadd (a := (9 * i)) (b := 6) hx hb dZ_law_136 ?_
      refine va_sld hx hb hX hbl hbA hS (gx_ia (k := 9 * i + 6) (n := L) (by omega) (by omega) rfl).1 dZ_law_137 ?_
      refine gx_top (y := xs (9 * i + 6)) (congrArg xs (gx_ia (k := 9 * i + 6) (n := L) (by omega) (by omega) rfl).2) ?_
      refine lv_i2l hx hb dZ_law_138 rfl ?_
      refine lv_bipush (v := nI 32) hx hb dZ_law_139 (by decide) ?_
      refine lv_lshl hx hb dZ_law_141 rfl ?_
      refine lv_aload_n hx hb dZ_law_142 rfl (lv_at hl 1 rfl) ?_
      refine lv_iload hx hb dZ_law_143 (lv_at hl 0 rfl) ?_
      refine lv_bipush (v := nI 7) hx hb dZ_law_145 (by decide) ?_
      refine gx_iadd (a := (9 * i)) (b := 7) hx hb dZ_law_147 ?_
      refine va_sld hx hb hX hbl hbA hS (gx_ia (k := 9 * i + 7) (n := L) (by omega) (by omega) rfl).1 dZ_law_148 ?_
      refine gx_top (y := xs (9 * i + 7)) (congrArg xs (gx_ia (k := 9 * i + 7) (n := L) (by omega) (by omega) rfl).2) ?_
      refine lv_i2l hx hb dZ_law_149 rfl ?_
      refine lv_ldc2 (v := 4294967295) hx hb hown (ht _ mw_636) dZ_law_150 ?_
      refine lv_land hx hb dZ_law_153 ?_
      refine lv_lor hx hb dZ_law_154 ?_
      refine lv_aload_n hx hb dZ_law_155 rfl (lv_at hl 1 rfl) ?_
      refine lv_iload hx hb dZ_law_156 (lv_at hl 0 rfl) ?_
      refine lv_bipush (v := nI 8) hx hb dZ_law_158 (by decide) ?_
      refine gx_iadd (a := (9 * i)) (b := 8) hx hb dZ_law_160 ?_
      refine va_sld hx hb hX hbl hbA hS (gx_ia (k := 9 * i + 8) (n := L) (by omega) (by omega) rfl).1 dZ_law_161 ?_
      refine gx_top (y := nI mk) ((congrArg xs (gx_ia (k := 9 * i + 8) (n := L) (by omega) (by omega) rfl).2).trans e8) ?_
      refine lv_aload_n hx hb dZ_law_162 rfl (lv_at hl 4 rfl) ?_
      refine lz_calliH (vx_runSW (As := [.ref (ad 0), .int (nI m), .int (nI q), .int (nI so), .int (nI z), .int (nI a), .long ((((xs (9 * i + 6))).toInt64 <<< (((nI 32)).toInt64 &&& 63)) ||| (((xs (9 * i + 7))).toInt64 &&& 4294967295)), .int (nI mk), .ref (ad 87)]) (rest := []) ⟨hx, hb, hml, hown, ht⟩ (z_request l hm hq8 hso hz ha hal hmk hR0) (vx_cwSW 9 ht (mx_gW mw_170 mw_171 mw_0 mw_172) rfl rfl rfl (by decide +kernel) ⟨(Nat.le_of_ble_eq_true rfl), (Nat.le_of_ble_eq_true rfl)⟩) (gx_preS lz_ok hV hZ hS [.ref (ad 0), .int (nI m), .int (nI q), .int (nI so), .int (nI z), .int (nI a), .long ((((xs (9 * i + 6))).toInt64 <<< (((nI 32)).toInt64 &&& 63)) ||| (((xs (9 * i + 7))).toInt64 &&& 4294967295)), .int (nI mk), .ref (ad 87)]) rfl rfl hl.1 rfl (lv_room (Nat.le_of_ble_eq_true rfl)) dZ_law_163 ⟨by show cells + 1 ≤ 601024; omega, by show slots + 6 ≤ 7293034; omega⟩) hV hS (fun r0 σ1 τ1 H locs hp hV hS => ?_)
      obtain ⟨rfl, r, σ', τ', o', ho, hP, hu⟩ := hp
      cases hu
      refine lv_istore (lv' := [(5, .int (nI 0)), (4, .int (nI (9 * i))), (0, .ref b), (1, .ref (ad 0)), (2, .ref (ad 70)), (3, .ref (ad 87))]) hx hb dZ_law_166 hl (by decide) rfl (fun ls hl => ?_)
      refine lv_aload_n hx hb dZ_law_168 rfl (lv_at hl 4 rfl) ?_
      refine lv_aload_n hx hb dZ_law_169 rfl (lv_at hl 2 rfl) ?_
      refine lv_iload hx hb dZ_law_170 (lv_at hl 1 rfl) ?_
      refine lv_iconst (v := nI 1) hx hb dZ_law_172 (by decide) ?_
      refine gx_iadd (a := (9 * i)) (b := 1) hx hb dZ_law_173 ?_
      refine va_sld hx hb hX hbl hbA hS (gx_ia (k := 9 * i + 1) (n := L) (by omega) (by omega) rfl).1 dZ_law_174 ?_
      refine gx_top (y := nI m) ((congrArg xs (gx_ia (k := 9 * i + 1) (n := L) (by omega) (by omega) rfl).2).trans e1) ?_
      refine lv_aload_n hx hb dZ_law_175 rfl (lv_at hl 2 rfl) ?_
      refine lv_iload hx hb dZ_law_176 (lv_at hl 1 rfl) ?_
      refine lv_iconst (v := nI 2) hx hb dZ_law_178 (by decide) ?_
      refine gx_iadd (a := (9 * i)) (b := 2) hx hb dZ_law_179 ?_
      refine va_sld hx hb hX hbl hbA hS (gx_ia (k := 9 * i + 2) (n := L) (by omega) (by omega) rfl).1 dZ_law_180 ?_
      refine gx_top (y := nI q) ((congrArg xs (gx_ia (k := 9 * i + 2) (n := L) (by omega) (by omega) rfl).2).trans e2) ?_
      refine lv_aload_n hx hb dZ_law_181 rfl (lv_at hl 2 rfl) ?_
      refine lv_iload hx hb dZ_law_182 (lv_at hl 1 rfl) ?_
      refine lv_iconst (v := nI 3) hx hb dZ_law_184 (by decide) ?_
      refine gx_iadd (a := (9 * i)) (b := 3) hx hb dZ_law_185 ?_
      refine va_sld hx hb hX hbl hbA hS (gx_ia (k := 9 * i + 3) (n := L) (by omega) (by omega) rfl).1 dZ_law_186 ?_
      refine gx_top (y := nI so) ((congrArg xs (gx_ia (k := 9 * i + 3) (n := L) (by omega) (by omega) rfl).2).trans e3) ?_
      refine lv_aload_n hx hb dZ_law_187 rfl (lv_at hl 2 rfl) ?_
      refine lv_iload hx hb dZ_law_188 (lv_at hl 1 rfl) ?_
      refine lv_iconst (v := nI 4) hx hb dZ_law_190 (by decide) ?_
      refine gx_iadd (a := (9 * i)) (b := 4) hx hb dZ_law_191 ?_
      refine va_sld hx hb hX hbl hbA hS (gx_ia (k := 9 * i + 4) (n := L) (by omega) (by omega) rfl).1 dZ_law_192 ?_
      refine gx_top (y := nI z) ((congrArg xs (gx_ia (k := 9 * i + 4) (n := L) (by omega) (by omega) rfl).2).trans e4) ?_
      refine lv_aload_n hx hb dZ_law_193 rfl (lv_at hl 2 rfl) ?_
      refine lv_iload hx hb dZ_law_194 (lv_at hl 1 rfl) ?_
      refine lv_iconst (v := nI 5) hx hb dZ_law_196 (by decide) ?_
      refine gx_iadd (a := (9 * i)) (b := 5) hx hb dZ_law_197 ?_
      refine va_sld hx hb hX hbl hbA hS (gx_ia (k := 9 * i + 5) (n := L) (by omega) (by omega) rfl).1 dZ_law_198 ?_
      refine gx_top (y := nI a) ((congrArg xs (gx_ia (k := 9 * i + 5) (n := L) (by omega) (by omega) rfl).2).trans e5) ?_
      refine lv_aload_n hx hb dZ_law_199 rfl (lv_at hl 2 rfl) ?_
      refine lv_iload hx hb dZ_law_200 (lv_at hl 1 rfl) ?_
      refine lv_bipush (v := nI 6) hx hb dZ_law_202 (by decide) ?_
      refine gx_iadd (a := (9 * i)) (b := 6) hx hb dZ_law_204 ?_
      refine va_sld hx hb hX hbl hbA hS (gx_ia (k := 9 * i + 6) (n := L) (by omega) (by omega) rfl).1 dZ_law_205 ?_
      refine gx_top (y := xs (9 * i + 6)) (congrArg xs (gx_ia (k := 9 * i + 6) (n := L) (by omega) (by omega) rfl).2) ?_
      refine lv_i2l hx hb dZ_law_206 rfl ?_
      refine lv_bipush (v := nI 32) hx hb dZ_law_207 (by decide) ?_
      refine lv_lshl hx hb dZ_law_209 rfl ?_
      refine lv_aload_n hx hb dZ_law_210 rfl (lv_at hl 2 rfl) ?_
      refine lv_iload hx hb dZ_law_211 (lv_at hl 1 rfl) ?_
      refine lv_bipush (v := nI 7) hx hb dZ_law_213 (by decide) ?_
      refine gx_iadd (a := (9 * i)) (b := 7) hx hb dZ_law_215 ?_
      refine va_sld hx hb hX hbl hbA hS (gx_ia (k := 9 * i + 7) (n := L) (by omega) (by omega) rfl).1 dZ_law_216 ?_
      refine gx_top (y := xs (9 * i + 7)) (congrArg xs (gx_ia (k := 9 * i + 7) (n := L) (by omega) (by omega) rfl).2) ?_
      refine lv_i2l hx hb dZ_law_217 rfl ?_
      refine lv_ldc2 (v := 4294967295) hx hb hown (ht _ mw_636) dZ_law_218 ?_
      refine lv_land hx hb dZ_law_221 ?_
      refine lv_lor hx hb dZ_law_222 ?_
      refine lv_aload_n hx hb dZ_law_223 rfl (lv_at hl 2 rfl) ?_
      refine lv_iload hx hb dZ_law_224 (lv_at hl 1 rfl) ?_
      refine lv_bipush (v := nI 8) hx hb dZ_law_226 (by decide) ?_
      refine gx_iadd (a := (9 * i)) (b := 8) hx hb dZ_law_228 ?_
      refine va_sld hx hb hX hbl hbA hS (gx_ia (k := 9 * i + 8) (n := L) (by omega) (by omega) rfl).1 dZ_law_229 ?_
      refine gx_top (y := nI mk) ((congrArg xs (gx_ia (k := 9 * i + 8) (n := L) (by omega) (by omega) rfl).2).trans e8) ?_
      refine lz_calliR (va_runV (As := [.int (nI m), .int (nI q), .int (nI so), .int (nI z), .int (nI a), .long ((((xs (9 * i + 6))).toInt64 <<< (((nI 32)).toInt64 &&& 63)) ||| (((xs (9 * i + 7))).toInt64 &&& 4294967295)), .int (nI mk)]) (rest := []) ⟨hx, hb, hml, hown, ht⟩ (k_R_request l (ad := fun i => ad (i + 70)) (ρ := ρ) (μ := μ) (lt := lt) hm hq8 hso hz ha hal hmk hR (show ρ 0 1 + 16 < 2 ^ 31 by omega)) (cwV 7 ht (mx_gV (C := "MessageCrossbarModel") mw_539 mw_540 mw_541 mw_6 mw_542) rfl rfl rfl (by decide +kernel) ⟨(Nat.le_of_ble_eq_true rfl), (Nat.le_of_ble_eq_true rfl)⟩) (lz_preR hV [.int (nI m), .int (nI q), .int (nI so), .int (nI z), .int (nI a), .long ((((xs (9 * i + 6))).toInt64 <<< (((nI 32)).toInt64 &&& 63)) ||| (((xs (9 * i + 7))).toInt64 &&& 4294967295)), .int (nI mk)]) rfl rfl hl.1 rfl (lv_room (Nat.le_of_ble_eq_true rfl)) dZ_law_230 ⟨by show cells + 1 + 0 ≤ 601024; omega, by show slots + 6 + 0 ≤ 7293034; omega⟩) hV hS (fun rb u H locs hq hVf hS => ?_)
      have key : ∃ (ρ' : Nat → Nat → Nat) (μ' : Nat → Int64) (lt' : Int64) (pl' : Nat → Nat → List Nat), rb = r ∧ u = (mq_n ρ', rx_t μ' lt') ∧ rr_R σ' τ' ρ' μ' lt' pl' ∧ ρ' 0 1 ≤ 160064 * (i + 1) ∧ ρ' 0 0 = 0 := by
        by_cases hc : ρ 1 (8 * m + q) ≠ 0 ∨ 8 ≤ (pl 1 m).length
        · obtain ⟨h1, h2⟩ := hP.1 hc
          obtain ⟨h3, h4⟩ := hq.1 hc
          cases h2
          exact ⟨mq_up ρ 0 0 0, μ, lt, pl, h3.trans h1.symm, h4, hR, (show ρ 0 1 ≤ _ by omega), rfl⟩
        · have c1 : ρ 1 (8 * m + q) = 0 := Classical.byContradiction fun z => hc (Or.inl z)
          have c2 : (pl 1 m).length < 8 := Nat.lt_of_not_le fun z => hc (Or.inr z)
          obtain ⟨h1, h2⟩ := hP.2 c1 c2
          obtain ⟨h3, h4⟩ := hq.2 c1 c2
          exact ⟨_, _, _, _, h3.trans h1.symm, h4, h2, (by rw [mq_rq_01]; show ρ 0 1 + 1 ≤ _; omega), (by rw [mq_rq_00]; rfl)⟩
      obtain ⟨ρ', μ', lt', pl', hrb, hu, hR', hm', h00⟩ := key
      have hV := hVf _ _ _ hu
      refine gx_top (y := r) hrb ?_
      refine lv_istore (lv' := [(6, .int r), (5, .int (nI 0)), (4, .int (nI (9 * i))), (0, .ref b), (1, .ref (ad 0)), (2, .ref (ad 70)), (3, .ref (ad 87))]) hx hb dZ_law_233 hl (by decide) rfl (fun ls hl => ?_)
      refine lv_aload_n hx hb dZ_law_235 rfl (lv_at hl 5 rfl) ?_
      refine lz_calliR (va_runV (As := []) (rest := []) ⟨hx, hb, hml, hown, ht⟩ (k_R_thrown l (ad := fun i => ad (i + 70))) (cwV 0 ht (mx_gV (C := "MessageCrossbarModel") mw_535 mw_536 mw_537 mw_6 mw_538) rfl rfl rfl (by decide +kernel) ⟨(Nat.le_of_ble_eq_true rfl), (Nat.le_of_ble_eq_true rfl)⟩) (lz_preR hV []) rfl rfl hl.1 rfl (lv_room (Nat.le_of_ble_eq_true rfl)) dZ_law_236 ⟨by show cells + 1 + 0 ≤ 601024; omega, by show slots + 6 + 0 ≤ 7293034; omega⟩) hV hS (fun rt ut H locs hqt hVf2 hS => ?_)
      obtain ⟨hq1, hu2⟩ := hqt
      have hV := hVf2 _ _ _ hu2
      refine gx_top (y := nI 0) (by rw [hq1, h00]) ?_
      refine lv_iload hx hb dZ_law_239 (lv_at hl 1 rfl) ?_
      refine gx_icmp_eq (a := 0) (b := 0) (tgt := 246) hx hb dZ_law_241 (by decide) (by omega) (by omega) (fun h241 => ?_) (fun h241 => ?_)
      · refine lv_iload hx hb dZ_law_246 (lv_at hl 1 rfl) ?_
        refine gx_if_ne (a := 0) (tgt := 263) hx hb dZ_law_248 (by decide) (by omega) (fun h248 => ?_) (fun h248 => ?_)
        · exact absurd rfl h248
        · refine lv_aload_n hx hb dZ_law_251 rfl (lv_at hl 6 rfl) ?_
          refine lv_iconst (v := nI 0) hx hb dZ_law_252 (by decide) ?_
          refine gx_lald hx hb hV (j := 87) (by omega) 3 lz_eO rfl 0 (by omega) (by decide) rfl dZ_law_253 ?_
          refine gx_topl (y := (r.toInt64)) ho ?_
          refine lv_iload hx hb dZ_law_254 (lv_at hl 0 rfl) ?_
          refine lv_i2l hx hb dZ_law_256 rfl ?_
          refine W.lcmp hx hb dZ_law_257 ?_
          refine gx_top (y := nI 0) lw_cmp ?_
          refine gx_if_eq (a := 0) (tgt := 263) hx hb dZ_law_258 (by decide) (by omega) (fun h258 => ?_) (fun h258 => ?_)
          · refine lv_goto (tgt := 793) hx hb dZ_law_263 (by decide) ?_
            refine W.widen (k := cells + 1) (n := slots + 6) (by omega) (by omega) ?_
            exact kk σ' τ' ρ' μ' lt' pl' o' H locs ls hR' hm' hV hS (lv_sub hl [2, 3, 4, 5, 6] rfl)
          · exact absurd rfl h258
      · exact absurd rfl h241
    · refine lv_aload_n hx hb dZ_law_100 rfl (lv_at hl 2 rfl) ?_
      refine lv_aload_n hx hb dZ_law_101 rfl (lv_at hl 1 rfl) ?_
      refine lv_iload hx hb dZ_law_102 (lv_at hl 0 rfl) ?_
      refine lv_iconst (v := nI 1) hx hb dZ_law_104 (by decide) ?_
      refine gx_iadd (a := (9 * i)) (b := 1) hx hb dZ_law_105 ?_
      refine va_sld hx hb hX hbl hbA hS (gx_ia (k := 9 * i + 1) (n := L) (by omega) (by omega) rfl).1 dZ_law_106 ?_
      refine gx_top (y := nI m) ((congrArg xs (gx_ia (k := 9 * i + 1) (n := L) (by omega) (by omega) rfl).2).trans e1) ?_
      refine lv_aload_n hx hb dZ_law_107 rfl (lv_at hl 1 rfl) ?_
      refine lv_iload hx hb dZ_law_108 (lv_at hl 0 rfl) ?_
      refine lv_iconst (v := nI 2) hx hb dZ_law_110 (by decide) ?_
      refine gx_iadd (a := (9 * i)) (b := 2) hx hb dZ_law_111 ?_
      refine va_sld hx hb hX hbl hbA hS (gx_ia (k := 9 * i + 2) (n := L) (by omega) (by omega) rfl).1 dZ_law_112 ?_
      refine gx_top (y := nI q) ((congrArg xs (gx_ia (k := 9 * i + 2) (n := L) (by omega) (by omega) rfl).2).trans e2) ?_
      refine lv_aload_n hx hb dZ_law_113 rfl (lv_at hl 1 rfl) ?_
      refine lv_iload hx hb dZ_law_114 (lv_at hl 0 rfl) ?_
      refine lv_iconst (v := nI 3) hx hb dZ_law_116 (by decide) ?_
      refine gx_iadd (a := (9 * i)) (b := 3) hx hb dZ_law_117 ?_
      refine va_sld hx hb hX hbl hbA hS (gx_ia (k := 9 * i + 3) (n := L) (by omega) (by omega) rfl).1 dZ_law_118 ?_
      refine gx_top (y := nI so) ((congrArg xs (gx_ia (k := 9 * i + 3) (n := L) (by omega) (by omega) rfl).2).trans e3) ?_
      refine lv_aload_n hx hb dZ_law_119 rfl (lv_at hl 1 rfl) ?_
      refine lv_iload hx hb dZ_law_120 (lv_at hl 0 rfl) ?_
      refine lv_iconst (v := nI 4) hx hb dZ_law_122 (by decide) ?_
      refine gx_iadd (a := (9 * i)) (b := 4) hx hb dZ_law_123 ?_
      refine va_sld hx hb hX hbl hbA hS (gx_ia (k := 9 * i + 4) (n := L) (by omega) (by omega) rfl).1 dZ_law_124 ?_
      refine gx_top (y := nI z) ((congrArg xs (gx_ia (k := 9 * i + 4) (n := L) (by omega) (by omega) rfl).2).trans e4) ?_
      refine lv_aload_n hx hb dZ_law_125 rfl (lv_at hl 1 rfl) ?_
      refine lv_iload hx hb dZ_law_126 (lv_at hl 0 rfl) ?_
      refine lv_iconst (v := nI 5) hx hb dZ_law_128 (by decide) ?_
      refine gx_iadd (a := (9 * i)) (b := 5) hx hb dZ_law_129 ?_
      refine va_sld hx hb hX hbl hbA hS (gx_ia (k := 9 * i + 5) (n := L) (by omega) (by omega) rfl).1 dZ_law_130 ?_
      refine gx_top (y := nI a) ((congrArg xs (gx_ia (k := 9 * i + 5) (n := L) (by omega) (by omega) rfl).2).trans e5) ?_
      refine lv_aload_n hx hb dZ_law_131 rfl (lv_at hl 1 rfl) ?_
      refine lv_iload hx hb dZ_law_132 (lv_at hl 0 rfl) ?_
      refine lv_bipush (v := nI 6) hx hb dZ_law_134 (by decide) ?_
      refine gx_iadd (a := (9 * i)) (b := 6) hx hb dZ_law_136 ?_
      refine va_sld hx hb hX hbl hbA hS (gx_ia (k := 9 * i + 6) (n := L) (by omega) (by omega) rfl).1 dZ_law_137 ?_
      refine gx_top (y := xs (9 * i + 6)) (congrArg xs (gx_ia (k := 9 * i + 6) (n := L) (by omega) (by omega) rfl).2) ?_
      refine lv_i2l hx hb dZ_law_138 rfl ?_
      refine lv_bipush (v := nI 32) hx hb dZ_law_139 (by decide) ?_
      refine lv_lshl hx hb dZ_law_141 rfl ?_
      refine lv_aload_n hx hb dZ_law_142 rfl (lv_at hl 1 rfl) ?_
      refine lv_iload hx hb dZ_law_143 (lv_at hl 0 rfl) ?_
      refine lv_bipush (v := nI 7) hx hb dZ_law_145 (by decide) ?_
      refine gx_iadd (a := (9 * i)) (b := 7) hx hb dZ_law_147 ?_
      refine va_sld hx hb hX hbl hbA hS (gx_ia (k := 9 * i + 7) (n := L) (by omega) (by omega) rfl).1 dZ_law_148 ?_
      refine gx_top (y := xs (9 * i + 7)) (congrArg xs (gx_ia (k := 9 * i + 7) (n := L) (by omega) (by omega) rfl).2) ?_
      refine lv_i2l hx hb dZ_law_149 rfl ?_
      refine lv_ldc2 (v := 4294967295) hx hb hown (ht _ mw_636) dZ_law_150 ?_
      refine lv_land hx hb dZ_law_153 ?_
      refine lv_lor hx hb dZ_law_154 ?_
      refine lv_aload_n hx hb dZ_law_155 rfl (lv_at hl 1 rfl) ?_
      refine lv_iload hx hb dZ_law_156 (lv_at hl 0 rfl) ?_
      refine lv_bipush (v := nI 8) hx hb dZ_law_158 (by decide) ?_
      refine gx_iadd (a := (9 * i)) (b := 8) hx hb dZ_law_160 ?_
      refine va_sld hx hb hX hbl hbA hS (gx_ia (k := 9 * i + 8) (n := L) (by omega) (by omega) rfl).1 dZ_law_161 ?_
      refine gx_top (y := nI mk) ((congrArg xs (gx_ia (k := 9 * i + 8) (n := L) (by omega) (by omega) rfl).2).trans e8) ?_
      refine lv_aload_n hx hb dZ_law_162 rfl (lv_at hl 4 rfl) ?_
      refine lz_calliH (vx_runSW (As := [.ref (ad 0), .int (nI m), .int (nI q), .int (nI so), .int (nI z), .int (nI a), .long ((((xs (9 * i + 6))).toInt64 <<< (((nI 32)).toInt64 &&& 63)) ||| (((xs (9 * i + 7))).toInt64 &&& 4294967295)), .int (nI mk), .ref (ad 87)]) (rest := []) ⟨hx, hb, hml, hown, ht⟩ (z_requestB l hlt (fun h => hal (by have h9 := h.2.2.2.1.2.2; rw [cx_algn ha hz] at h9; exact (nI_eq (Nat.lt_of_le_of_lt (Nat.mod_le _ _) (by omega)) (by omega)).mp (h9.trans nI_0.symm)))) (vx_cwSW 9 ht (mx_gW mw_170 mw_171 mw_0 mw_172) rfl rfl rfl (by decide +kernel) ⟨(Nat.le_of_ble_eq_true rfl), (Nat.le_of_ble_eq_true rfl)⟩) (gx_preS lz_ok hV hZ hS [.ref (ad 0), .int (nI m), .int (nI q), .int (nI so), .int (nI z), .int (nI a), .long ((((xs (9 * i + 6))).toInt64 <<< (((nI 32)).toInt64 &&& 63)) ||| (((xs (9 * i + 7))).toInt64 &&& 4294967295)), .int (nI mk), .ref (ad 87)]) rfl rfl hl.1 rfl (lv_room (Nat.le_of_ble_eq_true rfl)) dZ_law_163 ⟨by show cells + 1 ≤ 601024; omega, by show slots + 6 ≤ 7293034; omega⟩) hV hS (fun r0 σ1 τ1 H locs hp hV hS => ?_)
      obtain ⟨rfl, hu⟩ := hp
      cases hu
      refine lv_istore (lv' := [(5, .int (nI 1)), (4, .int (nI (9 * i))), (0, .ref b), (1, .ref (ad 0)), (2, .ref (ad 70)), (3, .ref (ad 87))]) hx hb dZ_law_166 hl (by decide) rfl (fun ls hl => ?_)
      refine lv_aload_n hx hb dZ_law_168 rfl (lv_at hl 4 rfl) ?_
      refine lv_aload_n hx hb dZ_law_169 rfl (lv_at hl 2 rfl) ?_
      refine lv_iload hx hb dZ_law_170 (lv_at hl 1 rfl) ?_
      refine lv_iconst (v := nI 1) hx hb dZ_law_172 (by decide) ?_
      refine gx_iadd (a := (9 * i)) (b := 1) hx hb dZ_law_173 ?_
      refine va_sld hx hb hX hbl hbA hS (gx_ia (k := 9 * i + 1) (n := L) (by omega) (by omega) rfl).1 dZ_law_174 ?_
      refine gx_top (y := nI m) ((congrArg xs (gx_ia (k := 9 * i + 1) (n := L) (by omega) (by omega) rfl).2).trans e1) ?_
      refine lv_aload_n hx hb dZ_law_175 rfl (lv_at hl 2 rfl) ?_
      refine lv_iload hx hb dZ_law_176 (lv_at hl 1 rfl) ?_
      refine lv_iconst (v := nI 2) hx hb dZ_law_178 (by decide) ?_
      refine gx_iadd (a := (9 * i)) (b := 2) hx hb dZ_law_179 ?_
      refine va_sld hx hb hX hbl hbA hS (gx_ia (k := 9 * i + 2) (n := L) (by omega) (by omega) rfl).1 dZ_law_180 ?_
      refine gx_top (y := nI q) ((congrArg xs (gx_ia (k := 9 * i + 2) (n := L) (by omega) (by omega) rfl).2).trans e2) ?_
      refine lv_aload_n hx hb dZ_law_181 rfl (lv_at hl 2 rfl) ?_
      refine lv_iload hx hb dZ_law_182 (lv_at hl 1 rfl) ?_
      refine lv_iconst (v := nI 3) hx hb dZ_law_184 (by decide) ?_
      refine gx_iadd (a := (9 * i)) (b := 3) hx hb dZ_law_185 ?_
      refine va_sld hx hb hX hbl hbA hS (gx_ia (k := 9 * i + 3) (n := L) (by omega) (by omega) rfl).1 dZ_law_186 ?_
      refine gx_top (y := nI so) ((congrArg xs (gx_ia (k := 9 * i + 3) (n := L) (by omega) (by omega) rfl).2).trans e3) ?_
      refine lv_aload_n hx hb dZ_law_187 rfl (lv_at hl 2 rfl) ?_
      refine lv_iload hx hb dZ_law_188 (lv_at hl 1 rfl) ?_
      refine lv_iconst (v := nI 4) hx hb dZ_law_190 (by decide) ?_
      refine gx_iadd (a := (9 * i)) (b := 4) hx hb dZ_law_191 ?_
      refine va_sld hx hb hX hbl hbA hS (gx_ia (k := 9 * i + 4) (n := L) (by omega) (by omega) rfl).1 dZ_law_192 ?_
      refine gx_top (y := nI z) ((congrArg xs (gx_ia (k := 9 * i + 4) (n := L) (by omega) (by omega) rfl).2).trans e4) ?_
      refine lv_aload_n hx hb dZ_law_193 rfl (lv_at hl 2 rfl) ?_
      refine lv_iload hx hb dZ_law_194 (lv_at hl 1 rfl) ?_
      refine lv_iconst (v := nI 5) hx hb dZ_law_196 (by decide) ?_
      refine gx_iadd (a := (9 * i)) (b := 5) hx hb dZ_law_197 ?_
      refine va_sld hx hb hX hbl hbA hS (gx_ia (k := 9 * i + 5) (n := L) (by omega) (by omega) rfl).1 dZ_law_198 ?_
      refine gx_top (y := nI a) ((congrArg xs (gx_ia (k := 9 * i + 5) (n := L) (by omega) (by omega) rfl).2).trans e5) ?_
      refine lv_aload_n hx hb dZ_law_199 rfl (lv_at hl 2 rfl) ?_
      refine lv_iload hx hb dZ_law_200 (lv_at hl 1 rfl) ?_
      refine lv_bipush (v := nI 6) hx hb dZ_law_202 (by decide) ?_
      refine gx_iadd (a := (9 * i)) (b := 6) hx hb dZ_law_204 ?_
      refine va_sld hx hb hX hbl hbA hS (gx_ia (k := 9 * i + 6) (n := L) (by omega) (by omega) rfl).1 dZ_law_205 ?_
      refine gx_top (y := xs (9 * i + 6)) (congrArg xs (gx_ia (k := 9 * i + 6) (n := L) (by omega) (by omega) rfl).2) ?_
      refine lv_i2l hx hb dZ_law_206 rfl ?_
      refine lv_bipush (v := nI 32) hx hb dZ_law_207 (by decide) ?_
      refine lv_lshl hx hb dZ_law_209 rfl ?_
      refine lv_aload_n hx hb dZ_law_210 rfl (lv_at hl 2 rfl) ?_
      refine lv_iload hx hb dZ_law_211 (lv_at hl 1 rfl) ?_
      refine lv_bipush (v := nI 7) hx hb dZ_law_213 (by decide) ?_
      refine gx_iadd (a := (9 * i)) (b := 7) hx hb dZ_law_215 ?_
      refine va_sld hx hb hX hbl hbA hS (gx_ia (k := 9 * i + 7) (n := L) (by omega) (by omega) rfl).1 dZ_law_216 ?_
      refine gx_top (y := xs (9 * i + 7)) (congrArg xs (gx_ia (k := 9 * i + 7) (n := L) (by omega) (by omega) rfl).2) ?_
      refine lv_i2l hx hb dZ_law_217 rfl ?_
      refine lv_ldc2 (v := 4294967295) hx hb hown (ht _ mw_636) dZ_law_218 ?_
      refine lv_land hx hb dZ_law_221 ?_
      refine lv_lor hx hb dZ_law_222 ?_
      refine lv_aload_n hx hb dZ_law_223 rfl (lv_at hl 2 rfl) ?_
      refine lv_iload hx hb dZ_law_224 (lv_at hl 1 rfl) ?_
      refine lv_bipush (v := nI 8) hx hb dZ_law_226 (by decide) ?_
      refine gx_iadd (a := (9 * i)) (b := 8) hx hb dZ_law_228 ?_
      refine va_sld hx hb hX hbl hbA hS (gx_ia (k := 9 * i + 8) (n := L) (by omega) (by omega) rfl).1 dZ_law_229 ?_
      refine gx_top (y := nI mk) ((congrArg xs (gx_ia (k := 9 * i + 8) (n := L) (by omega) (by omega) rfl).2).trans e8) ?_
      refine lz_calliR (va_runV (As := [.int (nI m), .int (nI q), .int (nI so), .int (nI z), .int (nI a), .long ((((xs (9 * i + 6))).toInt64 <<< (((nI 32)).toInt64 &&& 63)) ||| (((xs (9 * i + 7))).toInt64 &&& 4294967295)), .int (nI mk)]) (rest := []) ⟨hx, hb, hml, hown, ht⟩ (k_R_requestC l (ad := fun i => ad (i + 70)) (ρ := ρ) (μ := μ) (lt := lt) hm hq8 hso hz ha hal hmk) (cwV 7 ht (mx_gV (C := "MessageCrossbarModel") mw_539 mw_540 mw_541 mw_6 mw_542) rfl rfl rfl (by decide +kernel) ⟨(Nat.le_of_ble_eq_true rfl), (Nat.le_of_ble_eq_true rfl)⟩) (lz_preR hV [.int (nI m), .int (nI q), .int (nI so), .int (nI z), .int (nI a), .long ((((xs (9 * i + 6))).toInt64 <<< (((nI 32)).toInt64 &&& 63)) ||| (((xs (9 * i + 7))).toInt64 &&& 4294967295)), .int (nI mk)]) rfl rfl hl.1 rfl (lv_room (Nat.le_of_ble_eq_true rfl)) dZ_law_230 ⟨by show cells + 1 + 0 ≤ 601024; omega, by show slots + 6 + 0 ≤ 7293034; omega⟩) hV hS (fun rb u H locs hq hVf hS => ?_)
      obtain ⟨hq0, hu⟩ := hq
      have hV := hVf _ _ _ hu
      refine gx_top (y := nI 0) hq0 ?_
      refine lv_istore (lv' := [(6, .int (nI 0)), (5, .int (nI 1)), (4, .int (nI (9 * i))), (0, .ref b), (1, .ref (ad 0)), (2, .ref (ad 70)), (3, .ref (ad 87))]) hx hb dZ_law_233 hl (by decide) rfl (fun ls hl => ?_)
      refine lv_aload_n hx hb dZ_law_235 rfl (lv_at hl 5 rfl) ?_
      refine lz_calliR (va_runV (As := []) (rest := []) ⟨hx, hb, hml, hown, ht⟩ (k_R_thrown l (ad := fun i => ad (i + 70))) (cwV 0 ht (mx_gV (C := "MessageCrossbarModel") mw_535 mw_536 mw_537 mw_6 mw_538) rfl rfl rfl (by decide +kernel) ⟨(Nat.le_of_ble_eq_true rfl), (Nat.le_of_ble_eq_true rfl)⟩) (lz_preR hV []) rfl rfl hl.1 rfl (lv_room (Nat.le_of_ble_eq_true rfl)) dZ_law_236 ⟨by show cells + 1 + 0 ≤ 601024; omega, by show slots + 6 + 0 ≤ 7293034; omega⟩) hV hS (fun rt ut H locs hqt hVf2 hS => ?_)
      obtain ⟨hq1, hu2⟩ := hqt
      have hV := hVf2 _ _ _ hu2
      refine gx_top (y := nI 1) (by rw [hq1, mq_up_s]) ?_
      refine lv_iload hx hb dZ_law_239 (lv_at hl 1 rfl) ?_
      refine gx_icmp_eq (a := 1) (b := 1) (tgt := 246) hx hb dZ_law_241 (by decide) (by omega) (by omega) (fun h241 => ?_) (fun h241 => ?_)
      · refine lv_iload hx hb dZ_law_246 (lv_at hl 1 rfl) ?_
        refine gx_if_ne (a := 1) (tgt := 263) hx hb dZ_law_248 (by decide) (by omega) (fun h248 => ?_) (fun h248 => ?_)
        · refine lv_goto (tgt := 793) hx hb dZ_law_263 (by decide) ?_
          refine W.widen (k := cells + 1) (n := slots + 6) (by omega) (by omega) ?_
          exact kk σ τ (mq_up ρ 0 0 1) μ lt pl o H locs ls hR (show ρ 0 1 ≤ _ by omega) hV hS (lv_sub hl [2, 3, 4, 5, 6] rfl)
        · exact absurd h248 (by decide)
      · exact absurd rfl h241
  · refine lv_aload_n hx hb dZ_law_100 rfl (lv_at hl 2 rfl) ?_
    refine lv_aload_n hx hb dZ_law_101 rfl (lv_at hl 1 rfl) ?_
    refine lv_iload hx hb dZ_law_102 (lv_at hl 0 rfl) ?_
    refine lv_iconst (v := nI 1) hx hb dZ_law_104 (by decide) ?_
    refine gx_iadd (a := (9 * i)) (b := 1) hx hb dZ_law_105 ?_
    refine va_sld hx hb hX hbl hbA hS (gx_ia (k := 9 * i + 1) (n := L) (by omega) (by omega) rfl).1 dZ_law_106 ?_
    refine gx_top (y := xs (9 * i + 1)) (congrArg xs (gx_ia (k := 9 * i + 1) (n := L) (by omega) (by omega) rfl).2) ?_
    refine lv_aload_n hx hb dZ_law_107 rfl (lv_at hl 1 rfl) ?_
    refine lv_iload hx hb dZ_law_108 (lv_at hl 0 rfl) ?_
    refine lv_iconst (v := nI 2) hx hb dZ_law_110 (by decide) ?_
    refine gx_iadd (a := (9 * i)) (b := 2) hx hb dZ_law_111 ?_
    refine va_sld hx hb hX hbl hbA hS (gx_ia (k := 9 * i + 2) (n := L) (by omega) (by omega) rfl).1 dZ_law_112 ?_
    refine gx_top (y := xs (9 * i + 2)) (congrArg xs (gx_ia (k := 9 * i + 2) (n := L) (by omega) (by omega) rfl).2) ?_
    refine lv_aload_n hx hb dZ_law_113 rfl (lv_at hl 1 rfl) ?_
    refine lv_iload hx hb dZ_law_114 (lv_at hl 0 rfl) ?_
    refine lv_iconst (v := nI 3) hx hb dZ_law_116 (by decide) ?_
    refine gx_iadd (a := (9 * i)) (b := 3) hx hb dZ_law_117 ?_
    refine va_sld hx hb hX hbl hbA hS (gx_ia (k := 9 * i + 3) (n := L) (by omega) (by omega) rfl).1 dZ_law_118 ?_
    refine gx_top (y := xs (9 * i + 3)) (congrArg xs (gx_ia (k := 9 * i + 3) (n := L) (by omega) (by omega) rfl).2) ?_
    refine lv_aload_n hx hb dZ_law_119 rfl (lv_at hl 1 rfl) ?_
    refine lv_iload hx hb dZ_law_120 (lv_at hl 0 rfl) ?_
    refine lv_iconst (v := nI 4) hx hb dZ_law_122 (by decide) ?_
    refine gx_iadd (a := (9 * i)) (b := 4) hx hb dZ_law_123 ?_
    refine va_sld hx hb hX hbl hbA hS (gx_ia (k := 9 * i + 4) (n := L) (by omega) (by omega) rfl).1 dZ_law_124 ?_
    refine gx_top (y := xs (9 * i + 4)) (congrArg xs (gx_ia (k := 9 * i + 4) (n := L) (by omega) (by omega) rfl).2) ?_
    refine lv_aload_n hx hb dZ_law_125 rfl (lv_at hl 1 rfl) ?_
    refine lv_iload hx hb dZ_law_126 (lv_at hl 0 rfl) ?_
    refine lv_iconst (v := nI 5) hx hb dZ_law_128 (by decide) ?_
    refine gx_iadd (a := (9 * i)) (b := 5) hx hb dZ_law_129 ?_
    refine va_sld hx hb hX hbl hbA hS (gx_ia (k := 9 * i + 5) (n := L) (by omega) (by omega) rfl).1 dZ_law_130 ?_
    refine gx_top (y := xs (9 * i + 5)) (congrArg xs (gx_ia (k := 9 * i + 5) (n := L) (by omega) (by omega) rfl).2) ?_
    refine lv_aload_n hx hb dZ_law_131 rfl (lv_at hl 1 rfl) ?_
    refine lv_iload hx hb dZ_law_132 (lv_at hl 0 rfl) ?_
    refine lv_bipush (v := nI 6) hx hb dZ_law_134 (by decide) ?_
    refine gx_iadd (a := (9 * i)) (b := 6) hx hb dZ_law_136 ?_
    refine va_sld hx hb hX hbl hbA hS (gx_ia (k := 9 * i + 6) (n := L) (by omega) (by omega) rfl).1 dZ_law_137 ?_
    refine gx_top (y := xs (9 * i + 6)) (congrArg xs (gx_ia (k := 9 * i + 6) (n := L) (by omega) (by omega) rfl).2) ?_
    refine lv_i2l hx hb dZ_law_138 rfl ?_
    refine lv_bipush (v := nI 32) hx hb dZ_law_139 (by decide) ?_
    refine lv_lshl hx hb dZ_law_141 rfl ?_
    refine lv_aload_n hx hb dZ_law_142 rfl (lv_at hl 1 rfl) ?_
    refine lv_iload hx hb dZ_law_143 (lv_at hl 0 rfl) ?_
    refine lv_bipush (v := nI 7) hx hb dZ_law_145 (by decide) ?_
    refine gx_iadd (a := (9 * i)) (b := 7) hx hb dZ_law_147 ?_
    refine va_sld hx hb hX hbl hbA hS (gx_ia (k := 9 * i + 7) (n := L) (by omega) (by omega) rfl).1 dZ_law_148 ?_
    refine gx_top (y := xs (9 * i + 7)) (congrArg xs (gx_ia (k := 9 * i + 7) (n := L) (by omega) (by omega) rfl).2) ?_
    refine lv_i2l hx hb dZ_law_149 rfl ?_
    refine lv_ldc2 (v := 4294967295) hx hb hown (ht _ mw_636) dZ_law_150 ?_
    refine lv_land hx hb dZ_law_153 ?_
    refine lv_lor hx hb dZ_law_154 ?_
    refine lv_aload_n hx hb dZ_law_155 rfl (lv_at hl 1 rfl) ?_
    refine lv_iload hx hb dZ_law_156 (lv_at hl 0 rfl) ?_
    refine lv_bipush (v := nI 8) hx hb dZ_law_158 (by decide) ?_
    refine gx_iadd (a := (9 * i)) (b := 8) hx hb dZ_law_160 ?_
    refine va_sld hx hb hX hbl hbA hS (gx_ia (k := 9 * i + 8) (n := L) (by omega) (by omega) rfl).1 dZ_law_161 ?_
    refine gx_top (y := xs (9 * i + 8)) (congrArg xs (gx_ia (k := 9 * i + 8) (n := L) (by omega) (by omega) rfl).2) ?_
    refine lv_aload_n hx hb dZ_law_162 rfl (lv_at hl 4 rfl) ?_
    refine lz_calliH (vx_runSW (As := [.ref (ad 0), .int (xs (9 * i + 1)), .int (xs (9 * i + 2)), .int (xs (9 * i + 3)), .int (xs (9 * i + 4)), .int (xs (9 * i + 5)), .long ((((xs (9 * i + 6))).toInt64 <<< (((nI 32)).toInt64 &&& 63)) ||| (((xs (9 * i + 7))).toInt64 &&& 4294967295)), .int (xs (9 * i + 8)), .ref (ad 87)]) (rest := []) ⟨hx, hb, hml, hown, ht⟩ (z_requestB l hlt (fun h => hbad ⟨h.1, h.2.1, h.2.2.1, h.2.2.2.1.1, h.2.2.2.1.2.1, h.2.2.2.2⟩)) (vx_cwSW 9 ht (mx_gW mw_170 mw_171 mw_0 mw_172) rfl rfl rfl (by decide +kernel) ⟨(Nat.le_of_ble_eq_true rfl), (Nat.le_of_ble_eq_true rfl)⟩) (gx_preS lz_ok hV hZ hS [.ref (ad 0), .int (xs (9 * i + 1)), .int (xs (9 * i + 2)), .int (xs (9 * i + 3)), .int (xs (9 * i + 4)), .int (xs (9 * i + 5)), .long ((((xs (9 * i + 6))).toInt64 <<< (((nI 32)).toInt64 &&& 63)) ||| (((xs (9 * i + 7))).toInt64 &&& 4294967295)), .int (xs (9 * i + 8)), .ref (ad 87)]) rfl rfl hl.1 rfl (lv_room (Nat.le_of_ble_eq_true rfl)) dZ_law_163 ⟨by show cells + 1 ≤ 601024; omega, by show slots + 6 ≤ 7293034; omega⟩) hV hS (fun r0 σ1 τ1 H locs hp hV hS => ?_)
    obtain ⟨rfl, hu⟩ := hp
    cases hu
    refine lv_istore (lv' := [(5, .int (nI 1)), (4, .int (nI (9 * i))), (0, .ref b), (1, .ref (ad 0)), (2, .ref (ad 70)), (3, .ref (ad 87))]) hx hb dZ_law_166 hl (by decide) rfl (fun ls hl => ?_)
    refine lv_aload_n hx hb dZ_law_168 rfl (lv_at hl 4 rfl) ?_
    refine lv_aload_n hx hb dZ_law_169 rfl (lv_at hl 2 rfl) ?_
    refine lv_iload hx hb dZ_law_170 (lv_at hl 1 rfl) ?_
    refine lv_iconst (v := nI 1) hx hb dZ_law_172 (by decide) ?_
    refine gx_iadd (a := (9 * i)) (b := 1) hx hb dZ_law_173 ?_
    refine va_sld hx hb hX hbl hbA hS (gx_ia (k := 9 * i + 1) (n := L) (by omega) (by omega) rfl).1 dZ_law_174 ?_
    refine gx_top (y := xs (9 * i + 1)) (congrArg xs (gx_ia (k := 9 * i + 1) (n := L) (by omega) (by omega) rfl).2) ?_
    refine lv_aload_n hx hb dZ_law_175 rfl (lv_at hl 2 rfl) ?_
    refine lv_iload hx hb dZ_law_176 (lv_at hl 1 rfl) ?_
    refine lv_iconst (v := nI 2) hx hb dZ_law_178 (by decide) ?_
    refine gx_iadd (a := (9 * i)) (b := 2) hx hb dZ_law_179 ?_
    refine va_sld hx hb hX hbl hbA hS (gx_ia (k := 9 * i + 2) (n := L) (by omega) (by omega) rfl).1 dZ_law_180 ?_
    refine gx_top (y := xs (9 * i + 2)) (congrArg xs (gx_ia (k := 9 * i + 2) (n := L) (by omega) (by omega) rfl).2) ?_
    refine lv_aload_n hx hb dZ_law_181 rfl (lv_at hl 2 rfl) ?_
    refine lv_iload hx hb dZ_law_182 (lv_at hl 1 rfl) ?_
    refine lv_iconst (v := nI 3) hx hb dZ_law_184 (by decide) ?_
    refine gx_iadd (a := (9 * i)) (b := 3) hx hb dZ_law_185 ?_
    refine va_sld hx hb hX hbl hbA hS (gx_ia (k := 9 * i + 3) (n := L) (by omega) (by omega) rfl).1 dZ_law_186 ?_
    refine gx_top (y := xs (9 * i + 3)) (congrArg xs (gx_ia (k := 9 * i + 3) (n := L) (by omega) (by omega) rfl).2) ?_
    refine lv_aload_n hx hb dZ_law_187 rfl (lv_at hl 2 rfl) ?_
    refine lv_iload hx hb dZ_law_188 (lv_at hl 1 rfl) ?_
    refine lv_iconst (v := nI 4) hx hb dZ_law_190 (by decide) ?_
    refine gx_iadd (a := (9 * i)) (b := 4) hx hb dZ_law_191 ?_
    refine va_sld hx hb hX hbl hbA hS (gx_ia (k := 9 * i + 4) (n := L) (by omega) (by omega) rfl).1 dZ_law_192 ?_
    refine gx_top (y := xs (9 * i + 4)) (congrArg xs (gx_ia (k := 9 * i + 4) (n := L) (by omega) (by omega) rfl).2) ?_
    refine lv_aload_n hx hb dZ_law_193 rfl (lv_at hl 2 rfl) ?_
    refine lv_iload hx hb dZ_law_194 (lv_at hl 1 rfl) ?_
    refine lv_iconst (v := nI 5) hx hb dZ_law_196 (by decide) ?_
    refine gx_iadd (a := (9 * i)) (b := 5) hx hb dZ_law_197 ?_
    refine va_sld hx hb hX hbl hbA hS (gx_ia (k := 9 * i + 5) (n := L) (by omega) (by omega) rfl).1 dZ_law_198 ?_
    refine gx_top (y := xs (9 * i + 5)) (congrArg xs (gx_ia (k := 9 * i + 5) (n := L) (by omega) (by omega) rfl).2) ?_
    refine lv_aload_n hx hb dZ_law_199 rfl (lv_at hl 2 rfl) ?_
    refine lv_iload hx hb dZ_law_200 (lv_at hl 1 rfl) ?_
    refine lv_bipush (v := nI 6) hx hb dZ_law_202 (by decide) ?_
    refine gx_iadd (a := (9 * i)) (b := 6) hx hb dZ_law_204 ?_
    refine va_sld hx hb hX hbl hbA hS (gx_ia (k := 9 * i + 6) (n := L) (by omega) (by omega) rfl).1 dZ_law_205 ?_
    refine gx_top (y := xs (9 * i + 6)) (congrArg xs (gx_ia (k := 9 * i + 6) (n := L) (by omega) (by omega) rfl).2) ?_
    refine lv_i2l hx hb dZ_law_206 rfl ?_
    refine lv_bipush (v := nI 32) hx hb dZ_law_207 (by decide) ?_
    refine lv_lshl hx hb dZ_law_209 rfl ?_
    refine lv_aload_n hx hb dZ_law_210 rfl (lv_at hl 2 rfl) ?_
    refine lv_iload hx hb dZ_law_211 (lv_at hl 1 rfl) ?_
    refine lv_bipush (v := nI 7) hx hb dZ_law_213 (by decide) ?_
    refine gx_iadd (a := (9 * i)) (b := 7) hx hb dZ_law_215 ?_
    refine va_sld hx hb hX hbl hbA hS (gx_ia (k := 9 * i + 7) (n := L) (by omega) (by omega) rfl).1 dZ_law_216 ?_
    refine gx_top (y := xs (9 * i + 7)) (congrArg xs (gx_ia (k := 9 * i + 7) (n := L) (by omega) (by omega) rfl).2) ?_
    refine lv_i2l hx hb dZ_law_217 rfl ?_
    refine lv_ldc2 (v := 4294967295) hx hb hown (ht _ mw_636) dZ_law_218 ?_
    refine lv_land hx hb dZ_law_221 ?_
    refine lv_lor hx hb dZ_law_222 ?_
    refine lv_aload_n hx hb dZ_law_223 rfl (lv_at hl 2 rfl) ?_
    refine lv_iload hx hb dZ_law_224 (lv_at hl 1 rfl) ?_
    refine lv_bipush (v := nI 8) hx hb dZ_law_226 (by decide) ?_
    refine gx_iadd (a := (9 * i)) (b := 8) hx hb dZ_law_228 ?_
    refine va_sld hx hb hX hbl hbA hS (gx_ia (k := 9 * i + 8) (n := L) (by omega) (by omega) rfl).1 dZ_law_229 ?_
    refine gx_top (y := xs (9 * i + 8)) (congrArg xs (gx_ia (k := 9 * i + 8) (n := L) (by omega) (by omega) rfl).2) ?_
    refine lz_calliR (va_runV (As := [.int (xs (9 * i + 1)), .int (xs (9 * i + 2)), .int (xs (9 * i + 3)), .int (xs (9 * i + 4)), .int (xs (9 * i + 5)), .long ((((xs (9 * i + 6))).toInt64 <<< (((nI 32)).toInt64 &&& 63)) ||| (((xs (9 * i + 7))).toInt64 &&& 4294967295)), .int (xs (9 * i + 8))]) (rest := []) ⟨hx, hb, hml, hown, ht⟩ (k_R_requestB l (ad := fun i => ad (i + 70)) (ρ := ρ) (μ := μ) (lt := lt) hbad) (cwV 7 ht (mx_gV (C := "MessageCrossbarModel") mw_539 mw_540 mw_541 mw_6 mw_542) rfl rfl rfl (by decide +kernel) ⟨(Nat.le_of_ble_eq_true rfl), (Nat.le_of_ble_eq_true rfl)⟩) (lz_preR hV [.int (xs (9 * i + 1)), .int (xs (9 * i + 2)), .int (xs (9 * i + 3)), .int (xs (9 * i + 4)), .int (xs (9 * i + 5)), .long ((((xs (9 * i + 6))).toInt64 <<< (((nI 32)).toInt64 &&& 63)) ||| (((xs (9 * i + 7))).toInt64 &&& 4294967295)), .int (xs (9 * i + 8))]) rfl rfl hl.1 rfl (lv_room (Nat.le_of_ble_eq_true rfl)) dZ_law_230 ⟨by show cells + 1 + 0 ≤ 601024; omega, by show slots + 6 + 0 ≤ 7293034; omega⟩) hV hS (fun rb u H locs hq hVf hS => ?_)
    obtain ⟨hq0, hu⟩ := hq
    have hV := hVf _ _ _ hu
    refine gx_top (y := nI 0) hq0 ?_
    refine lv_istore (lv' := [(6, .int (nI 0)), (5, .int (nI 1)), (4, .int (nI (9 * i))), (0, .ref b), (1, .ref (ad 0)), (2, .ref (ad 70)), (3, .ref (ad 87))]) hx hb dZ_law_233 hl (by decide) rfl (fun ls hl => ?_)
    refine lv_aload_n hx hb dZ_law_235 rfl (lv_at hl 5 rfl) ?_
    refine lz_calliR (va_runV (As := []) (rest := []) ⟨hx, hb, hml, hown, ht⟩ (k_R_thrown l (ad := fun i => ad (i + 70))) (cwV 0 ht (mx_gV (C := "MessageCrossbarModel") mw_535 mw_536 mw_537 mw_6 mw_538) rfl rfl rfl (by decide +kernel) ⟨(Nat.le_of_ble_eq_true rfl), (Nat.le_of_ble_eq_true rfl)⟩) (lz_preR hV []) rfl rfl hl.1 rfl (lv_room (Nat.le_of_ble_eq_true rfl)) dZ_law_236 ⟨by show cells + 1 + 0 ≤ 601024; omega, by show slots + 6 + 0 ≤ 7293034; omega⟩) hV hS (fun rt ut H locs hqt hVf2 hS => ?_)
    obtain ⟨hq1, hu2⟩ := hqt
    have hV := hVf2 _ _ _ hu2
    refine gx_top (y := nI 1) (by rw [hq1, mq_up_s]) ?_
    refine lv_iload hx hb dZ_law_239 (lv_at hl 1 rfl) ?_
    refine gx_icmp_eq (a := 1) (b := 1) (tgt := 246) hx hb dZ_law_241 (by decide) (by omega) (by omega) (fun h241 => ?_) (fun h241 => ?_)
    · refine lv_iload hx hb dZ_law_246 (lv_at hl 1 rfl) ?_
      refine gx_if_ne (a := 1) (tgt := 263) hx hb dZ_law_248 (by decide) (by omega) (fun h248 => ?_) (fun h248 => ?_)
      · refine lv_goto (tgt := 793) hx hb dZ_law_263 (by decide) ?_
        refine W.widen (k := cells + 1) (n := slots + 6) (by omega) (by omega) ?_
        exact kk σ τ (mq_up ρ 0 0 1) μ lt pl o H locs ls hR (show ρ 0 1 ≤ _ by omega) hV hS (lv_sub hl [2, 3, 4, 5, 6] rfl)
      · exact absurd h248 (by decide)
    · exact absurd rfl h241
