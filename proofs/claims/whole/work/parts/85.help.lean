/-! the law's helpers: a call of the class, caught -/
theorem hz_met {l : Launch} {y : MethodName} {ws ws' : List Cond} {rm : Room} {av : List Value} {B : State → Prop} {Qc : Array Value → State → Outcome → State → Prop} {mc ms : Nat} {free : Addr → Prop} {cc : ByteArray} {maxL : Nat} {ret : Option FieldType} {hh : List (Nat × Nat × Nat × Nat)}
    (hy : plainName y.cls = true) (hw : ws = Cond.codeWith y cc maxL ret hh :: ws') (hlen : (lg_sl av).length ≤ maxL)
    (body : ∀ (p : Program) (e : Env) (s : State) (m : MethodId) (args : Array Value) (below : List Frame) (meth : Method) (c : Code) (ls : Array Slot), p.tables.exec = Jvm.exec → c.code = cc → meth.sig.returnType = ret → c.maxLocals = maxL → (∀ w ∈ ws', w.before args s = true) → s.vm.findClass y.cls = some m.cls → meth.locks = false → c.exceptionTable.toList = tableOf hh → args = av.toArray → B s → lv_has ls maxL (lv_args 0 av) →
      W p l e (headSpec ws rm).room s m args below meth c s.heap [] 0 0 (MQ below Qc args s mc ms free) (F0 m 0 ls [])) : Met l y ws rm (va_Pc av B) Qc mc ms free := by
  refine va_MetW (cc := cc) (maxL := maxL) (ret := ret) (hh := hh) hy hw ?_
  intro p e s m args below meth c s₁ B' hml hv
  obtain ⟨ha, hB⟩ := hv
  have hts := atoms_spec (ws := ws) B'.pre
  have htab := vx_table (x := y) B' (hts _ (by rw [hw]; exact List.mem_cons_self))
  have hown : s.vm.findClass y.cls = some m.cls := findClass_of_methodNamed B'.named
  have hl := lv_entry av (n := maxL) hlen
  have hE : entryFrame m args maxL = F0 m 0 ((lg_sl av ++ List.replicate (maxL - (lg_sl av).length) Slot.unset).toArray) [] := by rw [ha]; exact lg_entry_eq m av maxL
  rw [hE]
  exact body p e s m args below meth c _ B'.exec B'.bytes B'.returns hml (fun w h => hts w (by rw [hw]; exact List.mem_cons_of_mem _ h)) hown B'.notSynchronized htab ha hB hl

set_option maxHeartbeats 4000000 in
set_option maxRecDepth 100000 in
theorem z_request (l : Launch) {D : va_G} {K : Nat → ClassId} {ad : Nat → Nat} {σ : Nat → Nat → Int32} {τ : Nat → Nat → Int64} {ρ : Nat → Nat → Nat} {μ : Nat → Int64} {lt : Int64} {o : Nat → Int64} {m q so z a mk : Nat} {d : Int64} (hm : m < 3) (hq : q < 8) (hso : so < 3) (hz : z < 4) (ha : a < 1024) (hal : a % 2 ^ z = 0) (hmk : mk < 256) {ρr : Nat → Nat → Nat} {μr : Nat → Int64} {ltr : Int64} {pl : Nat → Nat → List Nat} (hR : rr_R σ τ ρr μr ltr pl) : Met l yZ_request (Cond.codeWith yZ_request method_3_code 11 (some .int) [(0, 20, 23, 13)] :: mx_T) { frames := 7, cells := 1, slots := 6, locals := 111 } (va_Pc [.ref (ad 0), .int (nI m), .int (nI q), .int (nI so), .int (nI z), .int (nI a), .long d, .int (nI mk), .ref (ad 87)] (lz_P D K ad σ τ ρ μ lt o)) (lz_Qi D K ad (fun rr u => rr = nI 0 ∧ ∃ (r : Int32) (σ' : Nat → Nat → Int32) (τ' : Nat → Nat → Int64) (o' : Nat → Int64), o' 0 = r.toInt64 ∧ ((fun (rr : Int32) (u : gx_U) => (ρr 1 (8 * m + q) ≠ 0 ∨ 8 ≤ (pl 1 m).length → rr = -1 ∧ u = (σ, τ)) ∧ (ρr 1 (8 * m + q) = 0 → (pl 1 m).length < 8 → rr = nI ((pl 1 m).length + 1) ∧ rr_R u.1 u.2 (mq_rq ρr (8 * m + q) so z a mk) (mq_upL μr (8 * m + q) d) ltr (mq_set pl 1 m (pl 1 m ++ [8 * m + q])))) r (σ', τ')) ∧ u = (lz_s σ' ρ, lz_t τ' μ lt o'))) 1 6 (gx_A ad 88) := by
  refine hz_met (by decide) rfl (Nat.le_of_ble_eq_true rfl) ?_
  intro pg ev s mid as below mth c ls hx hb hr hml ht hown hlk htab hargs hB hl
  obtain ⟨hV, hZ⟩ := hB
  have hS : va_S (gx_A ad 88) s.heap s.heap [] := va_S.rf
  have hl : lv_has ls 11 [(0, .ref (ad 0)), (1, .int (nI m)), (2, .int (nI q)), (3, .int (nI so)), (4, .int (nI z)), (5, .int (nI a)), (6, .long d), (8, .int (nI mk)), (9, .ref (ad 87))] := hl
  refine lv_aload hx hb dZ_request_0 (lv_at hl 8 rfl) ?_
  refine lv_iconst (v := nI 0) hx hb dZ_request_2 (by decide) ?_
  refine lv_aload_n hx hb dZ_request_3 rfl (lv_at hl 0 rfl) ?_
  refine lv_iload_n hx hb dZ_request_4 rfl (lv_at hl 1 rfl) ?_
  refine lv_iload_n hx hb dZ_request_5 rfl (lv_at hl 2 rfl) ?_
  refine lv_iload_n hx hb dZ_request_6 rfl (lv_at hl 3 rfl) ?_
  refine lv_iload hx hb dZ_request_7 (lv_at hl 4 rfl) ?_
  refine lv_iload hx hb dZ_request_9 (lv_at hl 5 rfl) ?_
  refine lv_lload hx hb dZ_request_11 (lv_at hl 6 rfl) ?_
  refine lv_iload hx hb dZ_request_13 (lv_at hl 7 rfl) ?_
  refine lz_calliC (va_runV (As := [.int (nI m), .int (nI q), .int (nI so), .int (nI z), .int (nI a), .long d, .int (nI mk)]) (rest := [.int (nI 0), .ref (ad 87)]) ⟨hx, hb, hml, hown, ht⟩ (k_X_request l hm hq hso hz ha hal hmk hR) (cwV 7 ht (mx_gV (C := "MessageCrossbar") mw_174 mw_175 mw_176 mw_1 mw_177) rfl rfl rfl (by decide +kernel) ⟨Nat.le_of_ble_eq_true rfl, Nat.le_of_ble_eq_true rfl⟩) (lz_preC hV hZ hS [.int (nI m), .int (nI q), .int (nI so), .int (nI z), .int (nI a), .long d, .int (nI mk)]) rfl rfl hl.1 rfl (lv_room (Nat.le_of_ble_eq_true rfl)) dZ_request_15 ⟨Nat.le_of_ble_eq_true rfl, Nat.le_of_ble_eq_true rfl⟩) hV hS (fun r σ' τ' H locs hp hV hS => ?_)
  refine lv_i2l hx hb dZ_request_18 rfl ?_
  refine lz_ast hx hb hV hS dZ_request_19 (fun o' H locs ho hV hS => ?_)
  refine lv_goto (tgt := 27) hx hb dZ_request_20 (by decide) ?_
  refine lv_iconst (v := nI 0) hx hb dZ_request_27 (by decide) ?_
  refine W.widen (k := 1) (n := 6) (by omega) (by omega) ?_
  exact gx_iret hx hb hr hV hS ⟨rfl, r, σ', τ', o', ho, hp, rfl⟩ dZ_request_28 hlk

set_option maxHeartbeats 4000000 in
set_option maxRecDepth 100000 in
theorem z_requestB (l : Launch) (hlt : l.stackTraces = false) {D : va_G} {K : Nat → ClassId} {ad : Nat → Nat} {σ : Nat → Nat → Int32} {τ : Nat → Nat → Int64} {ρ : Nat → Nat → Nat} {μ : Nat → Int64} {lt : Int64} {o : Nat → Int64} {m q so z a mk : Int32} {d : Int64} (hbad : ¬ ((0 ≤ m ∧ m < nI 3) ∧ (0 ≤ q ∧ q < nI 8) ∧ (0 ≤ so ∧ so < nI 3) ∧ ((0 ≤ z ∧ z < nI 4) ∧ (0 ≤ a ∧ a < nI 1024) ∧ a &&& ((nI 1 <<< (z &&& 31)) - nI 1) = 0) ∧ (0 ≤ mk ∧ mk < nI 256))) : Met l yZ_request (Cond.codeWith yZ_request method_3_code 11 (some .int) [(0, 20, 23, 13)] :: mx_T) { frames := 7, cells := 1, slots := 6, locals := 111 } (va_Pc [.ref (ad 0), .int m, .int q, .int so, .int z, .int a, .long d, .int mk, .ref (ad 87)] (lz_P D K ad σ τ ρ μ lt o)) (lz_Qi D K ad (fun rr u => rr = nI 1 ∧ u = (lz_s σ ρ, lz_t τ μ lt o))) 1 6 (gx_A ad 88) := by
  refine hz_met (by decide) rfl (Nat.le_of_ble_eq_true rfl) ?_
  intro pg ev s mid as below mth c ls hx hb hr hml ht hown hlk htab hargs hB hl
  obtain ⟨hV, hZ⟩ := hB
  have hS : va_S (gx_A ad 88) s.heap s.heap [] := va_S.rf
  have hl : lv_has ls 11 [(0, .ref (ad 0)), (1, .int m), (2, .int q), (3, .int so), (4, .int z), (5, .int a), (6, .long d), (8, .int mk), (9, .ref (ad 87))] := hl
  refine lv_aload hx hb dZ_request_0 (lv_at hl 8 rfl) ?_
  refine lv_iconst (v := nI 0) hx hb dZ_request_2 (by decide) ?_
  refine lv_aload_n hx hb dZ_request_3 rfl (lv_at hl 0 rfl) ?_
  refine lv_iload_n hx hb dZ_request_4 rfl (lv_at hl 1 rfl) ?_
  refine lv_iload_n hx hb dZ_request_5 rfl (lv_at hl 2 rfl) ?_
  refine lv_iload_n hx hb dZ_request_6 rfl (lv_at hl 3 rfl) ?_
  refine lv_iload hx hb dZ_request_7 (lv_at hl 4 rfl) ?_
  refine lv_iload hx hb dZ_request_9 (lv_at hl 5 rfl) ?_
  refine lv_lload hx hb dZ_request_11 (lv_at hl 6 rfl) ?_
  refine lv_iload hx hb dZ_request_13 (lv_at hl 7 rfl) ?_
  refine lz_callX (vx_runV (As := [.int m, .int q, .int so, .int z, .int a, .long d, .int mk]) (rest := [.int (nI 0), .ref (ad 87)]) ⟨hx, hb, hml, hown, ht⟩ (x_X_request l hlt hbad) (cwV 7 ht (mx_gV (C := "MessageCrossbar") mw_174 mw_175 mw_176 mw_1 mw_177) rfl rfl rfl (by decide +kernel) ⟨Nat.le_of_ble_eq_true rfl, Nat.le_of_ble_eq_true rfl⟩) (lz_preX hV hZ hS [.int m, .int q, .int so, .int z, .int a, .long d, .int mk]) rfl rfl hl.1 rfl (lv_room (Nat.le_of_ble_eq_true rfl)) dZ_request_15 ⟨Nat.le_of_ble_eq_true rfl, Nat.le_of_ble_eq_true rfl⟩) hV hS (fun ce q9 H locs hV hS h1 h2 h3 => ?_)
  refine vx_catch hown [] ⟨0, 20, 23, 13⟩ [] htab (fun z hz => nomatch hz) rfl (by decide) (ht _ mw_173) (va_Nw.use rfl hZ.2.2.2.1) h1 h2 h3 ?_
  refine lv_astore (lv' := [(10, .ref q9), (0, .ref (ad 0)), (1, .int m), (2, .int q), (3, .int so), (4, .int z), (5, .int a), (6, .long d), (8, .int mk), (9, .ref (ad 87))]) hx hb dZ_request_23 hl (by decide) rfl (fun ls hl => ?_)
  refine lv_iconst (v := nI 1) hx hb dZ_request_25 (by decide) ?_
  exact gx_iret hx hb hr hV hS ⟨rfl, rfl⟩ dZ_request_26 hlk

set_option maxHeartbeats 4000000 in
set_option maxRecDepth 100000 in
theorem z_accept (l : Launch) {D : va_G} {K : Nat → ClassId} {ad : Nat → Nat} {σ : Nat → Nat → Int32} {τ : Nat → Nat → Int64} {ρ : Nat → Nat → Nat} {μ : Nat → Int64} {lt : Int64} {o : Nat → Int64} {m y : Nat} (hm : m < 3) (hy : y ≤ 1) {ρr : Nat → Nat → Nat} {μr : Nat → Int64} {ltr : Int64} {pl : Nat → Nat → List Nat} (hR : rr_R σ τ ρr μr ltr pl) : Met l yZ_accept (Cond.codeWith yZ_accept method_4_code 5 (some .int) [(0, 17, 20, 13)] :: mx_T) { frames := 7, cells := 1, slots := 6, locals := 104 } (va_Pc [.ref (ad 0), .int (nI m), .int (nI y), .ref (ad 87)] (lz_P D K ad σ τ ρ μ lt o)) (lz_Qi D K ad (fun rr u => rr = nI 0 ∧ ∃ (r : Int32) (σ' : Nat → Nat → Int32) (τ' : Nat → Nat → Int64) (o' : Nat → Int64), o' 0 = (if r = 0 then 0 else 1) ∧ ((fun (rr : Int32) (u : gx_U) => rr = nI (1 - ρr 9 m) ∧ rr_R u.1 u.2 (mq_up ρr 9 m (1 - y)) μr ltr pl) r (σ', τ')) ∧ u = (lz_s σ' ρ, lz_t τ' μ lt o'))) 1 6 (gx_A ad 88) := by
  refine hz_met (by decide) rfl (Nat.le_of_ble_eq_true rfl) ?_
  intro pg ev s mid as below mth c ls hx hb hr hml ht hown hlk htab hargs hB hl
  obtain ⟨hV, hZ⟩ := hB
  have hS : va_S (gx_A ad 88) s.heap s.heap [] := va_S.rf
  have hl : lv_has ls 5 [(0, .ref (ad 0)), (1, .int (nI m)), (2, .int (nI y)), (3, .ref (ad 87))] := hl
  refine lv_aload_n hx hb dZ_accept_0 rfl (lv_at hl 3 rfl) ?_
  refine lv_iconst (v := nI 0) hx hb dZ_accept_1 (by decide) ?_
  refine lv_aload_n hx hb dZ_accept_2 rfl (lv_at hl 0 rfl) ?_
  refine lv_iload_n hx hb dZ_accept_3 rfl (lv_at hl 1 rfl) ?_
  refine lv_iload_n hx hb dZ_accept_4 rfl (lv_at hl 2 rfl) ?_
  refine lz_calliC (va_runV (As := [.int (nI m), .int (nI y)]) (rest := [.int (nI 0), .ref (ad 87)]) ⟨hx, hb, hml, hown, ht⟩ (k_X_accept l hm hy hR) (cwV 2 ht (mx_gV (C := "MessageCrossbar") mw_262 mw_263 mw_264 mw_1 mw_265) rfl rfl rfl (by decide +kernel) ⟨Nat.le_of_ble_eq_true rfl, Nat.le_of_ble_eq_true rfl⟩) (lz_preC hV hZ hS [.int (nI m), .int (nI y)]) rfl rfl hl.1 rfl (lv_room (Nat.le_of_ble_eq_true rfl)) dZ_accept_5 ⟨Nat.le_of_ble_eq_true rfl, Nat.le_of_ble_eq_true rfl⟩) hV hS (fun r σ' τ' H locs hp hV hS => ?_)
  refine lv_if_eq (tgt := 15) hx hb dZ_accept_8 (by decide) (fun h8 => ?_) (fun h8 => ?_)
  · refine lv_lconst (v := 0) hx hb dZ_accept_15 (by decide) ?_
    refine lz_ast hx hb hV hS dZ_accept_16 (fun o' H locs ho hV hS => ?_)
    have hob : o' 0 = (if r = 0 then 0 else 1) := by rw [ho]; rw [if_pos h8]
    refine lv_goto (tgt := 24) hx hb dZ_accept_17 (by decide) ?_
    refine lv_iconst (v := nI 0) hx hb dZ_accept_24 (by decide) ?_
    refine W.widen (k := 1) (n := 6) (by omega) (by omega) ?_
    exact gx_iret hx hb hr hV hS ⟨rfl, r, σ', τ', o', hob, hp, rfl⟩ dZ_accept_25 hlk
  · refine lv_lconst (v := 1) hx hb dZ_accept_11 (by decide) ?_
    refine lv_goto (tgt := 16) hx hb dZ_accept_12 (by decide) ?_
    refine lz_ast hx hb hV hS dZ_accept_16 (fun o' H locs ho hV hS => ?_)
    have hob : o' 0 = (if r = 0 then 0 else 1) := by rw [ho]; rw [if_neg h8]
    refine lv_goto (tgt := 24) hx hb dZ_accept_17 (by decide) ?_
    refine lv_iconst (v := nI 0) hx hb dZ_accept_24 (by decide) ?_
    refine W.widen (k := 1) (n := 6) (by omega) (by omega) ?_
    exact gx_iret hx hb hr hV hS ⟨rfl, r, σ', τ', o', hob, hp, rfl⟩ dZ_accept_25 hlk

set_option maxHeartbeats 4000000 in
set_option maxRecDepth 100000 in
theorem z_acceptB (l : Launch) (hlt : l.stackTraces = false) {D : va_G} {K : Nat → ClassId} {ad : Nat → Nat} {σ : Nat → Nat → Int32} {τ : Nat → Nat → Int64} {ρ : Nat → Nat → Nat} {μ : Nat → Int64} {lt : Int64} {o : Nat → Int64} {m y : Int32} (hbad : ¬ (0 ≤ m ∧ m < nI 3)) : Met l yZ_accept (Cond.codeWith yZ_accept method_4_code 5 (some .int) [(0, 17, 20, 13)] :: mx_T) { frames := 7, cells := 1, slots := 6, locals := 104 } (va_Pc [.ref (ad 0), .int m, .int y, .ref (ad 87)] (lz_P D K ad σ τ ρ μ lt o)) (lz_Qi D K ad (fun rr u => rr = nI 1 ∧ u = (lz_s σ ρ, lz_t τ μ lt o))) 1 6 (gx_A ad 88) := by
  refine hz_met (by decide) rfl (Nat.le_of_ble_eq_true rfl) ?_
  intro pg ev s mid as below mth c ls hx hb hr hml ht hown hlk htab hargs hB hl
  obtain ⟨hV, hZ⟩ := hB
  have hS : va_S (gx_A ad 88) s.heap s.heap [] := va_S.rf
  have hl : lv_has ls 5 [(0, .ref (ad 0)), (1, .int m), (2, .int y), (3, .ref (ad 87))] := hl
  refine lv_aload_n hx hb dZ_accept_0 rfl (lv_at hl 3 rfl) ?_
  refine lv_iconst (v := nI 0) hx hb dZ_accept_1 (by decide) ?_
  refine lv_aload_n hx hb dZ_accept_2 rfl (lv_at hl 0 rfl) ?_
  refine lv_iload_n hx hb dZ_accept_3 rfl (lv_at hl 1 rfl) ?_
  refine lv_iload_n hx hb dZ_accept_4 rfl (lv_at hl 2 rfl) ?_
  refine lz_callX (vx_runV (As := [.int m, .int y]) (rest := [.int (nI 0), .ref (ad 87)]) ⟨hx, hb, hml, hown, ht⟩ (x_X_accept l hlt hbad) (cwV 2 ht (mx_gV (C := "MessageCrossbar") mw_262 mw_263 mw_264 mw_1 mw_265) rfl rfl rfl (by decide +kernel) ⟨Nat.le_of_ble_eq_true rfl, Nat.le_of_ble_eq_true rfl⟩) (lz_preX hV hZ hS [.int m, .int y]) rfl rfl hl.1 rfl (lv_room (Nat.le_of_ble_eq_true rfl)) dZ_accept_5 ⟨Nat.le_of_ble_eq_true rfl, Nat.le_of_ble_eq_true rfl⟩) hV hS (fun ce q9 H locs hV hS h1 h2 h3 => ?_)
  refine vx_catch hown [] ⟨0, 17, 20, 13⟩ [] htab (fun z hz => nomatch hz) rfl (by decide) (ht _ mw_173) (va_Nw.use rfl hZ.2.2.2.1) h1 h2 h3 ?_
  refine lv_astore (lv' := [(4, .ref q9), (0, .ref (ad 0)), (1, .int m), (2, .int y), (3, .ref (ad 87))]) hx hb dZ_accept_20 hl (by decide) rfl (fun ls hl => ?_)
  refine lv_iconst (v := nI 1) hx hb dZ_accept_22 (by decide) ?_
  exact gx_iret hx hb hr hV hS ⟨rfl, rfl⟩ dZ_accept_23 hlk

set_option maxHeartbeats 4000000 in
set_option maxRecDepth 100000 in
theorem z_tick (l : Launch) {D : va_G} {K : Nat → ClassId} {ad : Nat → Nat} {σ : Nat → Nat → Int32} {τ : Nat → Nat → Int64} {ρ : Nat → Nat → Nat} {μ : Nat → Int64} {lt : Int64} {o : Nat → Int64} {n : Nat} (hn : n ≤ 10000) {ρr : Nat → Nat → Nat} {μr : Nat → Int64} {ltr : Int64} {pl : Nat → Nat → List Nat} (hR : rr_R σ τ ρr μr ltr pl) (hmv : ρr 0 1 + 16 * n + 64 < 2 ^ 31) : Met l yZ_tick (Cond.codeWith yZ_tick method_5_code 4 (some .int) [(0, 9, 12, 13)] :: mx_T) { frames := 7, cells := 1, slots := 6, locals := 158 } (va_Pc [.ref (ad 0), .int (nI n), .ref (ad 87)] (lz_P D K ad σ τ ρ μ lt o)) (lz_Qi D K ad (fun rr u => rr = nI 0 ∧ ∃ (r : Int32) (σ' : Nat → Nat → Int32) (τ' : Nat → Nat → Int64) (o' : Nat → Int64), o' 0 = r.toInt64 ∧ ((fun (rr : Int32) (u : gx_U) => ∃ pl' : Nat → Nat → List Nat, rr = nI ((mq_tick ρr μr n).1 16 0) ∧ rr_R u.1 u.2 (mq_tick ρr μr n).1 (mq_tick ρr μr n).2 ltr pl') r (σ', τ')) ∧ u = (lz_s σ' ρ, lz_t τ' μ lt o'))) 1 6 (gx_A ad 88) := by
  refine hz_met (by decide) rfl (Nat.le_of_ble_eq_true rfl) ?_
  intro pg ev s mid as below mth c ls hx hb hr hml ht hown hlk htab hargs hB hl
  obtain ⟨hV, hZ⟩ := hB
  have hS : va_S (gx_A ad 88) s.heap s.heap [] := va_S.rf
  have hl : lv_has ls 4 [(0, .ref (ad 0)), (1, .int (nI n)), (2, .ref (ad 87))] := hl
  refine lv_aload_n hx hb dZ_tick_0 rfl (lv_at hl 2 rfl) ?_
  refine lv_iconst (v := nI 0) hx hb dZ_tick_1 (by decide) ?_
  refine lv_aload_n hx hb dZ_tick_2 rfl (lv_at hl 0 rfl) ?_
  refine lv_iload_n hx hb dZ_tick_3 rfl (lv_at hl 1 rfl) ?_
  refine lz_calliC (va_runV (As := [.int (nI n)]) (rest := [.int (nI 0), .ref (ad 87)]) ⟨hx, hb, hml, hown, ht⟩ (k_X_tick l hn hR hmv) (cwV 1 ht (mx_gV (C := "MessageCrossbar") mw_269 mw_270 mw_271 mw_1 mw_272) rfl rfl rfl (by decide +kernel) ⟨Nat.le_of_ble_eq_true rfl, Nat.le_of_ble_eq_true rfl⟩) (lz_preC hV hZ hS [.int (nI n)]) rfl rfl hl.1 rfl (lv_room (Nat.le_of_ble_eq_true rfl)) dZ_tick_4 ⟨Nat.le_of_ble_eq_true rfl, Nat.le_of_ble_eq_true rfl⟩) hV hS (fun r σ' τ' H locs hp hV hS => ?_)
  refine lv_i2l hx hb dZ_tick_7 rfl ?_
  refine lz_ast hx hb hV hS dZ_tick_8 (fun o' H locs ho hV hS => ?_)
  refine lv_goto (tgt := 15) hx hb dZ_tick_9 (by decide) ?_
  refine lv_iconst (v := nI 0) hx hb dZ_tick_15 (by decide) ?_
  refine W.widen (k := 1) (n := 6) (by omega) (by omega) ?_
  exact gx_iret hx hb hr hV hS ⟨rfl, r, σ', τ', o', ho, hp, rfl⟩ dZ_tick_16 hlk

set_option maxHeartbeats 4000000 in
set_option maxRecDepth 100000 in
theorem z_tickB (l : Launch) (hlt : l.stackTraces = false) {D : va_G} {K : Nat → ClassId} {ad : Nat → Nat} {σ : Nat → Nat → Int32} {τ : Nat → Nat → Int64} {ρ : Nat → Nat → Nat} {μ : Nat → Int64} {lt : Int64} {o : Nat → Int64} {n : Int32} (hbad : ¬ (0 ≤ n ∧ n ≤ nI 10000)) : Met l yZ_tick (Cond.codeWith yZ_tick method_5_code 4 (some .int) [(0, 9, 12, 13)] :: mx_T) { frames := 7, cells := 1, slots := 6, locals := 158 } (va_Pc [.ref (ad 0), .int n, .ref (ad 87)] (lz_P D K ad σ τ ρ μ lt o)) (lz_Qi D K ad (fun rr u => rr = nI 1 ∧ u = (lz_s σ ρ, lz_t τ μ lt o))) 1 6 (gx_A ad 88) := by
  refine hz_met (by decide) rfl (Nat.le_of_ble_eq_true rfl) ?_
  intro pg ev s mid as below mth c ls hx hb hr hml ht hown hlk htab hargs hB hl
  obtain ⟨hV, hZ⟩ := hB
  have hS : va_S (gx_A ad 88) s.heap s.heap [] := va_S.rf
  have hl : lv_has ls 4 [(0, .ref (ad 0)), (1, .int n), (2, .ref (ad 87))] := hl
  refine lv_aload_n hx hb dZ_tick_0 rfl (lv_at hl 2 rfl) ?_
  refine lv_iconst (v := nI 0) hx hb dZ_tick_1 (by decide) ?_
  refine lv_aload_n hx hb dZ_tick_2 rfl (lv_at hl 0 rfl) ?_
  refine lv_iload_n hx hb dZ_tick_3 rfl (lv_at hl 1 rfl) ?_
  refine lz_callX (vx_runV (As := [.int n]) (rest := [.int (nI 0), .ref (ad 87)]) ⟨hx, hb, hml, hown, ht⟩ (x_X_tick l hlt hbad) (cwV 1 ht (mx_gV (C := "MessageCrossbar") mw_269 mw_270 mw_271 mw_1 mw_272) rfl rfl rfl (by decide +kernel) ⟨Nat.le_of_ble_eq_true rfl, Nat.le_of_ble_eq_true rfl⟩) (lz_preX hV hZ hS [.int n]) rfl rfl hl.1 rfl (lv_room (Nat.le_of_ble_eq_true rfl)) dZ_tick_4 ⟨Nat.le_of_ble_eq_true rfl, Nat.le_of_ble_eq_true rfl⟩) hV hS (fun ce q9 H locs hV hS h1 h2 h3 => ?_)
  refine vx_catch hown [] ⟨0, 9, 12, 13⟩ [] htab (fun z hz => nomatch hz) rfl (by decide) (ht _ mw_173) (va_Nw.use rfl hZ.2.2.2.1) h1 h2 h3 ?_
  refine lv_astore_n (lv' := [(3, .ref q9), (0, .ref (ad 0)), (1, .int n), (2, .ref (ad 87))]) hx hb dZ_tick_12 rfl hl (by decide) rfl (fun ls hl => ?_)
  refine lv_iconst (v := nI 1) hx hb dZ_tick_13 (by decide) ?_
  exact gx_iret hx hb hr hV hS ⟨rfl, rfl⟩ dZ_tick_14 hlk

set_option maxHeartbeats 4000000 in
set_option maxRecDepth 100000 in
theorem z_take (l : Launch) {D : va_G} {K : Nat → ClassId} {ad : Nat → Nat} {σ : Nat → Nat → Int32} {τ : Nat → Nat → Int64} {ρ : Nat → Nat → Nat} {μ : Nat → Int64} {lt : Int64} {o : Nat → Int64} {m : Nat} (hm : m < 3) {ρr : Nat → Nat → Nat} {μr : Nat → Int64} {ltr : Int64} {pl : Nat → Nat → List Nat} (hR : rr_R σ τ ρr μr ltr pl) : Met l yZ_take (Cond.codeWith yZ_take method_6_code 4 (some .int) [(0, 9, 12, 13)] :: mx_T) { frames := 7, cells := 1, slots := 6, locals := 107 } (va_Pc [.ref (ad 0), .int (nI m), .ref (ad 87)] (lz_P D K ad σ τ ρ μ lt o)) (lz_Qi D K ad (fun rr u => rr = nI 0 ∧ ∃ (r : Int32) (σ' : Nat → Nat → Int32) (τ' : Nat → Nat → Int64) (o' : Nat → Int64), o' 0 = r.toInt64 ∧ ((fun (rr : Int32) (u : gx_U) => (pl 5 m = [] → rr = -1 ∧ u = (σ, τ)) ∧ ∀ x t, pl 5 m = x :: t → rr = nI (x % 8 + 8 * ρr 3 x + (if 640 ≤ ρr 5 x then 32 else 0)) ∧ rr_R u.1 u.2 (mq_tk ρr x) μr (τ (43 + x) 0) (mq_set pl 5 m t)) r (σ', τ')) ∧ u = (lz_s σ' ρ, lz_t τ' μ lt o'))) 1 6 (gx_A ad 88) := by
  refine hz_met (by decide) rfl (Nat.le_of_ble_eq_true rfl) ?_
  intro pg ev s mid as below mth c ls hx hb hr hml ht hown hlk htab hargs hB hl
  obtain ⟨hV, hZ⟩ := hB
  have hS : va_S (gx_A ad 88) s.heap s.heap [] := va_S.rf
  have hl : lv_has ls 4 [(0, .ref (ad 0)), (1, .int (nI m)), (2, .ref (ad 87))] := hl
  refine lv_aload_n hx hb dZ_take_0 rfl (lv_at hl 2 rfl) ?_
  refine lv_iconst (v := nI 0) hx hb dZ_take_1 (by decide) ?_
  refine lv_aload_n hx hb dZ_take_2 rfl (lv_at hl 0 rfl) ?_
  refine lv_iload_n hx hb dZ_take_3 rfl (lv_at hl 1 rfl) ?_
  refine lz_calliC (va_runV (As := [.int (nI m)]) (rest := [.int (nI 0), .ref (ad 87)]) ⟨hx, hb, hml, hown, ht⟩ (k_X_take l hm hR) (cwV 1 ht (mx_gV (C := "MessageCrossbar") mw_414 mw_415 mw_416 mw_1 mw_417) rfl rfl rfl (by decide +kernel) ⟨Nat.le_of_ble_eq_true rfl, Nat.le_of_ble_eq_true rfl⟩) (lz_preC hV hZ hS [.int (nI m)]) rfl rfl hl.1 rfl (lv_room (Nat.le_of_ble_eq_true rfl)) dZ_take_4 ⟨Nat.le_of_ble_eq_true rfl, Nat.le_of_ble_eq_true rfl⟩) hV hS (fun r σ' τ' H locs hp hV hS => ?_)
  refine lv_i2l hx hb dZ_take_7 rfl ?_
  refine lz_ast hx hb hV hS dZ_take_8 (fun o' H locs ho hV hS => ?_)
  refine lv_goto (tgt := 15) hx hb dZ_take_9 (by decide) ?_
  refine lv_iconst (v := nI 0) hx hb dZ_take_15 (by decide) ?_
  refine W.widen (k := 1) (n := 6) (by omega) (by omega) ?_
  exact gx_iret hx hb hr hV hS ⟨rfl, r, σ', τ', o', ho, hp, rfl⟩ dZ_take_16 hlk

set_option maxHeartbeats 4000000 in
set_option maxRecDepth 100000 in
theorem z_takeB (l : Launch) (hlt : l.stackTraces = false) {D : va_G} {K : Nat → ClassId} {ad : Nat → Nat} {σ : Nat → Nat → Int32} {τ : Nat → Nat → Int64} {ρ : Nat → Nat → Nat} {μ : Nat → Int64} {lt : Int64} {o : Nat → Int64} {m : Int32} (hbad : ¬ (0 ≤ m ∧ m < nI 3)) : Met l yZ_take (Cond.codeWith yZ_take method_6_code 4 (some .int) [(0, 9, 12, 13)] :: mx_T) { frames := 7, cells := 1, slots := 6, locals := 107 } (va_Pc [.ref (ad 0), .int m, .ref (ad 87)] (lz_P D K ad σ τ ρ μ lt o)) (lz_Qi D K ad (fun rr u => rr = nI 1 ∧ u = (lz_s σ ρ, lz_t τ μ lt o))) 1 6 (gx_A ad 88) := by
  refine hz_met (by decide) rfl (Nat.le_of_ble_eq_true rfl) ?_
  intro pg ev s mid as below mth c ls hx hb hr hml ht hown hlk htab hargs hB hl
  obtain ⟨hV, hZ⟩ := hB
  have hS : va_S (gx_A ad 88) s.heap s.heap [] := va_S.rf
  have hl : lv_has ls 4 [(0, .ref (ad 0)), (1, .int m), (2, .ref (ad 87))] := hl
  refine lv_aload_n hx hb dZ_take_0 rfl (lv_at hl 2 rfl) ?_
  refine lv_iconst (v := nI 0) hx hb dZ_take_1 (by decide) ?_
  refine lv_aload_n hx hb dZ_take_2 rfl (lv_at hl 0 rfl) ?_
  refine lv_iload_n hx hb dZ_take_3 rfl (lv_at hl 1 rfl) ?_
  refine lz_callX (vx_runV (As := [.int m]) (rest := [.int (nI 0), .ref (ad 87)]) ⟨hx, hb, hml, hown, ht⟩ (x_X_take l hlt hbad) (cwV 1 ht (mx_gV (C := "MessageCrossbar") mw_414 mw_415 mw_416 mw_1 mw_417) rfl rfl rfl (by decide +kernel) ⟨Nat.le_of_ble_eq_true rfl, Nat.le_of_ble_eq_true rfl⟩) (lz_preX hV hZ hS [.int m]) rfl rfl hl.1 rfl (lv_room (Nat.le_of_ble_eq_true rfl)) dZ_take_4 ⟨Nat.le_of_ble_eq_true rfl, Nat.le_of_ble_eq_true rfl⟩) hV hS (fun ce q9 H locs hV hS h1 h2 h3 => ?_)
  refine vx_catch hown [] ⟨0, 9, 12, 13⟩ [] htab (fun z hz => nomatch hz) rfl (by decide) (ht _ mw_173) (va_Nw.use rfl hZ.2.2.2.1) h1 h2 h3 ?_
  refine lv_astore_n (lv' := [(3, .ref q9), (0, .ref (ad 0)), (1, .int m), (2, .ref (ad 87))]) hx hb dZ_take_12 rfl hl (by decide) rfl (fun ls hl => ?_)
  refine lv_iconst (v := nI 1) hx hb dZ_take_13 (by decide) ?_
  exact gx_iret hx hb hr hV hS ⟨rfl, rfl⟩ dZ_take_14 hlk

set_option maxHeartbeats 4000000 in
set_option maxRecDepth 100000 in
theorem z_port (l : Launch) {D : va_G} {K : Nat → ClassId} {ad : Nat → Nat} {σ : Nat → Nat → Int32} {τ : Nat → Nat → Int64} {ρ : Nat → Nat → Nat} {μ : Nat → Int64} {lt : Int64} {o : Nat → Int64} {p w : Nat} (hp0 : p < 4) (hw : w < 5) {ρr : Nat → Nat → Nat} {μr : Nat → Int64} {ltr : Int64} {pl : Nat → Nat → List Nat} (hR : rr_R σ τ ρr μr ltr pl) : Met l yZ_port (Cond.codeWith yZ_port method_7_code 5 (some .int) [(0, 10, 13, 30), (0, 10, 17, 13)] :: mx_T) { frames := 7, cells := 1, slots := 6, locals := 104 } (va_Pc [.ref (ad 0), .int (nI p), .int (nI w), .ref (ad 87)] (lz_P D K ad σ τ ρ μ lt o)) (lz_Qi D K ad (fun rr u => rr = nI 0 ∧ ∃ (r : Int32) (σ' : Nat → Nat → Int32) (τ' : Nat → Nat → Int64) (o' : Nat → Int64), o' 0 = r.toInt64 ∧ ((fun (rr : Int32) (u : gx_U) => rr = (match w with | 0 => nI (pl 2 (3 + p)).length | 1 => (if (pl 3 (3 + p)).length = 0 then -1 else nI (ρr 12 p)) | 2 => nI (pl 4 (3 + p)).length | 3 => nI (mq_cnt (fun q => decide (σ (23 + 6 * p) q ≠ -1)) 4) | _ => nI (ρr 13 p)) ∧ u = (σ, τ)) r (σ', τ')) ∧ u = (lz_s σ' ρ, lz_t τ' μ lt o'))) 1 6 (gx_A ad 88) := by
  refine hz_met (by decide) rfl (Nat.le_of_ble_eq_true rfl) ?_
  intro pg ev s mid as below mth c ls hx hb hr hml ht hown hlk htab hargs hB hl
  obtain ⟨hV, hZ⟩ := hB
  have hS : va_S (gx_A ad 88) s.heap s.heap [] := va_S.rf
  have hl : lv_has ls 5 [(0, .ref (ad 0)), (1, .int (nI p)), (2, .int (nI w)), (3, .ref (ad 87))] := hl
  refine lv_aload_n hx hb dZ_port_0 rfl (lv_at hl 3 rfl) ?_
  refine lv_iconst (v := nI 0) hx hb dZ_port_1 (by decide) ?_
  refine lv_aload_n hx hb dZ_port_2 rfl (lv_at hl 0 rfl) ?_
  refine lv_iload_n hx hb dZ_port_3 rfl (lv_at hl 1 rfl) ?_
  refine lv_iload_n hx hb dZ_port_4 rfl (lv_at hl 2 rfl) ?_
  refine lz_calliC (va_runV (As := [.int (nI p), .int (nI w)]) (rest := [.int (nI 0), .ref (ad 87)]) ⟨hx, hb, hml, hown, ht⟩ (k_X_port l hp0 hw hR) (cwV 2 ht (mx_gV (C := "MessageCrossbar") mw_425 mw_426 mw_427 mw_1 mw_428) rfl rfl rfl (by decide +kernel) ⟨Nat.le_of_ble_eq_true rfl, Nat.le_of_ble_eq_true rfl⟩) (lz_preC hV hZ hS [.int (nI p), .int (nI w)]) rfl rfl hl.1 rfl (lv_room (Nat.le_of_ble_eq_true rfl)) dZ_port_5 ⟨Nat.le_of_ble_eq_true rfl, Nat.le_of_ble_eq_true rfl⟩) hV hS (fun r σ' τ' H locs hp hV hS => ?_)
  refine lv_i2l hx hb dZ_port_8 rfl ?_
  refine lz_ast hx hb hV hS dZ_port_9 (fun o' H locs ho hV hS => ?_)
  refine lv_goto (tgt := 21) hx hb dZ_port_10 (by decide) ?_
  refine lv_iconst (v := nI 0) hx hb dZ_port_21 (by decide) ?_
  refine W.widen (k := 1) (n := 6) (by omega) (by omega) ?_
  exact gx_iret hx hb hr hV hS ⟨rfl, r, σ', τ', o', ho, hp, rfl⟩ dZ_port_22 hlk

set_option maxHeartbeats 4000000 in
set_option maxRecDepth 100000 in
theorem z_portB (l : Launch) (hlt : l.stackTraces = false) {D : va_G} {K : Nat → ClassId} {ad : Nat → Nat} {σ : Nat → Nat → Int32} {τ : Nat → Nat → Int64} {ρ : Nat → Nat → Nat} {μ : Nat → Int64} {lt : Int64} {o : Nat → Int64} {p w : Int32} (hbad : ¬ (0 ≤ p ∧ p < nI 4)) : Met l yZ_port (Cond.codeWith yZ_port method_7_code 5 (some .int) [(0, 10, 13, 30), (0, 10, 17, 13)] :: mx_T) { frames := 7, cells := 1, slots := 6, locals := 104 } (va_Pc [.ref (ad 0), .int p, .int w, .ref (ad 87)] (lz_P D K ad σ τ ρ μ lt o)) (lz_Qi D K ad (fun rr u => rr = nI 1 ∧ u = (lz_s σ ρ, lz_t τ μ lt o))) 1 6 (gx_A ad 88) := by
  refine hz_met (by decide) rfl (Nat.le_of_ble_eq_true rfl) ?_
  intro pg ev s mid as below mth c ls hx hb hr hml ht hown hlk htab hargs hB hl
  obtain ⟨hV, hZ⟩ := hB
  have hS : va_S (gx_A ad 88) s.heap s.heap [] := va_S.rf
  have hl : lv_has ls 5 [(0, .ref (ad 0)), (1, .int p), (2, .int w), (3, .ref (ad 87))] := hl
  refine lv_aload_n hx hb dZ_port_0 rfl (lv_at hl 3 rfl) ?_
  refine lv_iconst (v := nI 0) hx hb dZ_port_1 (by decide) ?_
  refine lv_aload_n hx hb dZ_port_2 rfl (lv_at hl 0 rfl) ?_
  refine lv_iload_n hx hb dZ_port_3 rfl (lv_at hl 1 rfl) ?_
  refine lv_iload_n hx hb dZ_port_4 rfl (lv_at hl 2 rfl) ?_
  refine lz_callX (vx_runV (As := [.int p, .int w]) (rest := [.int (nI 0), .ref (ad 87)]) ⟨hx, hb, hml, hown, ht⟩ (x_X_port l hlt hbad) (cwV 2 ht (mx_gV (C := "MessageCrossbar") mw_425 mw_426 mw_427 mw_1 mw_428) rfl rfl rfl (by decide +kernel) ⟨Nat.le_of_ble_eq_true rfl, Nat.le_of_ble_eq_true rfl⟩) (lz_preX hV hZ hS [.int p, .int w]) rfl rfl hl.1 rfl (lv_room (Nat.le_of_ble_eq_true rfl)) dZ_port_5 ⟨Nat.le_of_ble_eq_true rfl, Nat.le_of_ble_eq_true rfl⟩) hV hS (fun ce q9 H locs hV hS h1 h2 h3 => ?_)
  refine vx_catch hown [] ⟨0, 10, 13, 30⟩ [⟨0, 10, 17, 13⟩] htab (fun z hz => nomatch hz) rfl (by decide) (ht _ mw_424) (va_Nw.use rfl hZ.2.2.2.2.1) h1 h2 h3 ?_
  refine lv_astore (lv' := [(4, .ref q9), (0, .ref (ad 0)), (1, .int p), (2, .int w), (3, .ref (ad 87))]) hx hb dZ_port_13 hl (by decide) rfl (fun ls hl => ?_)
  refine lv_iconst (v := nI 1) hx hb dZ_port_15 (by decide) ?_
  exact gx_iret hx hb hr hV hS ⟨rfl, rfl⟩ dZ_port_16 hlk

set_option maxHeartbeats 4000000 in
set_option maxRecDepth 100000 in
theorem z_portC (l : Launch) (hlt : l.stackTraces = false) {D : va_G} {K : Nat → ClassId} {ad : Nat → Nat} {σ : Nat → Nat → Int32} {τ : Nat → Nat → Int64} {ρ : Nat → Nat → Nat} {μ : Nat → Int64} {lt : Int64} {o : Nat → Int64} {p : Nat} {w : Int32} (hp0 : p < 4) (hbad : ¬ (0 ≤ w ∧ w < nI 5)) : Met l yZ_port (Cond.codeWith yZ_port method_7_code 5 (some .int) [(0, 10, 13, 30), (0, 10, 17, 13)] :: mx_T) { frames := 7, cells := 1, slots := 6, locals := 104 } (va_Pc [.ref (ad 0), .int (nI p), .int w, .ref (ad 87)] (lz_P D K ad σ τ ρ μ lt o)) (lz_Qi D K ad (fun rr u => rr = nI 2 ∧ u = (lz_s σ ρ, lz_t τ μ lt o))) 1 6 (gx_A ad 88) := by
  refine hz_met (by decide) rfl (Nat.le_of_ble_eq_true rfl) ?_
  intro pg ev s mid as below mth c ls hx hb hr hml ht hown hlk htab hargs hB hl
  obtain ⟨hV, hZ⟩ := hB
  have hS : va_S (gx_A ad 88) s.heap s.heap [] := va_S.rf
  have hl : lv_has ls 5 [(0, .ref (ad 0)), (1, .int (nI p)), (2, .int w), (3, .ref (ad 87))] := hl
  refine lv_aload_n hx hb dZ_port_0 rfl (lv_at hl 3 rfl) ?_
  refine lv_iconst (v := nI 0) hx hb dZ_port_1 (by decide) ?_
  refine lv_aload_n hx hb dZ_port_2 rfl (lv_at hl 0 rfl) ?_
  refine lv_iload_n hx hb dZ_port_3 rfl (lv_at hl 1 rfl) ?_
  refine lv_iload_n hx hb dZ_port_4 rfl (lv_at hl 2 rfl) ?_
  refine lz_callX (vx_runV (As := [.int (nI p), .int w]) (rest := [.int (nI 0), .ref (ad 87)]) ⟨hx, hb, hml, hown, ht⟩ (x_X_portW l hlt hp0 hbad) (cwV 2 ht (mx_gV (C := "MessageCrossbar") mw_425 mw_426 mw_427 mw_1 mw_428) rfl rfl rfl (by decide +kernel) ⟨Nat.le_of_ble_eq_true rfl, Nat.le_of_ble_eq_true rfl⟩) (lz_preX hV hZ hS [.int (nI p), .int w]) rfl rfl hl.1 rfl (lv_room (Nat.le_of_ble_eq_true rfl)) dZ_port_5 ⟨Nat.le_of_ble_eq_true rfl, Nat.le_of_ble_eq_true rfl⟩) hV hS (fun ce q9 H locs hV hS h1 h2 h3 => ?_)
  refine vx_catch hown [⟨0, 10, 13, 30⟩] ⟨0, 10, 17, 13⟩ [] htab (fun z hz => by rcases List.mem_cons.mp hz with rfl | hz; exact Or.inr ⟨by decide, "java/lang/IndexOutOfBoundsException", ht _ mw_424, hZ.2.2.2.2.2⟩; exact nomatch hz) rfl (by decide) (ht _ mw_173) (va_Nw.use rfl hZ.2.2.2.1) h1 h2 h3 ?_
  refine lv_astore (lv' := [(4, .ref q9), (0, .ref (ad 0)), (1, .int (nI p)), (2, .int w), (3, .ref (ad 87))]) hx hb dZ_port_17 hl (by decide) rfl (fun ls hl => ?_)
  refine lv_iconst (v := nI 2) hx hb dZ_port_19 (by decide) ?_
  exact gx_iret hx hb hr hV hS ⟨rfl, rfl⟩ dZ_port_20 hlk

set_option maxHeartbeats 4000000 in
set_option maxRecDepth 100000 in
theorem z_owner (l : Launch) {D : va_G} {K : Nat → ClassId} {ad : Nat → Nat} {σ : Nat → Nat → Int32} {τ : Nat → Nat → Int64} {ρ : Nat → Nat → Nat} {μ : Nat → Int64} {lt : Int64} {o : Nat → Int64} {p i : Nat} (hp0 : p < 4) (hi : i < 4) {ρr : Nat → Nat → Nat} {μr : Nat → Int64} {ltr : Int64} {pl : Nat → Nat → List Nat} (hR : rr_R σ τ ρr μr ltr pl) : Met l yZ_owner (Cond.codeWith yZ_owner method_8_code 5 (some .int) [(0, 10, 13, 30)] :: mx_T) { frames := 7, cells := 1, slots := 6, locals := 103 } (va_Pc [.ref (ad 0), .int (nI p), .int (nI i), .ref (ad 87)] (lz_P D K ad σ τ ρ μ lt o)) (lz_Qi D K ad (fun rr u => rr = nI 0 ∧ ∃ (r : Int32) (σ' : Nat → Nat → Int32) (τ' : Nat → Nat → Int64) (o' : Nat → Int64), o' 0 = r.toInt64 ∧ ((fun (rr : Int32) (u : gx_U) => rr = mq_oI (mq_holder ρr p i) ∧ u = (σ, τ)) r (σ', τ')) ∧ u = (lz_s σ' ρ, lz_t τ' μ lt o'))) 1 6 (gx_A ad 88) := by
  refine hz_met (by decide) rfl (Nat.le_of_ble_eq_true rfl) ?_
  intro pg ev s mid as below mth c ls hx hb hr hml ht hown hlk htab hargs hB hl
  obtain ⟨hV, hZ⟩ := hB
  have hS : va_S (gx_A ad 88) s.heap s.heap [] := va_S.rf
  have hl : lv_has ls 5 [(0, .ref (ad 0)), (1, .int (nI p)), (2, .int (nI i)), (3, .ref (ad 87))] := hl
  refine lv_aload_n hx hb dZ_owner_0 rfl (lv_at hl 3 rfl) ?_
  refine lv_iconst (v := nI 0) hx hb dZ_owner_1 (by decide) ?_
  refine lv_aload_n hx hb dZ_owner_2 rfl (lv_at hl 0 rfl) ?_
  refine lv_iload_n hx hb dZ_owner_3 rfl (lv_at hl 1 rfl) ?_
  refine lv_iload_n hx hb dZ_owner_4 rfl (lv_at hl 2 rfl) ?_
  refine lz_calliC (va_runV (As := [.int (nI p), .int (nI i)]) (rest := [.int (nI 0), .ref (ad 87)]) ⟨hx, hb, hml, hown, ht⟩ (k_X_owner l hp0 hi hR) (cwV 2 ht (mx_gV (C := "MessageCrossbar") mw_448 mw_449 mw_450 mw_1 mw_451) rfl rfl rfl (by decide +kernel) ⟨Nat.le_of_ble_eq_true rfl, Nat.le_of_ble_eq_true rfl⟩) (lz_preC hV hZ hS [.int (nI p), .int (nI i)]) rfl rfl hl.1 rfl (lv_room (Nat.le_of_ble_eq_true rfl)) dZ_owner_5 ⟨Nat.le_of_ble_eq_true rfl, Nat.le_of_ble_eq_true rfl⟩) hV hS (fun r σ' τ' H locs hp hV hS => ?_)
  refine lv_i2l hx hb dZ_owner_8 rfl ?_
  refine lz_ast hx hb hV hS dZ_owner_9 (fun o' H locs ho hV hS => ?_)
  refine lv_goto (tgt := 17) hx hb dZ_owner_10 (by decide) ?_
  refine lv_iconst (v := nI 0) hx hb dZ_owner_17 (by decide) ?_
  refine W.widen (k := 1) (n := 6) (by omega) (by omega) ?_
  exact gx_iret hx hb hr hV hS ⟨rfl, r, σ', τ', o', ho, hp, rfl⟩ dZ_owner_18 hlk

set_option maxHeartbeats 4000000 in
set_option maxRecDepth 100000 in
theorem z_ownerB (l : Launch) (hlt : l.stackTraces = false) {D : va_G} {K : Nat → ClassId} {ad : Nat → Nat} {σ : Nat → Nat → Int32} {τ : Nat → Nat → Int64} {ρ : Nat → Nat → Nat} {μ : Nat → Int64} {lt : Int64} {o : Nat → Int64} {p i : Int32} (hbad : ¬ ((0 ≤ p ∧ p < nI 4) ∧ (0 ≤ i ∧ i < nI 4))) : Met l yZ_owner (Cond.codeWith yZ_owner method_8_code 5 (some .int) [(0, 10, 13, 30)] :: mx_T) { frames := 7, cells := 1, slots := 6, locals := 103 } (va_Pc [.ref (ad 0), .int p, .int i, .ref (ad 87)] (lz_P D K ad σ τ ρ μ lt o)) (lz_Qi D K ad (fun rr u => rr = nI 1 ∧ u = (lz_s σ ρ, lz_t τ μ lt o))) 1 6 (gx_A ad 88) := by
  refine hz_met (by decide) rfl (Nat.le_of_ble_eq_true rfl) ?_
  intro pg ev s mid as below mth c ls hx hb hr hml ht hown hlk htab hargs hB hl
  obtain ⟨hV, hZ⟩ := hB
  have hS : va_S (gx_A ad 88) s.heap s.heap [] := va_S.rf
  have hl : lv_has ls 5 [(0, .ref (ad 0)), (1, .int p), (2, .int i), (3, .ref (ad 87))] := hl
  refine lv_aload_n hx hb dZ_owner_0 rfl (lv_at hl 3 rfl) ?_
  refine lv_iconst (v := nI 0) hx hb dZ_owner_1 (by decide) ?_
  refine lv_aload_n hx hb dZ_owner_2 rfl (lv_at hl 0 rfl) ?_
  refine lv_iload_n hx hb dZ_owner_3 rfl (lv_at hl 1 rfl) ?_
  refine lv_iload_n hx hb dZ_owner_4 rfl (lv_at hl 2 rfl) ?_
  refine lz_callX (vx_runV (As := [.int p, .int i]) (rest := [.int (nI 0), .ref (ad 87)]) ⟨hx, hb, hml, hown, ht⟩ (x_X_owner l hlt hbad) (cwV 2 ht (mx_gV (C := "MessageCrossbar") mw_448 mw_449 mw_450 mw_1 mw_451) rfl rfl rfl (by decide +kernel) ⟨Nat.le_of_ble_eq_true rfl, Nat.le_of_ble_eq_true rfl⟩) (lz_preX hV hZ hS [.int p, .int i]) rfl rfl hl.1 rfl (lv_room (Nat.le_of_ble_eq_true rfl)) dZ_owner_5 ⟨Nat.le_of_ble_eq_true rfl, Nat.le_of_ble_eq_true rfl⟩) hV hS (fun ce q9 H locs hV hS h1 h2 h3 => ?_)
  refine vx_catch hown [] ⟨0, 10, 13, 30⟩ [] htab (fun z hz => nomatch hz) rfl (by decide) (ht _ mw_424) (va_Nw.use rfl hZ.2.2.2.2.1) h1 h2 h3 ?_
  refine lv_astore (lv' := [(4, .ref q9), (0, .ref (ad 0)), (1, .int p), (2, .int i), (3, .ref (ad 87))]) hx hb dZ_owner_13 hl (by decide) rfl (fun ls hl => ?_)
  refine lv_iconst (v := nI 1) hx hb dZ_owner_15 (by decide) ?_
  exact gx_iret hx hb hr hV hS ⟨rfl, rfl⟩ dZ_owner_16 hlk

set_option maxHeartbeats 4000000 in
set_option maxRecDepth 100000 in
theorem z_master (l : Launch) {D : va_G} {K : Nat → ClassId} {ad : Nat → Nat} {σ : Nat → Nat → Int32} {τ : Nat → Nat → Int64} {ρ : Nat → Nat → Nat} {μ : Nat → Int64} {lt : Int64} {o : Nat → Int64} {m w : Nat} (hm : m < 3) (hw : w < 4) {ρr : Nat → Nat → Nat} {μr : Nat → Int64} {ltr : Int64} {pl : Nat → Nat → List Nat} (hR : rr_R σ τ ρr μr ltr pl) : Met l yZ_master (Cond.codeWith yZ_master method_9_code 5 (some .int) [(0, 10, 13, 30), (0, 10, 17, 13)] :: mx_T) { frames := 7, cells := 1, slots := 6, locals := 104 } (va_Pc [.ref (ad 0), .int (nI m), .int (nI w), .ref (ad 87)] (lz_P D K ad σ τ ρ μ lt o)) (lz_Qi D K ad (fun rr u => rr = nI 0 ∧ ∃ (r : Int32) (σ' : Nat → Nat → Int32) (τ' : Nat → Nat → Int64) (o' : Nat → Int64), o' 0 = r.toInt64 ∧ ((fun (rr : Int32) (u : gx_U) => rr = (match w with | 0 => nI (pl 1 m).length | 1 => nI (pl 5 m).length | 2 => σ (2 + 5 * m) 2 | _ => nI (1 - ρr 9 m)) ∧ u = (σ, τ)) r (σ', τ')) ∧ u = (lz_s σ' ρ, lz_t τ' μ lt o'))) 1 6 (gx_A ad 88) := by
  refine hz_met (by decide) rfl (Nat.le_of_ble_eq_true rfl) ?_
  intro pg ev s mid as below mth c ls hx hb hr hml ht hown hlk htab hargs hB hl
  obtain ⟨hV, hZ⟩ := hB
  have hS : va_S (gx_A ad 88) s.heap s.heap [] := va_S.rf
  have hl : lv_has ls 5 [(0, .ref (ad 0)), (1, .int (nI m)), (2, .int (nI w)), (3, .ref (ad 87))] := hl
  refine lv_aload_n hx hb dZ_master_0 rfl (lv_at hl 3 rfl) ?_
  refine lv_iconst (v := nI 0) hx hb dZ_master_1 (by decide) ?_
  refine lv_aload_n hx hb dZ_master_2 rfl (lv_at hl 0 rfl) ?_
  refine lv_iload_n hx hb dZ_master_3 rfl (lv_at hl 1 rfl) ?_
  refine lv_iload_n hx hb dZ_master_4 rfl (lv_at hl 2 rfl) ?_
  refine lz_calliC (va_runV (As := [.int (nI m), .int (nI w)]) (rest := [.int (nI 0), .ref (ad 87)]) ⟨hx, hb, hml, hown, ht⟩ (k_X_master l hm hw hR) (cwV 2 ht (mx_gV (C := "MessageCrossbar") mw_455 mw_456 mw_457 mw_1 mw_458) rfl rfl rfl (by decide +kernel) ⟨Nat.le_of_ble_eq_true rfl, Nat.le_of_ble_eq_true rfl⟩) (lz_preC hV hZ hS [.int (nI m), .int (nI w)]) rfl rfl hl.1 rfl (lv_room (Nat.le_of_ble_eq_true rfl)) dZ_master_5 ⟨Nat.le_of_ble_eq_true rfl, Nat.le_of_ble_eq_true rfl⟩) hV hS (fun r σ' τ' H locs hp hV hS => ?_)
  refine lv_i2l hx hb dZ_master_8 rfl ?_
  refine lz_ast hx hb hV hS dZ_master_9 (fun o' H locs ho hV hS => ?_)
  refine lv_goto (tgt := 21) hx hb dZ_master_10 (by decide) ?_
  refine lv_iconst (v := nI 0) hx hb dZ_master_21 (by decide) ?_
  refine W.widen (k := 1) (n := 6) (by omega) (by omega) ?_
  exact gx_iret hx hb hr hV hS ⟨rfl, r, σ', τ', o', ho, hp, rfl⟩ dZ_master_22 hlk

set_option maxHeartbeats 4000000 in
set_option maxRecDepth 100000 in
theorem z_masterB (l : Launch) (hlt : l.stackTraces = false) {D : va_G} {K : Nat → ClassId} {ad : Nat → Nat} {σ : Nat → Nat → Int32} {τ : Nat → Nat → Int64} {ρ : Nat → Nat → Nat} {μ : Nat → Int64} {lt : Int64} {o : Nat → Int64} {m w : Int32} (hbad : ¬ (0 ≤ m ∧ m < nI 3)) : Met l yZ_master (Cond.codeWith yZ_master method_9_code 5 (some .int) [(0, 10, 13, 30), (0, 10, 17, 13)] :: mx_T) { frames := 7, cells := 1, slots := 6, locals := 104 } (va_Pc [.ref (ad 0), .int m, .int w, .ref (ad 87)] (lz_P D K ad σ τ ρ μ lt o)) (lz_Qi D K ad (fun rr u => rr = nI 1 ∧ u = (lz_s σ ρ, lz_t τ μ lt o))) 1 6 (gx_A ad 88) := by
  refine hz_met (by decide) rfl (Nat.le_of_ble_eq_true rfl) ?_
  intro pg ev s mid as below mth c ls hx hb hr hml ht hown hlk htab hargs hB hl
  obtain ⟨hV, hZ⟩ := hB
  have hS : va_S (gx_A ad 88) s.heap s.heap [] := va_S.rf
  have hl : lv_has ls 5 [(0, .ref (ad 0)), (1, .int m), (2, .int w), (3, .ref (ad 87))] := hl
  refine lv_aload_n hx hb dZ_master_0 rfl (lv_at hl 3 rfl) ?_
  refine lv_iconst (v := nI 0) hx hb dZ_master_1 (by decide) ?_
  refine lv_aload_n hx hb dZ_master_2 rfl (lv_at hl 0 rfl) ?_
  refine lv_iload_n hx hb dZ_master_3 rfl (lv_at hl 1 rfl) ?_
  refine lv_iload_n hx hb dZ_master_4 rfl (lv_at hl 2 rfl) ?_
  refine lz_callX (vx_runV (As := [.int m, .int w]) (rest := [.int (nI 0), .ref (ad 87)]) ⟨hx, hb, hml, hown, ht⟩ (x_X_master l hlt hbad) (cwV 2 ht (mx_gV (C := "MessageCrossbar") mw_455 mw_456 mw_457 mw_1 mw_458) rfl rfl rfl (by decide +kernel) ⟨Nat.le_of_ble_eq_true rfl, Nat.le_of_ble_eq_true rfl⟩) (lz_preX hV hZ hS [.int m, .int w]) rfl rfl hl.1 rfl (lv_room (Nat.le_of_ble_eq_true rfl)) dZ_master_5 ⟨Nat.le_of_ble_eq_true rfl, Nat.le_of_ble_eq_true rfl⟩) hV hS (fun ce q9 H locs hV hS h1 h2 h3 => ?_)
  refine vx_catch hown [] ⟨0, 10, 13, 30⟩ [⟨0, 10, 17, 13⟩] htab (fun z hz => nomatch hz) rfl (by decide) (ht _ mw_424) (va_Nw.use rfl hZ.2.2.2.2.1) h1 h2 h3 ?_
  refine lv_astore (lv' := [(4, .ref q9), (0, .ref (ad 0)), (1, .int m), (2, .int w), (3, .ref (ad 87))]) hx hb dZ_master_13 hl (by decide) rfl (fun ls hl => ?_)
  refine lv_iconst (v := nI 1) hx hb dZ_master_15 (by decide) ?_
  exact gx_iret hx hb hr hV hS ⟨rfl, rfl⟩ dZ_master_16 hlk

set_option maxHeartbeats 4000000 in
set_option maxRecDepth 100000 in
theorem z_masterC (l : Launch) (hlt : l.stackTraces = false) {D : va_G} {K : Nat → ClassId} {ad : Nat → Nat} {σ : Nat → Nat → Int32} {τ : Nat → Nat → Int64} {ρ : Nat → Nat → Nat} {μ : Nat → Int64} {lt : Int64} {o : Nat → Int64} {m : Nat} {w : Int32} (hm : m < 3) (hbad : ¬ (0 ≤ w ∧ w < nI 4)) : Met l yZ_master (Cond.codeWith yZ_master method_9_code 5 (some .int) [(0, 10, 13, 30), (0, 10, 17, 13)] :: mx_T) { frames := 7, cells := 1, slots := 6, locals := 104 } (va_Pc [.ref (ad 0), .int (nI m), .int w, .ref (ad 87)] (lz_P D K ad σ τ ρ μ lt o)) (lz_Qi D K ad (fun rr u => rr = nI 2 ∧ u = (lz_s σ ρ, lz_t τ μ lt o))) 1 6 (gx_A ad 88) := by
  refine hz_met (by decide) rfl (Nat.le_of_ble_eq_true rfl) ?_
  intro pg ev s mid as below mth c ls hx hb hr hml ht hown hlk htab hargs hB hl
  obtain ⟨hV, hZ⟩ := hB
  have hS : va_S (gx_A ad 88) s.heap s.heap [] := va_S.rf
  have hl : lv_has ls 5 [(0, .ref (ad 0)), (1, .int (nI m)), (2, .int w), (3, .ref (ad 87))] := hl
  refine lv_aload_n hx hb dZ_master_0 rfl (lv_at hl 3 rfl) ?_
  refine lv_iconst (v := nI 0) hx hb dZ_master_1 (by decide) ?_
  refine lv_aload_n hx hb dZ_master_2 rfl (lv_at hl 0 rfl) ?_
  refine lv_iload_n hx hb dZ_master_3 rfl (lv_at hl 1 rfl) ?_
  refine lv_iload_n hx hb dZ_master_4 rfl (lv_at hl 2 rfl) ?_
  refine lz_callX (vx_runV (As := [.int (nI m), .int w]) (rest := [.int (nI 0), .ref (ad 87)]) ⟨hx, hb, hml, hown, ht⟩ (x_X_masterW l hlt hm hbad) (cwV 2 ht (mx_gV (C := "MessageCrossbar") mw_455 mw_456 mw_457 mw_1 mw_458) rfl rfl rfl (by decide +kernel) ⟨Nat.le_of_ble_eq_true rfl, Nat.le_of_ble_eq_true rfl⟩) (lz_preX hV hZ hS [.int (nI m), .int w]) rfl rfl hl.1 rfl (lv_room (Nat.le_of_ble_eq_true rfl)) dZ_master_5 ⟨Nat.le_of_ble_eq_true rfl, Nat.le_of_ble_eq_true rfl⟩) hV hS (fun ce q9 H locs hV hS h1 h2 h3 => ?_)
  refine vx_catch hown [⟨0, 10, 13, 30⟩] ⟨0, 10, 17, 13⟩ [] htab (fun z hz => by rcases List.mem_cons.mp hz with rfl | hz; exact Or.inr ⟨by decide, "java/lang/IndexOutOfBoundsException", ht _ mw_424, hZ.2.2.2.2.2⟩; exact nomatch hz) rfl (by decide) (ht _ mw_173) (va_Nw.use rfl hZ.2.2.2.1) h1 h2 h3 ?_
  refine lv_astore (lv' := [(4, .ref q9), (0, .ref (ad 0)), (1, .int (nI m)), (2, .int w), (3, .ref (ad 87))]) hx hb dZ_master_17 hl (by decide) rfl (fun ls hl => ?_)
  refine lv_iconst (v := nI 2) hx hb dZ_master_19 (by decide) ?_
  exact gx_iret hx hb hr hV hS ⟨rfl, rfl⟩ dZ_master_20 hlk

set_option maxHeartbeats 4000000 in
set_option maxRecDepth 100000 in
theorem z_memory (l : Launch) {D : va_G} {K : Nat → ClassId} {ad : Nat → Nat} {σ : Nat → Nat → Int32} {τ : Nat → Nat → Int64} {ρ : Nat → Nat → Nat} {μ : Nat → Int64} {lt : Int64} {o : Nat → Int64} {a : Nat} (ha : a < 640) {ρr : Nat → Nat → Nat} {μr : Nat → Int64} {ltr : Int64} {pl : Nat → Nat → List Nat} (hR : rr_R σ τ ρr μr ltr pl) : Met l yZ_memory (Cond.codeWith yZ_memory method_10_code 4 (some .int) [(0, 9, 12, 30)] :: mx_T) { frames := 7, cells := 1, slots := 6, locals := 102 } (va_Pc [.ref (ad 0), .int (nI a), .ref (ad 87)] (lz_P D K ad σ τ ρ μ lt o)) (lz_Qi D K ad (fun rr u => rr = nI 0 ∧ ∃ (r : Int32) (σ' : Nat → Nat → Int32) (τ' : Nat → Nat → Int64) (o' : Nat → Int64), o' 0 = r.toInt64 ∧ ((fun (rr : Int32) (u : gx_U) => rr = nI (ρr 14 a) ∧ u = (σ, τ)) r (σ', τ')) ∧ u = (lz_s σ' ρ, lz_t τ' μ lt o'))) 1 6 (gx_A ad 88) := by
  refine hz_met (by decide) rfl (Nat.le_of_ble_eq_true rfl) ?_
  intro pg ev s mid as below mth c ls hx hb hr hml ht hown hlk htab hargs hB hl
  obtain ⟨hV, hZ⟩ := hB
  have hS : va_S (gx_A ad 88) s.heap s.heap [] := va_S.rf
  have hl : lv_has ls 4 [(0, .ref (ad 0)), (1, .int (nI a)), (2, .ref (ad 87))] := hl
  refine lv_aload_n hx hb dZ_memory_0 rfl (lv_at hl 2 rfl) ?_
  refine lv_iconst (v := nI 0) hx hb dZ_memory_1 (by decide) ?_
  refine lv_aload_n hx hb dZ_memory_2 rfl (lv_at hl 0 rfl) ?_
  refine lv_iload_n hx hb dZ_memory_3 rfl (lv_at hl 1 rfl) ?_
  refine lz_calliC (va_runV (As := [.int (nI a)]) (rest := [.int (nI 0), .ref (ad 87)]) ⟨hx, hb, hml, hown, ht⟩ (k_X_memory l ha hR) (cwV 1 ht (mx_gV (C := "MessageCrossbar") mw_462 mw_463 mw_464 mw_1 mw_465) rfl rfl rfl (by decide +kernel) ⟨Nat.le_of_ble_eq_true rfl, Nat.le_of_ble_eq_true rfl⟩) (lz_preC hV hZ hS [.int (nI a)]) rfl rfl hl.1 rfl (lv_room (Nat.le_of_ble_eq_true rfl)) dZ_memory_4 ⟨Nat.le_of_ble_eq_true rfl, Nat.le_of_ble_eq_true rfl⟩) hV hS (fun r σ' τ' H locs hp hV hS => ?_)
  refine lv_i2l hx hb dZ_memory_7 rfl ?_
  refine lz_ast hx hb hV hS dZ_memory_8 (fun o' H locs ho hV hS => ?_)
  refine lv_goto (tgt := 15) hx hb dZ_memory_9 (by decide) ?_
  refine lv_iconst (v := nI 0) hx hb dZ_memory_15 (by decide) ?_
  refine W.widen (k := 1) (n := 6) (by omega) (by omega) ?_
  exact gx_iret hx hb hr hV hS ⟨rfl, r, σ', τ', o', ho, hp, rfl⟩ dZ_memory_16 hlk

set_option maxHeartbeats 4000000 in
set_option maxRecDepth 100000 in
theorem z_memoryB (l : Launch) (hlt : l.stackTraces = false) {D : va_G} {K : Nat → ClassId} {ad : Nat → Nat} {σ : Nat → Nat → Int32} {τ : Nat → Nat → Int64} {ρ : Nat → Nat → Nat} {μ : Nat → Int64} {lt : Int64} {o : Nat → Int64} {a : Int32} (hbad : ¬ (0 ≤ a ∧ a < nI 640)) : Met l yZ_memory (Cond.codeWith yZ_memory method_10_code 4 (some .int) [(0, 9, 12, 30)] :: mx_T) { frames := 7, cells := 1, slots := 6, locals := 102 } (va_Pc [.ref (ad 0), .int a, .ref (ad 87)] (lz_P D K ad σ τ ρ μ lt o)) (lz_Qi D K ad (fun rr u => rr = nI 1 ∧ u = (lz_s σ ρ, lz_t τ μ lt o))) 1 6 (gx_A ad 88) := by
  refine hz_met (by decide) rfl (Nat.le_of_ble_eq_true rfl) ?_
  intro pg ev s mid as below mth c ls hx hb hr hml ht hown hlk htab hargs hB hl
  obtain ⟨hV, hZ⟩ := hB
  have hS : va_S (gx_A ad 88) s.heap s.heap [] := va_S.rf
  have hl : lv_has ls 4 [(0, .ref (ad 0)), (1, .int a), (2, .ref (ad 87))] := hl
  refine lv_aload_n hx hb dZ_memory_0 rfl (lv_at hl 2 rfl) ?_
  refine lv_iconst (v := nI 0) hx hb dZ_memory_1 (by decide) ?_
  refine lv_aload_n hx hb dZ_memory_2 rfl (lv_at hl 0 rfl) ?_
  refine lv_iload_n hx hb dZ_memory_3 rfl (lv_at hl 1 rfl) ?_
  refine lz_callX (vx_runV (As := [.int a]) (rest := [.int (nI 0), .ref (ad 87)]) ⟨hx, hb, hml, hown, ht⟩ (x_X_memory l hlt hbad) (cwV 1 ht (mx_gV (C := "MessageCrossbar") mw_462 mw_463 mw_464 mw_1 mw_465) rfl rfl rfl (by decide +kernel) ⟨Nat.le_of_ble_eq_true rfl, Nat.le_of_ble_eq_true rfl⟩) (lz_preX hV hZ hS [.int a]) rfl rfl hl.1 rfl (lv_room (Nat.le_of_ble_eq_true rfl)) dZ_memory_4 ⟨Nat.le_of_ble_eq_true rfl, Nat.le_of_ble_eq_true rfl⟩) hV hS (fun ce q9 H locs hV hS h1 h2 h3 => ?_)
  refine vx_catch hown [] ⟨0, 9, 12, 30⟩ [] htab (fun z hz => nomatch hz) rfl (by decide) (ht _ mw_424) (va_Nw.use rfl hZ.2.2.2.2.1) h1 h2 h3 ?_
  refine lv_astore_n (lv' := [(3, .ref q9), (0, .ref (ad 0)), (1, .int a), (2, .ref (ad 87))]) hx hb dZ_memory_12 rfl hl (by decide) rfl (fun ls hl => ?_)
  refine lv_iconst (v := nI 1) hx hb dZ_memory_13 (by decide) ?_
  exact gx_iret hx hb hr hV hS ⟨rfl, rfl⟩ dZ_memory_14 hlk
