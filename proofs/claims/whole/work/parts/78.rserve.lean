/-! the reference: states that some class state stands for, serve, fetch -/
def rr_X (ρ : Nat → Nat → Nat) (μ : Nat → Int64) (lt : Int64) : Prop := ∃ σ τ pl, rr_R σ τ ρ μ lt pl
theorem rr_X.ans {ρ : Nat → Nat → Nat} {μ : Nat → Int64} {lt : Int64} (h : rr_X ρ μ lt) {m : Nat} (hm : m < 3) : rr_X (mq_answers ρ m) μ lt := by
  obtain ⟨σ, τ, pl, hR⟩ := h
  cases hd : mq_ansD ρ m with
  | none => rw [rr_ansN hd]; exact ⟨σ, τ, pl, hR⟩
  | some k =>
    obtain ⟨_, hl, x, t, hh, hx, he⟩ := rr_ansD hR.2.1 hm hd
    rw [he]
    exact ⟨_, _, _, hR.ans hm (by omega) hh hx hl⟩
theorem rr_X.fetch {ρ : Nat → Nat → Nat} {μ : Nat → Int64} {lt : Int64} (h : rr_X ρ μ lt) {p : Nat} (hp : p < 4) : rr_X (mq_fetch ρ p) μ lt := by
  obtain ⟨σ, τ, pl, hR⟩ := h
  cases hd : mq_reqD ρ p with
  | none => rw [rr_reqN hd]; exact ⟨σ, τ, pl, hR⟩
  | some k =>
    obtain ⟨_, hl, i, x, t, _, hi, hno, hh, hx, he⟩ := rr_reqD hR.2.1 hp hd
    rw [he]
    exact ⟨_, _, _, hR.req hp (by omega) hh hx hl hi hno⟩
theorem rr_R.begX {σ : Nat → Nat → Int32} {τ : Nat → Nat → Int64} {ρ : Nat → Nat → Nat} {μ : Nat → Int64} {lt : Int64} {pl : Nat → Nat → List Nat} (hR : rr_R σ τ ρ μ lt pl) {p : Nat} (hp : p < 4) (hj : pl 3 (3 + p) = []) : rr_X (mq_begin ρ p) μ lt := by
  cases hq : mq_first ρ 2 (3 + p) with
  | none => rw [mq_bg0 hq]; exact ⟨σ, τ, pl, hR⟩
  | some y =>
    have ok2 : mq_ok 2 (3 + p) := Or.inr ⟨by simp, by omega, by omega⟩
    obtain ⟨t, ht⟩ := mq_first_of hR.2.1 ok2 hq
    obtain ⟨h24, h1, -⟩ := hR.2.1.mem ok2 (x := y) (by rw [ht]; simp)
    obtain ⟨-, ⟨z, hz, -, hz2⟩, -⟩ := hR.2.2.2.2.2.1 y h24 (by rw [h1]; decide)
    rw [mq_bg hq]
    exact ⟨_, _, _, hR.beg hp ht hj (by rw [hz2]; exact mq_vlt hp hz)⟩
theorem rr_R.job {σ : Nat → Nat → Int32} {τ : Nat → Nat → Int64} {ρ : Nat → Nat → Nat} {μ : Nat → Int64} {lt : Int64} {pl : Nat → Nat → List Nat} (hR : rr_R σ τ ρ μ lt pl) {p x : Nat} (hp : p < 4) (hq : mq_first ρ 3 (3 + p) = some x) : pl 3 (3 + p) = [x] ∧ x < 24 ∧ ρ 1 x = 3 := by
  have ok3 : mq_ok 3 (3 + p) := Or.inr ⟨by simp, by omega, by omega⟩
  obtain ⟨t, ht⟩ := mq_first_of hR.2.1 ok3 hq
  have hl := (hR.2.2.1 p hp).1
  obtain ⟨h24, h1, -⟩ := hR.2.1.mem ok3 (x := x) (by rw [ht]; simp)
  refine ⟨?_, h24, h1⟩
  rw [ht] at hl ⊢
  cases t with
  | nil => rfl
  | cons a t => simp at hl
theorem rr_R.finX {σ : Nat → Nat → Int32} {τ : Nat → Nat → Int64} {ρ : Nat → Nat → Nat} {μ : Nat → Int64} {lt : Int64} {pl : Nat → Nat → List Nat} (hR : rr_R σ τ ρ μ lt pl) {p x : Nat} (hp : p < 4) (hq : mq_first ρ 3 (3 + p) = some x) (h0 : ¬ 0 < ρ 12 p - 1) (h4 : ¬ 1 < mq_many ρ 4 (3 + p)) : ∃ σ' τ' pl', rr_R σ' τ' (mq_fin (mq_work (mq_cd ρ p) (μ x) x).1 p x) (mq_upL μ x (mq_work (mq_cd ρ p) (μ x) x).2) lt pl' ∧ pl' 3 (3 + p) = [] := by
  have ok4 : mq_ok 4 (3 + p) := Or.inr ⟨by simp, by omega, by omega⟩
  rw [hR.2.1.many ok4] at h4
  have h := (hR.cd hp).fin hp (hR.job hp hq).1 (by rw [mq_up_s]; omega) (by omega)
  exact ⟨_, _, _, h, by rw [mq_set_n (by omega), mq_set_s]⟩
theorem mq_cd_same {ρ : Nat → Nat → Nat} {p : Nat} (w g : Nat) : mq_first (mq_cd ρ p) w g = mq_first ρ w g ∧ mq_many (mq_cd ρ p) w g = mq_many ρ w g := ⟨rfl, rfl⟩
theorem mq_finD_no {ρ : Nat → Nat → Nat} {p : Nat} (h : 0 < ρ 12 p - 1 ∨ 1 < mq_many ρ 4 (3 + p)) : mq_finD (mq_cd ρ p) p = none := by
  refine if_pos ?_
  rcases h with h | h
  · exact Or.inl (by unfold mq_cd; rw [mq_up_s]; exact h)
  · exact Or.inr h
theorem mq_finD_yes {ρ : Nat → Nat → Nat} {p x : Nat} (hq : mq_first ρ 3 (3 + p) = some x) (h0 : ¬ 0 < ρ 12 p - 1) (h4 : ¬ 1 < mq_many ρ 4 (3 + p)) : mq_finD (mq_cd ρ p) p = some x := by
  refine (if_neg ?_).trans hq
  intro h
  rcases h with h | h
  · exact h0 (by unfold mq_cd at h; rw [mq_up_s] at h; exact h)
  · exact h4 h
theorem rr_X.serve {ρ : Nat → Nat → Nat} {μ : Nat → Int64} {lt : Int64} (h : rr_X ρ μ lt) {p : Nat} (hp : p < 4) : rr_X (mq_serve ρ μ p).1 (mq_serve ρ μ p).2 lt := by
  obtain ⟨σ, τ, pl, hR⟩ := h
  have ok3 : mq_ok 3 (3 + p) := Or.inr ⟨by simp, by omega, by omega⟩
  cases hq : mq_first ρ 3 (3 + p) with
  | none =>
    rw [mq_sv1 hq]
    refine hR.begX hp ?_
    have := hR.2.1.first ok3
    rw [hq] at this
    exact List.head?_eq_none_iff.mp this.symm
  | some x =>
    by_cases hc : 0 < ρ 12 p - 1 ∨ 1 < mq_many ρ 4 (3 + p)
    · rw [mq_sv2 hq (mq_finD_no hc)]
      exact ⟨_, _, _, hR.cd hp⟩
    · rw [mq_sv3 hq (mq_finD_yes hq (fun z => hc (Or.inl z)) (fun z => hc (Or.inr z)))]
      obtain ⟨_, _, _, h1, h2⟩ := hR.finX hp hq (fun z => hc (Or.inl z)) (fun z => hc (Or.inr z))
      exact h1.begX hp h2
theorem rr_X.fin {ρ : Nat → Nat → Nat} {μ : Nat → Int64} {lt : Int64} (h : rr_X ρ μ lt) : rr_X (mq_end ρ) μ lt := by
  obtain ⟨σ, τ, pl, hR⟩ := h
  have := hR.tickEnd (a := 1) (b := if ρ 0 2 = 0 then 1 else 0)
  exact ⟨_, _, _, this⟩
theorem rr_X.flag {ρ : Nat → Nat → Nat} {μ : Nat → Int64} {lt : Int64} (h : rr_X ρ μ lt) (v : Nat) : rr_X (mq_up ρ 0 2 v) μ lt := by
  obtain ⟨σ, τ, pl, hR⟩ := h
  exact ⟨σ, τ, pl, hR.flag v⟩
theorem rr_X.code {ρ : Nat → Nat → Nat} {μ : Nat → Int64} {lt : Int64} (h : rr_X ρ μ lt) (v : Nat) : rr_X (mq_up ρ 0 0 v) μ lt := by
  obtain ⟨σ, τ, pl, hR⟩ := h
  exact ⟨σ, τ, pl, hR⟩
theorem rr_X.V {ρ : Nat → Nat → Nat} {μ : Nat → Int64} {lt : Int64} (h : rr_X ρ μ lt) (hm : ρ 0 1 < 2 ^ 31) : mq_V ρ := by
  obtain ⟨σ, τ, pl, hR⟩ := h
  exact hR.V hm
theorem rr_X.first {ρ : Nat → Nat → Nat} {μ : Nat → Int64} {lt : Int64} (h : rr_X ρ μ lt) {w g x : Nat} (hk : mq_ok w g) (hq : mq_first ρ w g = some x) : x < 24 ∧ ρ 1 x = w := by
  obtain ⟨σ, τ, pl, hR⟩ := h
  obtain ⟨t, ht⟩ := mq_first_of hR.2.1 hk hq
  obtain ⟨h24, h1, -⟩ := hR.2.1.mem hk (x := x) (by rw [ht]; simp)
  exact ⟨h24, h1⟩

set_option maxHeartbeats 4000000 in
set_option maxRecDepth 100000 in
theorem k_R_serve (l : Launch) {D : va_G} {K : Nat → ClassId} {ad : Nat → Nat} {ρ : Nat → Nat → Nat} {μ : Nat → Int64} {lt : Int64} {p : Nat} (hp0 : p < 4) {cσ : Nat → Nat → Int32} {cτ : Nat → Nat → Int64} {pl : Nat → Nat → List Nat} (hR : rr_R cσ cτ ρ μ lt pl) (hmv : ρ 0 1 + 16 < 2 ^ 31) : Met l yR_serve (Cond.code yR_serve prog_7_method_17_code 5 none :: mx_T) { frames := 3, cells := 0, slots := 0, locals := 67 } (va_Pc [.ref (ad 0), .int (nI p)] (rx_P D K ad (mq_n ρ) (rx_t μ lt))) (rx_Qv D K ad (fun u => u = (mq_n (mq_serve ρ μ p).1, rx_t (mq_serve ρ μ p).2 lt))) 0 0 (gx_A ad 17) := by
  refine gx_met (by decide) rfl (Nat.le_of_ble_eq_true rfl) ?_
  intro pg ev s mid as below mth c ls hx hb hr hml ht hown hlk hnm hargs hB hl
  obtain ⟨hV, hZ⟩ := hB
  have hS : va_S (gx_A ad 17) s.heap s.heap [] := va_S.rf
  have hl : lv_has ls 5 [(0, .ref (ad 0)), (1, .int (nI p))] := hl
  have hV0 := hR.V (by omega)
  have tail : ∀ (ρ1 : Nat → Nat → Nat) (μ1 : Nat → Int64) (H : Heap) (locs : List Loc) (ls : Array Slot), mq_serve ρ μ p = (mq_begin ρ1 p, μ1) → rr_X ρ1 μ1 lt → ρ1 0 1 < 2 ^ 31 → gx_V D mx_cl (mx_tys K) (rx_E ad K) ad 17 (mq_n ρ1) (rx_t μ1 lt) s H → va_S (gx_A ad 17) s.heap H locs → lv_has ls 5 [(0, .ref (ad 0)), (1, .int (nI p))] → W pg l ev (headSpec (Cond.code yR_serve prog_7_method_17_code 5 none :: mx_T) { frames := 3, cells := 0, slots := 0, locals := 67 }).room s mid as below mth c H locs 0 0 (MQ below (rx_Qv D K ad (fun u => u = (mq_n (mq_serve ρ μ p).1, rx_t (mq_serve ρ μ p).2 lt))) as s 0 0 (gx_A ad 17)) (F0 mid 113 ls []) := by
    intro ρ1 μ1 H locs ls hs hX hm1 hV hS hl
    refine lv_aload_n hx hb dR_serve_113 rfl (lv_at hl 0 rfl) ?_
    refine lv_iconst (v := nI 2) hx hb dR_serve_114 (by decide) ?_
    refine lv_iconst (v := -1) hx hb dR_serve_115 (by decide) ?_
    refine lv_iload_n hx hb dR_serve_116 rfl (lv_at hl 1 rfl) ?_
    refine lv_isub hx hb dR_serve_117 ?_
    refine gx_top (y := mq_who (3 + p)) mq_who_hi.symm ?_
    refine gx_calli (va_runV (As := [.int (nI 2), .int (mq_who (3 + p))]) (rest := []) ⟨hx, hb, hml, hown, ht⟩ (k_R_first l (by omega) (by omega) (hX.V hm1)) (cwV 2 ht (mx_gV (C := "MessageCrossbarModel") mw_573 mw_575 ms_20 mw_6 mw_576) rfl rfl rfl (by decide +kernel) ⟨Nat.le_of_ble_eq_true rfl, Nat.le_of_ble_eq_true rfl⟩) (gx_preV rx_ok hV hZ hS (q := (mR_R, mT_R, 20)) (by decide) rx_E_0 rfl [.int (nI 2), .int (mq_who (3 + p))]) rfl rfl hl.1 rfl (lv_room (Nat.le_of_ble_eq_true rfl)) dR_serve_118 ⟨Nat.le_of_ble_eq_true rfl, Nat.le_of_ble_eq_true rfl⟩) hV hS (fun r1 σ' τ' H locs hp hV hS => ?_)
    obtain ⟨rfl, hu⟩ := hp
    cases hu
    cases hq2 : mq_first ρ1 2 (3 + p) with
    | none =>
      refine lv_istore_n (lv' := [(3, .int (-1)), (0, .ref (ad 0)), (1, .int (nI p))]) hx hb dR_serve_121 rfl hl (by decide) rfl (fun ls hl => ?_)
      refine lv_iload_n hx hb dR_serve_122 rfl (lv_at hl 0 rfl) ?_
      refine lv_if_ge (tgt := 127) hx hb dR_serve_123 (by decide) (fun h123 => ?_) (fun h123 => ?_)
      · exact absurd h123 (by decide)
      · exact gx_vret hx hb hr hV hS (by rw [hs, mq_bg0 hq2]) dR_serve_126 hlk
    | some y =>
      have hy24 := hX.first (w := 2) (g := 3 + p) (Or.inr ⟨by simp, by omega, by omega⟩) hq2
      obtain ⟨-, -, ⟨z, hz4, hz⟩, -⟩ := ((hX.V hm1).1 y hy24.1).2 (by rw [hy24.2]; decide)
      have hz8 := cx_p8 hz4
      have hdiv : ρ1 4 y / mq_width p ≤ ρ1 4 y := Nat.div_le_self _ _
      have hwd : 0 < mq_width p ∧ mq_width p ≤ 8 := by unfold mq_width; split <;> (try split) <;> omega
      refine lv_istore_n (lv' := [(3, .int (nI y)), (0, .ref (ad 0)), (1, .int (nI p))]) hx hb dR_serve_121 rfl hl (by decide) rfl (fun ls hl => ?_)
      refine lv_iload_n hx hb dR_serve_122 rfl (lv_at hl 0 rfl) ?_
      refine lv_if_ge (tgt := 127) hx hb dR_serve_123 (by decide) (fun h123 => ?_) (fun h123 => ?_)
      · refine lv_aload_n hx hb dR_serve_127 rfl (lv_at hl 1 rfl) ?_
        refine gx_get (C := mR_R) (T := mT_R) (N' := 20) hx hb ht mh_R hown hV (by decide) rx_E_0 rfl 4 (by decide) (ht _ mw_476) (fun _ h => h) rfl dR_serve_128 ?_
        refine lv_iload_n hx hb dR_serve_131 rfl (lv_at hl 0 rfl) ?_
        refine gx_ialdv (v := nI (ρ1 4 y)) hx hb hV (by decide) 0 rx_E_4 rfl y hy24.1 (by decide) rfl rfl dR_serve_132 ?_
        refine lv_iload_n hx hb dR_serve_133 rfl (lv_at hl 2 rfl) ?_
        refine gx_callp (va_runS (As := [.int (nI p)]) (rest := [.int (nI (ρ1 4 y))]) ⟨hx, hb, hml, hown, ht⟩ (k_R_widthOf l hp0) (cwS 1 ht (mx_gS mw_586 mw_587 mw_6 mw_588) rfl rfl rfl (by decide +kernel) ⟨Nat.le_of_ble_eq_true rfl, Nat.le_of_ble_eq_true rfl⟩) (gx_preP [.int (nI p)]) rfl rfl hl.1 rfl (lv_room (Nat.le_of_ble_eq_true rfl)) dR_serve_134 ⟨Nat.le_of_ble_eq_true rfl, Nat.le_of_ble_eq_true rfl⟩) hV hS (fun r2 H locs hp hV hS => ?_)
        subst hp
        refine gx_idiv (a := (ρ1 4 y)) (b := (mq_width p)) hx hb dR_serve_137 (by omega) (by omega) (by omega) ?_
        refine lv_istore (lv' := [(4, .int (nI ((ρ1 4 y) / (mq_width p)))), (3, .int (nI y)), (0, .ref (ad 0)), (1, .int (nI p))]) hx hb dR_serve_138 hl (by decide) rfl (fun ls hl => ?_)
        refine lv_aload_n hx hb dR_serve_140 rfl (lv_at hl 2 rfl) ?_
        refine gx_get (C := mR_R) (T := mT_R) (N' := 20) hx hb ht mh_R hown hV (by decide) rx_E_0 rfl 13 (by decide) (ht _ mw_485) (fun _ h => h) rfl dR_serve_141 ?_
        refine lv_iload_n hx hb dR_serve_144 rfl (lv_at hl 3 rfl) ?_
        refine lv_iload_n hx hb dR_serve_145 rfl (lv_at hl 3 rfl) ?_
        refine gx_callp (va_runS (As := [.int (nI p)]) (rest := [.int (nI p), .ref (ad 12)]) ⟨hx, hb, hml, hown, ht⟩ (k_R_delayOf l hp0) (cwS 1 ht (mx_gS mw_589 mw_590 mw_6 mw_591) rfl rfl rfl (by decide +kernel) ⟨Nat.le_of_ble_eq_true rfl, Nat.le_of_ble_eq_true rfl⟩) (gx_preP [.int (nI p)]) rfl rfl hl.1 rfl (lv_room (Nat.le_of_ble_eq_true rfl)) dR_serve_146 ⟨Nat.le_of_ble_eq_true rfl, Nat.le_of_ble_eq_true rfl⟩) hV hS (fun r3 H locs hp hV hS => ?_)
        subst hp
        refine lv_iload hx hb dR_serve_149 (lv_at hl 0 rfl) ?_
        refine lv_iconst (v := nI 1) hx hb dR_serve_151 (by decide) ?_
        refine gx_icmp_le (a := ((ρ1 4 y) / (mq_width p))) (b := 1) (tgt := 160) hx hb dR_serve_152 (by decide) (by omega) (by omega) (fun h152 => ?_) (fun h152 => ?_)
        · refine lv_iconst (v := nI 1) hx hb dR_serve_160 (by decide) ?_
          refine gx_top (y := nI (max 1 (ρ1 4 y / mq_width p))) (by rw [show max 1 (ρ1 4 y / mq_width p) = 1 by omega]) ?_
          refine gx_iadd (a := (mq_delay p)) (b := (max 1 (ρ1 4 y / mq_width p))) hx hb dR_serve_161 ?_
          refine gx_iast rx_loc hx hb hV hS (by decide) 0 rx_E_12 rfl p hp0 (by decide) rfl dR_serve_162 (cx_up (mq_n ρ1) 12 p (nI ((mq_delay p) + (max 1 (ρ1 4 y / mq_width p))))) (by rw [rx_E_12, cx_up_upd]) (fun _ h => cx_up_J h) (fun H locs hV hS => ?_)
          rw [rx_up] at hV
          refine lv_aload_n hx hb dR_serve_163 rfl (lv_at hl 2 rfl) ?_
          refine lv_iload_n hx hb dR_serve_164 rfl (lv_at hl 1 rfl) ?_
          refine lv_iconst (v := nI 3) hx hb dR_serve_165 (by decide) ?_
          refine gx_callv (va_runV (As := [.int (nI y), .int (nI 3)]) (rest := []) ⟨hx, hb, hml, hown, ht⟩ (k_R_go l hy24.1) (cwV 2 ht (mx_gV (C := "MessageCrossbarModel") mw_557 mw_559 ms_18 mw_6 mw_560) rfl rfl rfl (by decide +kernel) ⟨Nat.le_of_ble_eq_true rfl, Nat.le_of_ble_eq_true rfl⟩) (gx_preV rx_ok hV hZ hS (q := (mR_R, mT_R, 20)) (by decide) rx_E_0 rfl [.int (nI y), .int (nI 3)]) rfl rfl hl.1 rfl (lv_room (Nat.le_of_ble_eq_true rfl)) dR_serve_166 ⟨Nat.le_of_ble_eq_true rfl, Nat.le_of_ble_eq_true rfl⟩) hV hS (fun σ' τ' H locs hp hV hS => ?_)
          cases hp
          exact gx_vret hx hb hr hV hS (by rw [hs, mq_bg hq2]) dR_serve_169 hlk
        · refine lv_iload hx hb dR_serve_155 (lv_at hl 0 rfl) ?_
          refine lv_goto (tgt := 161) hx hb dR_serve_157 (by decide) ?_
          refine gx_top (y := nI (max 1 (ρ1 4 y / mq_width p))) (by rw [show max 1 (ρ1 4 y / mq_width p) = ρ1 4 y / mq_width p by omega]) ?_
          refine gx_iadd (a := (mq_delay p)) (b := (max 1 (ρ1 4 y / mq_width p))) hx hb dR_serve_161 ?_
          refine gx_iast rx_loc hx hb hV hS (by decide) 0 rx_E_12 rfl p hp0 (by decide) rfl dR_serve_162 (cx_up (mq_n ρ1) 12 p (nI ((mq_delay p) + (max 1 (ρ1 4 y / mq_width p))))) (by rw [rx_E_12, cx_up_upd]) (fun _ h => cx_up_J h) (fun H locs hV hS => ?_)
          rw [rx_up] at hV
          refine lv_aload_n hx hb dR_serve_163 rfl (lv_at hl 2 rfl) ?_
          refine lv_iload_n hx hb dR_serve_164 rfl (lv_at hl 1 rfl) ?_
          refine lv_iconst (v := nI 3) hx hb dR_serve_165 (by decide) ?_
          refine gx_callv (va_runV (As := [.int (nI y), .int (nI 3)]) (rest := []) ⟨hx, hb, hml, hown, ht⟩ (k_R_go l hy24.1) (cwV 2 ht (mx_gV (C := "MessageCrossbarModel") mw_557 mw_559 ms_18 mw_6 mw_560) rfl rfl rfl (by decide +kernel) ⟨Nat.le_of_ble_eq_true rfl, Nat.le_of_ble_eq_true rfl⟩) (gx_preV rx_ok hV hZ hS (q := (mR_R, mT_R, 20)) (by decide) rx_E_0 rfl [.int (nI y), .int (nI 3)]) rfl rfl hl.1 rfl (lv_room (Nat.le_of_ble_eq_true rfl)) dR_serve_166 ⟨Nat.le_of_ble_eq_true rfl, Nat.le_of_ble_eq_true rfl⟩) hV hS (fun σ' τ' H locs hp hV hS => ?_)
          cases hp
          exact gx_vret hx hb hr hV hS (by rw [hs, mq_bg hq2]) dR_serve_169 hlk
      · exact absurd (nI_pos' (by omega)) h123
  refine lv_aload_n hx hb dR_serve_0 rfl (lv_at hl 0 rfl) ?_
  refine lv_iconst (v := nI 3) hx hb dR_serve_1 (by decide) ?_
  refine lv_iconst (v := -1) hx hb dR_serve_2 (by decide) ?_
  refine lv_iload_n hx hb dR_serve_3 rfl (lv_at hl 1 rfl) ?_
  refine lv_isub hx hb dR_serve_4 ?_
  refine gx_top (y := mq_who (3 + p)) mq_who_hi.symm ?_
  refine gx_calli (va_runV (As := [.int (nI 3), .int (mq_who (3 + p))]) (rest := []) ⟨hx, hb, hml, hown, ht⟩ (k_R_first l (by omega) (by omega) hV0) (cwV 2 ht (mx_gV (C := "MessageCrossbarModel") mw_573 mw_575 ms_20 mw_6 mw_576) rfl rfl rfl (by decide +kernel) ⟨Nat.le_of_ble_eq_true rfl, Nat.le_of_ble_eq_true rfl⟩) (gx_preV rx_ok hV hZ hS (q := (mR_R, mT_R, 20)) (by decide) rx_E_0 rfl [.int (nI 3), .int (mq_who (3 + p))]) rfl rfl hl.1 rfl (lv_room (Nat.le_of_ble_eq_true rfl)) dR_serve_5 ⟨Nat.le_of_ble_eq_true rfl, Nat.le_of_ble_eq_true rfl⟩) hV hS (fun r6 σ' τ' H locs hp hV hS => ?_)
  obtain ⟨rfl, hu⟩ := hp
  cases hu
  cases hq : mq_first ρ 3 (3 + p) with
  | none =>
    refine lv_istore_n (lv' := [(2, .int (-1)), (0, .ref (ad 0)), (1, .int (nI p))]) hx hb dR_serve_8 rfl hl (by decide) rfl (fun ls hl => ?_)
    refine lv_iload_n hx hb dR_serve_9 rfl (lv_at hl 0 rfl) ?_
    refine lv_if_lt (tgt := 113) hx hb dR_serve_10 (by decide) (fun h10 => ?_) (fun h10 => ?_)
    · exact tail ρ μ H locs ls (mq_sv1 hq) ⟨_, _, _, hR⟩ (by omega) hV hS (lv_sub hl [1, 2] rfl)
    · exact absurd (show (-1 : Int32) < 0 by decide) h10
  | some x =>
    obtain ⟨hj, hx24, hx3⟩ := hR.job hp0 hq
    obtain ⟨-, hso3, ⟨z, hz4, hz⟩, ha4, hal, hmk, -⟩ := (hV0.1 x hx24).2 (by rw [hx3]; decide)
    have h16 : mq_go (mq_work (mq_cd ρ p) (μ x) x).1 x 4 16 3 < 2 ^ 31 := by rw [mq_go_n (by omega) (by omega) (by omega), mq_work_n (by omega)]; have h := hV0.2.2.2.2; show ρ 16 3 < _; omega
    have h12 := (hV0.2.2.1 p hp0).2
    refine lv_istore_n (lv' := [(2, .int (nI x)), (0, .ref (ad 0)), (1, .int (nI p))]) hx hb dR_serve_8 rfl hl (by decide) rfl (fun ls hl => ?_)
    refine lv_iload_n hx hb dR_serve_9 rfl (lv_at hl 0 rfl) ?_
    refine lv_if_lt (tgt := 113) hx hb dR_serve_10 (by decide) (fun h10 => ?_) (fun h10 => ?_)
    · exact absurd h10 (nI_pos (by omega))
    · refine lv_aload_n hx hb dR_serve_13 rfl (lv_at hl 1 rfl) ?_
      refine gx_get (C := mR_R) (T := mT_R) (N' := 20) hx hb ht mh_R hown hV (by decide) rx_E_0 rfl 13 (by decide) (ht _ mw_485) (fun _ h => h) rfl dR_serve_14 ?_
      refine lv_iload_n hx hb dR_serve_17 rfl (lv_at hl 2 rfl) ?_
      refine lv_aload_n hx hb dR_serve_18 rfl (lv_at hl 1 rfl) ?_
      refine gx_get (C := mR_R) (T := mT_R) (N' := 20) hx hb ht mh_R hown hV (by decide) rx_E_0 rfl 13 (by decide) (ht _ mw_485) (fun _ h => h) rfl dR_serve_19 ?_
      refine lv_iload_n hx hb dR_serve_22 rfl (lv_at hl 2 rfl) ?_
      refine gx_ialdv (v := nI (ρ 12 p)) hx hb hV (by decide) 0 rx_E_12 rfl p hp0 (by decide) rfl rfl dR_serve_23 ?_
      refine gx_if_le (a := (ρ 12 p)) (tgt := 38) hx hb dR_serve_24 (by decide) (by omega) (fun h24 => ?_) (fun h24 => ?_)
      · refine lv_iconst (v := nI 0) hx hb dR_serve_38 (by decide) ?_
        refine gx_top (y := nI (ρ 12 p - 1)) (by rw [show ρ 12 p - 1 = 0 by omega]) ?_
        refine gx_iast rx_loc hx hb hV hS (by decide) 0 rx_E_12 rfl p hp0 (by decide) rfl dR_serve_39 (cx_up (mq_n ρ) 12 p (nI (ρ 12 p - 1))) (by rw [rx_E_12, cx_up_upd]) (fun _ h => cx_up_J h) (fun H locs hV hS => ?_)
        rw [rx_up] at hV
        have hV : gx_V D mx_cl (mx_tys K) (rx_E ad K) ad 17 (mq_n (mq_cd ρ p)) (rx_t μ lt) s H := hV
        refine lv_aload_n hx hb dR_serve_40 rfl (lv_at hl 1 rfl) ?_
        refine gx_get (C := mR_R) (T := mT_R) (N' := 20) hx hb ht mh_R hown hV (by decide) rx_E_0 rfl 13 (by decide) (ht _ mw_485) (fun _ h => h) rfl dR_serve_41 ?_
        refine lv_iload_n hx hb dR_serve_44 rfl (lv_at hl 2 rfl) ?_
        refine gx_ialdv (v := nI (ρ 12 p - 1)) hx hb hV (by decide) 0 rx_E_12 rfl p hp0 (by decide) rfl (congrArg nI mq_up_s) dR_serve_45 ?_
        refine gx_if_gt (a := (ρ 12 p - 1)) (tgt := 61) hx hb dR_serve_46 (by decide) (by omega) (fun h46 => ?_) (fun h46 => ?_)
        · exact gx_vret hx hb hr hV hS (by rw [mq_sv2 hq (mq_finD_no (Or.inl h46))]) dR_serve_61 hlk
        · refine lv_aload_n hx hb dR_serve_49 rfl (lv_at hl 1 rfl) ?_
          refine lv_iconst (v := nI 4) hx hb dR_serve_50 (by decide) ?_
          refine lv_iconst (v := -1) hx hb dR_serve_51 (by decide) ?_
          refine lv_iload_n hx hb dR_serve_52 rfl (lv_at hl 2 rfl) ?_
          refine lv_isub hx hb dR_serve_53 ?_
          refine gx_top (y := mq_who (3 + p)) mq_who_hi.symm ?_
          refine gx_calli (va_runV (As := [.int (nI 4), .int (mq_who (3 + p))]) (rest := []) ⟨hx, hb, hml, hown, ht⟩ (k_R_many l (by omega) (by omega) ((hR.cd hp0).V (show ρ 0 1 < _ by omega))) (cwV 2 ht (mx_gV (C := "MessageCrossbarModel") mw_546 mw_548 ms_16 mw_6 mw_549) rfl rfl rfl (by decide +kernel) ⟨Nat.le_of_ble_eq_true rfl, Nat.le_of_ble_eq_true rfl⟩) (gx_preV rx_ok hV hZ hS (q := (mR_R, mT_R, 20)) (by decide) rx_E_0 rfl [.int (nI 4), .int (mq_who (3 + p))]) rfl rfl hl.1 rfl (lv_room (Nat.le_of_ble_eq_true rfl)) dR_serve_54 ⟨Nat.le_of_ble_eq_true rfl, Nat.le_of_ble_eq_true rfl⟩) hV hS (fun r7 σ' τ' H locs hp hV hS => ?_)
          obtain ⟨rfl, hu⟩ := hp
          cases hu
          refine lv_iconst (v := nI 1) hx hb dR_serve_57 (by decide) ?_
          refine gx_icmp_le (a := (mq_many ρ 4 (3 + p))) (b := 1) (tgt := 62) hx hb dR_serve_58 (by decide) (mq_many_lt _ _ _) (by omega) (fun h58 => ?_) (fun h58 => ?_)
          · refine lv_aload_n hx hb dR_serve_62 rfl (lv_at hl 1 rfl) ?_
            refine lv_iload_n hx hb dR_serve_63 rfl (lv_at hl 0 rfl) ?_
            refine gx_callv (va_runV (As := [.int (nI x)]) (rest := []) ⟨hx, hb, hml, hown, ht⟩ (k_R_work l (ρ := mq_cd ρ p) hx24 hz4 hz ha4 hal hso3 hmk (hV0.2.2.2.1)) (cwV 1 ht (mx_gV (C := "MessageCrossbarModel") mw_581 mw_583 ms_22 mw_6 mw_584) rfl rfl rfl (by decide +kernel) ⟨Nat.le_of_ble_eq_true rfl, Nat.le_of_ble_eq_true rfl⟩) (gx_preV rx_ok hV hZ hS (q := (mR_R, mT_R, 20)) (by decide) rx_E_0 rfl [.int (nI x)]) rfl rfl hl.1 rfl (lv_room (Nat.le_of_ble_eq_true rfl)) dR_serve_64 ⟨Nat.le_of_ble_eq_true rfl, Nat.le_of_ble_eq_true rfl⟩) hV hS (fun σ' τ' H locs hp hV hS => ?_)
            cases hp
            refine lv_aload_n hx hb dR_serve_67 rfl (lv_at hl 1 rfl) ?_
            refine lv_iload_n hx hb dR_serve_68 rfl (lv_at hl 0 rfl) ?_
            refine lv_iconst (v := nI 4) hx hb dR_serve_69 (by decide) ?_
            refine gx_callv (va_runV (As := [.int (nI x), .int (nI 4)]) (rest := []) ⟨hx, hb, hml, hown, ht⟩ (k_R_go l hx24) (cwV 2 ht (mx_gV (C := "MessageCrossbarModel") mw_557 mw_559 ms_18 mw_6 mw_560) rfl rfl rfl (by decide +kernel) ⟨Nat.le_of_ble_eq_true rfl, Nat.le_of_ble_eq_true rfl⟩) (gx_preV rx_ok hV hZ hS (q := (mR_R, mT_R, 20)) (by decide) rx_E_0 rfl [.int (nI x), .int (nI 4)]) rfl rfl hl.1 rfl (lv_room (Nat.le_of_ble_eq_true rfl)) dR_serve_70 ⟨Nat.le_of_ble_eq_true rfl, Nat.le_of_ble_eq_true rfl⟩) hV hS (fun σ' τ' H locs hp hV hS => ?_)
            cases hp
            refine lv_aload_n hx hb dR_serve_73 rfl (lv_at hl 1 rfl) ?_
            refine gx_get (C := mR_R) (T := mT_R) (N' := 20) hx hb ht mh_R hown hV (by decide) rx_E_0 rfl 16 (by decide) (ht _ mw_488) (fun _ h => h) rfl dR_serve_74 ?_
            refine lv_aload_n hx hb dR_serve_77 rfl (lv_at hl 1 rfl) ?_
            refine gx_get (C := mR_R) (T := mT_R) (N' := 20) hx hb ht mh_R hown hV (by decide) rx_E_0 rfl 17 (by decide) (ht _ mw_489) (fun _ h => h) rfl dR_serve_78 ?_
            refine lv_iconst (v := nI 3) hx hb dR_serve_81 (by decide) ?_
            refine gx_ialdv (v := nI ((mq_go (mq_work (mq_cd ρ p) (μ x) x).1 x 4) 16 3)) hx hb hV (by decide) 0 rx_E_16 rfl 3 (by decide) (by decide) rfl rfl dR_serve_82 ?_
            refine lv_bipush (v := nI 32) hx hb dR_serve_83 (by decide) ?_
            refine gx_irem (a := ((mq_go (mq_work (mq_cd ρ p) (μ x) x).1 x 4) 16 3)) (b := 32) hx hb dR_serve_85 h16 (by omega) (by omega) ?_
            refine lv_bipush (v := nI 64) hx hb dR_serve_86 (by decide) ?_
            refine lv_iload_n hx hb dR_serve_88 rfl (lv_at hl 2 rfl) ?_
            refine gx_imul (a := 64) (b := p) hx hb dR_serve_89 ?_
            refine lv_iload_n hx hb dR_serve_90 rfl (lv_at hl 0 rfl) ?_
            refine gx_iadd (a := (64 * p)) (b := x) hx hb dR_serve_91 ?_
            refine gx_iast rx_loc hx hb hV hS (by decide) 0 rx_E_15 rfl (mq_go (mq_work (mq_cd ρ p) (μ x) x).1 x 4 16 3 % 32) (Nat.mod_lt _ (by omega)) (by decide) rfl dR_serve_92 (cx_up (mq_n (mq_go (mq_work (mq_cd ρ p) (μ x) x).1 x 4)) 15 (mq_go (mq_work (mq_cd ρ p) (μ x) x).1 x 4 16 3 % 32) (nI ((64 * p) + x))) (by rw [rx_E_15, cx_up_upd]) (fun _ h => cx_up_J h) (fun H locs hV hS => ?_)
            rw [rx_up] at hV
            refine lv_aload_n hx hb dR_serve_93 rfl (lv_at hl 1 rfl) ?_
            refine gx_get (C := mR_R) (T := mT_R) (N' := 20) hx hb ht mh_R hown hV (by decide) rx_E_0 rfl 17 (by decide) (ht _ mw_489) (fun _ h => h) rfl dR_serve_94 ?_
            refine lv_iconst (v := nI 3) hx hb dR_serve_97 (by decide) ?_
            refine lv_dup2_11 hx hb dR_serve_98 rfl rfl ?_
            refine gx_ialdv (v := nI ((mq_up (mq_go (mq_work (mq_cd ρ p) (μ x) x).1 x 4) 15 (mq_go (mq_work (mq_cd ρ p) (μ x) x).1 x 4 16 3 % 32) ((64 * p) + x)) 16 3)) hx hb hV (by decide) 0 rx_E_16 rfl 3 (by decide) (by decide) rfl rfl dR_serve_99 ?_
            refine lv_iconst (v := nI 1) hx hb dR_serve_100 (by decide) ?_
            refine gx_iadd (a := ((mq_up (mq_go (mq_work (mq_cd ρ p) (μ x) x).1 x 4) 15 (mq_go (mq_work (mq_cd ρ p) (μ x) x).1 x 4 16 3 % 32) ((64 * p) + x)) 16 3)) (b := 1) hx hb dR_serve_101 ?_
            refine gx_iast rx_loc hx hb hV hS (by decide) 0 rx_E_16 rfl 3 (by decide) (by decide) rfl dR_serve_102 (cx_up (mq_n (mq_up (mq_go (mq_work (mq_cd ρ p) (μ x) x).1 x 4) 15 (mq_go (mq_work (mq_cd ρ p) (μ x) x).1 x 4 16 3 % 32) ((64 * p) + x))) 16 3 (nI (((mq_up (mq_go (mq_work (mq_cd ρ p) (μ x) x).1 x 4) 15 (mq_go (mq_work (mq_cd ρ p) (μ x) x).1 x 4 16 3 % 32) ((64 * p) + x)) 16 3) + 1))) (by rw [rx_E_16, cx_up_upd]) (fun _ h => cx_up_J h) (fun H locs hV hS => ?_)
            rw [rx_up] at hV
            refine lv_aload_n hx hb dR_serve_103 rfl (lv_at hl 1 rfl) ?_
            refine gx_get (C := mR_R) (T := mT_R) (N' := 20) hx hb ht mh_R hown hV (by decide) rx_E_0 rfl 14 (by decide) (ht _ mw_486) (fun _ h => h) rfl dR_serve_104 ?_
            refine lv_iload_n hx hb dR_serve_107 rfl (lv_at hl 2 rfl) ?_
            refine lv_dup2_11 hx hb dR_serve_108 rfl rfl ?_
            refine gx_ialdv (v := nI ((mq_up (mq_up (mq_go (mq_work (mq_cd ρ p) (μ x) x).1 x 4) 15 (mq_go (mq_work (mq_cd ρ p) (μ x) x).1 x 4 16 3 % 32) ((64 * p) + x)) 16 3 (((mq_up (mq_go (mq_work (mq_cd ρ p) (μ x) x).1 x 4) 15 (mq_go (mq_work (mq_cd ρ p) (μ x) x).1 x 4 16 3 % 32) ((64 * p) + x)) 16 3) + 1)) 13 p)) hx hb hV (by decide) 0 rx_E_13 rfl p hp0 (by decide) rfl rfl dR_serve_109 ?_
            refine lv_iconst (v := nI 1) hx hb dR_serve_110 (by decide) ?_
            refine gx_iadd (a := ((mq_up (mq_up (mq_go (mq_work (mq_cd ρ p) (μ x) x).1 x 4) 15 (mq_go (mq_work (mq_cd ρ p) (μ x) x).1 x 4 16 3 % 32) ((64 * p) + x)) 16 3 (((mq_up (mq_go (mq_work (mq_cd ρ p) (μ x) x).1 x 4) 15 (mq_go (mq_work (mq_cd ρ p) (μ x) x).1 x 4 16 3 % 32) ((64 * p) + x)) 16 3) + 1)) 13 p)) (b := 1) hx hb dR_serve_111 ?_
            refine gx_iast rx_loc hx hb hV hS (by decide) 0 rx_E_13 rfl p hp0 (by decide) rfl dR_serve_112 (cx_up (mq_n (mq_up (mq_up (mq_go (mq_work (mq_cd ρ p) (μ x) x).1 x 4) 15 (mq_go (mq_work (mq_cd ρ p) (μ x) x).1 x 4 16 3 % 32) ((64 * p) + x)) 16 3 (((mq_up (mq_go (mq_work (mq_cd ρ p) (μ x) x).1 x 4) 15 (mq_go (mq_work (mq_cd ρ p) (μ x) x).1 x 4 16 3 % 32) ((64 * p) + x)) 16 3) + 1))) 13 p (nI (((mq_up (mq_up (mq_go (mq_work (mq_cd ρ p) (μ x) x).1 x 4) 15 (mq_go (mq_work (mq_cd ρ p) (μ x) x).1 x 4 16 3 % 32) ((64 * p) + x)) 16 3 (((mq_up (mq_go (mq_work (mq_cd ρ p) (μ x) x).1 x 4) 15 (mq_go (mq_work (mq_cd ρ p) (μ x) x).1 x 4 16 3 % 32) ((64 * p) + x)) 16 3) + 1)) 13 p) + 1))) (by rw [rx_E_13, cx_up_upd]) (fun _ h => cx_up_J h) (fun H locs hV hS => ?_)
            rw [rx_up] at hV
            exact tail (mq_fin (mq_work (mq_cd ρ p) (μ x) x).1 p x) (mq_upL μ x (mq_work (mq_cd ρ p) (μ x) x).2) H locs ls (mq_sv3 hq (mq_finD_yes hq (by omega) (by omega))) (by obtain ⟨_, _, _, q1, q2⟩ := hR.finX hp0 hq (by omega) (by omega); exact ⟨_, _, _, q1⟩) (by rw [mq_work_01]; show ρ 0 1 + 1 < _; omega) hV hS (lv_sub hl [1, 2] rfl)
          · exact gx_vret hx hb hr hV hS (by rw [mq_sv2 hq (mq_finD_no (Or.inr (by omega)))]; rfl) dR_serve_61 hlk
      · refine lv_aload_n hx hb dR_serve_27 rfl (lv_at hl 1 rfl) ?_
        refine gx_get (C := mR_R) (T := mT_R) (N' := 20) hx hb ht mh_R hown hV (by decide) rx_E_0 rfl 13 (by decide) (ht _ mw_485) (fun _ h => h) rfl dR_serve_28 ?_
        refine lv_iload_n hx hb dR_serve_31 rfl (lv_at hl 2 rfl) ?_
        refine gx_ialdv (v := nI (ρ 12 p)) hx hb hV (by decide) 0 rx_E_12 rfl p hp0 (by decide) rfl rfl dR_serve_32 ?_
        refine lv_iconst (v := nI 1) hx hb dR_serve_33 (by decide) ?_
        refine gx_isub (a := (ρ 12 p)) (b := 1) hx hb dR_serve_34 (by omega) ?_
        refine lv_goto (tgt := 39) hx hb dR_serve_35 (by decide) ?_
        refine gx_iast rx_loc hx hb hV hS (by decide) 0 rx_E_12 rfl p hp0 (by decide) rfl dR_serve_39 (cx_up (mq_n ρ) 12 p (nI ((ρ 12 p) - 1))) (by rw [rx_E_12, cx_up_upd]) (fun _ h => cx_up_J h) (fun H locs hV hS => ?_)
        rw [rx_up] at hV
        have hV : gx_V D mx_cl (mx_tys K) (rx_E ad K) ad 17 (mq_n (mq_cd ρ p)) (rx_t μ lt) s H := hV
        refine lv_aload_n hx hb dR_serve_40 rfl (lv_at hl 1 rfl) ?_
        refine gx_get (C := mR_R) (T := mT_R) (N' := 20) hx hb ht mh_R hown hV (by decide) rx_E_0 rfl 13 (by decide) (ht _ mw_485) (fun _ h => h) rfl dR_serve_41 ?_
        refine lv_iload_n hx hb dR_serve_44 rfl (lv_at hl 2 rfl) ?_
        refine gx_ialdv (v := nI (ρ 12 p - 1)) hx hb hV (by decide) 0 rx_E_12 rfl p hp0 (by decide) rfl (congrArg nI mq_up_s) dR_serve_45 ?_
        refine gx_if_gt (a := (ρ 12 p - 1)) (tgt := 61) hx hb dR_serve_46 (by decide) (by omega) (fun h46 => ?_) (fun h46 => ?_)
        · exact gx_vret hx hb hr hV hS (by rw [mq_sv2 hq (mq_finD_no (Or.inl h46))]) dR_serve_61 hlk
        · refine lv_aload_n hx hb dR_serve_49 rfl (lv_at hl 1 rfl) ?_
          refine lv_iconst (v := nI 4) hx hb dR_serve_50 (by decide) ?_
          refine lv_iconst (v := -1) hx hb dR_serve_51 (by decide) ?_
          refine lv_iload_n hx hb dR_serve_52 rfl (lv_at hl 2 rfl) ?_
          refine lv_isub hx hb dR_serve_53 ?_
          refine gx_top (y := mq_who (3 + p)) mq_who_hi.symm ?_
          refine gx_calli (va_runV (As := [.int (nI 4), .int (mq_who (3 + p))]) (rest := []) ⟨hx, hb, hml, hown, ht⟩ (k_R_many l (by omega) (by omega) ((hR.cd hp0).V (show ρ 0 1 < _ by omega))) (cwV 2 ht (mx_gV (C := "MessageCrossbarModel") mw_546 mw_548 ms_16 mw_6 mw_549) rfl rfl rfl (by decide +kernel) ⟨Nat.le_of_ble_eq_true rfl, Nat.le_of_ble_eq_true rfl⟩) (gx_preV rx_ok hV hZ hS (q := (mR_R, mT_R, 20)) (by decide) rx_E_0 rfl [.int (nI 4), .int (mq_who (3 + p))]) rfl rfl hl.1 rfl (lv_room (Nat.le_of_ble_eq_true rfl)) dR_serve_54 ⟨Nat.le_of_ble_eq_true rfl, Nat.le_of_ble_eq_true rfl⟩) hV hS (fun r10 σ' τ' H locs hp hV hS => ?_)
          obtain ⟨rfl, hu⟩ := hp
          cases hu
          refine lv_iconst (v := nI 1) hx hb dR_serve_57 (by decide) ?_
          refine gx_icmp_le (a := (mq_many ρ 4 (3 + p))) (b := 1) (tgt := 62) hx hb dR_serve_58 (by decide) (mq_many_lt _ _ _) (by omega) (fun h58 => ?_) (fun h58 => ?_)
          · refine lv_aload_n hx hb dR_serve_62 rfl (lv_at hl 1 rfl) ?_
            refine lv_iload_n hx hb dR_serve_63 rfl (lv_at hl 0 rfl) ?_
            refine gx_callv (va_runV (As := [.int (nI x)]) (rest := []) ⟨hx, hb, hml, hown, ht⟩ (k_R_work l (ρ := mq_cd ρ p) hx24 hz4 hz ha4 hal hso3 hmk (hV0.2.2.2.1)) (cwV 1 ht (mx_gV (C := "MessageCrossbarModel") mw_581 mw_583 ms_22 mw_6 mw_584) rfl rfl rfl (by decide +kernel) ⟨Nat.le_of_ble_eq_true rfl, Nat.le_of_ble_eq_true rfl⟩) (gx_preV rx_ok hV hZ hS (q := (mR_R, mT_R, 20)) (by decide) rx_E_0 rfl [.int (nI x)]) rfl rfl hl.1 rfl (lv_room (Nat.le_of_ble_eq_true rfl)) dR_serve_64 ⟨Nat.le_of_ble_eq_true rfl, Nat.le_of_ble_eq_true rfl⟩) hV hS (fun σ' τ' H locs hp hV hS => ?_)
            cases hp
            refine lv_aload_n hx hb dR_serve_67 rfl (lv_at hl 1 rfl) ?_
            refine lv_iload_n hx hb dR_serve_68 rfl (lv_at hl 0 rfl) ?_
            refine lv_iconst (v := nI 4) hx hb dR_serve_69 (by decide) ?_
            refine gx_callv (va_runV (As := [.int (nI x), .int (nI 4)]) (rest := []) ⟨hx, hb, hml, hown, ht⟩ (k_R_go l hx24) (cwV 2 ht (mx_gV (C := "MessageCrossbarModel") mw_557 mw_559 ms_18 mw_6 mw_560) rfl rfl rfl (by decide +kernel) ⟨Nat.le_of_ble_eq_true rfl, Nat.le_of_ble_eq_true rfl⟩) (gx_preV rx_ok hV hZ hS (q := (mR_R, mT_R, 20)) (by decide) rx_E_0 rfl [.int (nI x), .int (nI 4)]) rfl rfl hl.1 rfl (lv_room (Nat.le_of_ble_eq_true rfl)) dR_serve_70 ⟨Nat.le_of_ble_eq_true rfl, Nat.le_of_ble_eq_true rfl⟩) hV hS (fun σ' τ' H locs hp hV hS => ?_)
            cases hp
            refine lv_aload_n hx hb dR_serve_73 rfl (lv_at hl 1 rfl) ?_
            refine gx_get (C := mR_R) (T := mT_R) (N' := 20) hx hb ht mh_R hown hV (by decide) rx_E_0 rfl 16 (by decide) (ht _ mw_488) (fun _ h => h) rfl dR_serve_74 ?_
            refine lv_aload_n hx hb dR_serve_77 rfl (lv_at hl 1 rfl) ?_
            refine gx_get (C := mR_R) (T := mT_R) (N' := 20) hx hb ht mh_R hown hV (by decide) rx_E_0 rfl 17 (by decide) (ht _ mw_489) (fun _ h => h) rfl dR_serve_78 ?_
            refine lv_iconst (v := nI 3) hx hb dR_serve_81 (by decide) ?_
            refine gx_ialdv (v := nI ((mq_go (mq_work (mq_cd ρ p) (μ x) x).1 x 4) 16 3)) hx hb hV (by decide) 0 rx_E_16 rfl 3 (by decide) (by decide) rfl rfl dR_serve_82 ?_
            refine lv_bipush (v := nI 32) hx hb dR_serve_83 (by decide) ?_
            refine gx_irem (a := ((mq_go (mq_work (mq_cd ρ p) (μ x) x).1 x 4) 16 3)) (b := 32) hx hb dR_serve_85 h16 (by omega) (by omega) ?_
            refine lv_bipush (v := nI 64) hx hb dR_serve_86 (by decide) ?_
            refine lv_iload_n hx hb dR_serve_88 rfl (lv_at hl 2 rfl) ?_
            refine gx_imul (a := 64) (b := p) hx hb dR_serve_89 ?_
            refine lv_iload_n hx hb dR_serve_90 rfl (lv_at hl 0 rfl) ?_
            refine gx_iadd (a := (64 * p)) (b := x) hx hb dR_serve_91 ?_
            refine gx_iast rx_loc hx hb hV hS (by decide) 0 rx_E_15 rfl (mq_go (mq_work (mq_cd ρ p) (μ x) x).1 x 4 16 3 % 32) (Nat.mod_lt _ (by omega)) (by decide) rfl dR_serve_92 (cx_up (mq_n (mq_go (mq_work (mq_cd ρ p) (μ x) x).1 x 4)) 15 (mq_go (mq_work (mq_cd ρ p) (μ x) x).1 x 4 16 3 % 32) (nI ((64 * p) + x))) (by rw [rx_E_15, cx_up_upd]) (fun _ h => cx_up_J h) (fun H locs hV hS => ?_)
            rw [rx_up] at hV
            refine lv_aload_n hx hb dR_serve_93 rfl (lv_at hl 1 rfl) ?_
            refine gx_get (C := mR_R) (T := mT_R) (N' := 20) hx hb ht mh_R hown hV (by decide) rx_E_0 rfl 17 (by decide) (ht _ mw_489) (fun _ h => h) rfl dR_serve_94 ?_
            refine lv_iconst (v := nI 3) hx hb dR_serve_97 (by decide) ?_
            refine lv_dup2_11 hx hb dR_serve_98 rfl rfl ?_
            refine gx_ialdv (v := nI ((mq_up (mq_go (mq_work (mq_cd ρ p) (μ x) x).1 x 4) 15 (mq_go (mq_work (mq_cd ρ p) (μ x) x).1 x 4 16 3 % 32) ((64 * p) + x)) 16 3)) hx hb hV (by decide) 0 rx_E_16 rfl 3 (by decide) (by decide) rfl rfl dR_serve_99 ?_
            refine lv_iconst (v := nI 1) hx hb dR_serve_100 (by decide) ?_
            refine gx_iadd (a := ((mq_up (mq_go (mq_work (mq_cd ρ p) (μ x) x).1 x 4) 15 (mq_go (mq_work (mq_cd ρ p) (μ x) x).1 x 4 16 3 % 32) ((64 * p) + x)) 16 3)) (b := 1) hx hb dR_serve_101 ?_
            refine gx_iast rx_loc hx hb hV hS (by decide) 0 rx_E_16 rfl 3 (by decide) (by decide) rfl dR_serve_102 (cx_up (mq_n (mq_up (mq_go (mq_work (mq_cd ρ p) (μ x) x).1 x 4) 15 (mq_go (mq_work (mq_cd ρ p) (μ x) x).1 x 4 16 3 % 32) ((64 * p) + x))) 16 3 (nI (((mq_up (mq_go (mq_work (mq_cd ρ p) (μ x) x).1 x 4) 15 (mq_go (mq_work (mq_cd ρ p) (μ x) x).1 x 4 16 3 % 32) ((64 * p) + x)) 16 3) + 1))) (by rw [rx_E_16, cx_up_upd]) (fun _ h => cx_up_J h) (fun H locs hV hS => ?_)
            rw [rx_up] at hV
            refine lv_aload_n hx hb dR_serve_103 rfl (lv_at hl 1 rfl) ?_
            refine gx_get (C := mR_R) (T := mT_R) (N' := 20) hx hb ht mh_R hown hV (by decide) rx_E_0 rfl 14 (by decide) (ht _ mw_486) (fun _ h => h) rfl dR_serve_104 ?_
            refine lv_iload_n hx hb dR_serve_107 rfl (lv_at hl 2 rfl) ?_
            refine lv_dup2_11 hx hb dR_serve_108 rfl rfl ?_
            refine gx_ialdv (v := nI ((mq_up (mq_up (mq_go (mq_work (mq_cd ρ p) (μ x) x).1 x 4) 15 (mq_go (mq_work (mq_cd ρ p) (μ x) x).1 x 4 16 3 % 32) ((64 * p) + x)) 16 3 (((mq_up (mq_go (mq_work (mq_cd ρ p) (μ x) x).1 x 4) 15 (mq_go (mq_work (mq_cd ρ p) (μ x) x).1 x 4 16 3 % 32) ((64 * p) + x)) 16 3) + 1)) 13 p)) hx hb hV (by decide) 0 rx_E_13 rfl p hp0 (by decide) rfl rfl dR_serve_109 ?_
            refine lv_iconst (v := nI 1) hx hb dR_serve_110 (by decide) ?_
            refine gx_iadd (a := ((mq_up (mq_up (mq_go (mq_work (mq_cd ρ p) (μ x) x).1 x 4) 15 (mq_go (mq_work (mq_cd ρ p) (μ x) x).1 x 4 16 3 % 32) ((64 * p) + x)) 16 3 (((mq_up (mq_go (mq_work (mq_cd ρ p) (μ x) x).1 x 4) 15 (mq_go (mq_work (mq_cd ρ p) (μ x) x).1 x 4 16 3 % 32) ((64 * p) + x)) 16 3) + 1)) 13 p)) (b := 1) hx hb dR_serve_111 ?_
            refine gx_iast rx_loc hx hb hV hS (by decide) 0 rx_E_13 rfl p hp0 (by decide) rfl dR_serve_112 (cx_up (mq_n (mq_up (mq_up (mq_go (mq_work (mq_cd ρ p) (μ x) x).1 x 4) 15 (mq_go (mq_work (mq_cd ρ p) (μ x) x).1 x 4 16 3 % 32) ((64 * p) + x)) 16 3 (((mq_up (mq_go (mq_work (mq_cd ρ p) (μ x) x).1 x 4) 15 (mq_go (mq_work (mq_cd ρ p) (μ x) x).1 x 4 16 3 % 32) ((64 * p) + x)) 16 3) + 1))) 13 p (nI (((mq_up (mq_up (mq_go (mq_work (mq_cd ρ p) (μ x) x).1 x 4) 15 (mq_go (mq_work (mq_cd ρ p) (μ x) x).1 x 4 16 3 % 32) ((64 * p) + x)) 16 3 (((mq_up (mq_go (mq_work (mq_cd ρ p) (μ x) x).1 x 4) 15 (mq_go (mq_work (mq_cd ρ p) (μ x) x).1 x 4 16 3 % 32) ((64 * p) + x)) 16 3) + 1)) 13 p) + 1))) (by rw [rx_E_13, cx_up_upd]) (fun _ h => cx_up_J h) (fun H locs hV hS => ?_)
            rw [rx_up] at hV
            exact tail (mq_fin (mq_work (mq_cd ρ p) (μ x) x).1 p x) (mq_upL μ x (mq_work (mq_cd ρ p) (μ x) x).2) H locs ls (mq_sv3 hq (mq_finD_yes hq (by omega) (by omega))) (by obtain ⟨_, _, _, q1, q2⟩ := hR.finX hp0 hq (by omega) (by omega); exact ⟨_, _, _, q1⟩) (by rw [mq_work_01]; show ρ 0 1 + 1 < _; omega) hV hS (lv_sub hl [1, 2] rfl)
          · exact gx_vret hx hb hr hV hS (by rw [mq_sv2 hq (mq_finD_no (Or.inr (by omega)))]; rfl) dR_serve_61 hlk

set_option maxHeartbeats 4000000 in
set_option maxRecDepth 100000 in
theorem k_R_fetch (l : Launch) {D : va_G} {K : Nat → ClassId} {ad : Nat → Nat} {ρ : Nat → Nat → Nat} {μ : Nat → Int64} {lt : Int64} {p : Nat} (hp0 : p < 4) {cσ : Nat → Nat → Int32} {cτ : Nat → Nat → Int64} {pl : Nat → Nat → List Nat} (hR : rr_R cσ cτ ρ μ lt pl) (hmv : ρ 0 1 + 16 < 2 ^ 31) : Met l yR_fetch (Cond.code yR_fetch prog_7_method_18_code 6 none :: mx_T) { frames := 3, cells := 0, slots := 0, locals := 67 } (va_Pc [.ref (ad 0), .int (nI p)] (rx_P D K ad (mq_n ρ) (rx_t μ lt))) (rx_Qv D K ad (fun u => u = (mq_n (mq_fetch ρ p), rx_t μ lt))) 0 0 (gx_A ad 17) := by
  refine gx_met (by decide) rfl (Nat.le_of_ble_eq_true rfl) ?_
  intro pg ev s mid as below mth c ls hx hb hr hml ht hown hlk hnm hargs hB hl
  obtain ⟨hV, hZ⟩ := hB
  have hS : va_S (gx_A ad 17) s.heap s.heap [] := va_S.rf
  have hl : lv_has ls 6 [(0, .ref (ad 0)), (1, .int (nI p))] := hl
  have hV0 := hR.V (by omega)
  have hX0 : rr_X ρ μ lt := ⟨_, _, _, hR⟩
  refine lv_aload_n hx hb dR_fetch_0 rfl (lv_at hl 0 rfl) ?_
  refine lv_iload_n hx hb dR_fetch_1 rfl (lv_at hl 1 rfl) ?_
  refine gx_calli (va_runV (As := [.int (nI p)]) (rest := []) ⟨hx, hb, hml, hown, ht⟩ (k_R_freeId l hp0 hV0) (cwV 1 ht (mx_gV (C := "MessageCrossbarModel") mw_596 mw_598 ms_24 mw_6 mw_599) rfl rfl rfl (by decide +kernel) ⟨Nat.le_of_ble_eq_true rfl, Nat.le_of_ble_eq_true rfl⟩) (gx_preV rx_ok hV hZ hS (q := (mR_R, mT_R, 20)) (by decide) rx_E_0 rfl [.int (nI p)]) rfl rfl hl.1 rfl (lv_room (Nat.le_of_ble_eq_true rfl)) dR_fetch_2 ⟨Nat.le_of_ble_eq_true rfl, Nat.le_of_ble_eq_true rfl⟩) hV hS (fun r1 σ' τ' H locs hp hV hS => ?_)
  obtain ⟨rfl, hu⟩ := hp
  cases hu
  cases hfr : mq_free ρ p with
  | none =>
    refine lv_istore_n (lv' := [(2, .int (-1)), (0, .ref (ad 0)), (1, .int (nI p))]) hx hb dR_fetch_5 rfl hl (by decide) rfl (fun ls hl => ?_)
    refine lv_iload_n hx hb dR_fetch_6 rfl (lv_at hl 0 rfl) ?_
    refine lv_if_lt (tgt := 22) hx hb dR_fetch_7 (by decide) (fun h7 => ?_) (fun h7 => ?_)
    · exact gx_vret hx hb hr hV hS (by rw [rr_reqN (show mq_reqD ρ p = none from if_pos (Or.inl hfr))]) dR_fetch_22 hlk
    · exact absurd (show (-1 : Int32) < 0 by decide) h7
  | some j =>
    have hj4 := (mq_free_sp hfr).1
    refine lv_istore_n (lv' := [(2, .int (nI j)), (0, .ref (ad 0)), (1, .int (nI p))]) hx hb dR_fetch_5 rfl hl (by decide) rfl (fun ls hl => ?_)
    refine lv_iload_n hx hb dR_fetch_6 rfl (lv_at hl 0 rfl) ?_
    refine lv_if_lt (tgt := 22) hx hb dR_fetch_7 (by decide) (fun h7 => ?_) (fun h7 => ?_)
    · exact absurd h7 (nI_pos (by omega))
    · refine lv_aload_n hx hb dR_fetch_10 rfl (lv_at hl 1 rfl) ?_
      refine lv_iconst (v := nI 2) hx hb dR_fetch_11 (by decide) ?_
      refine lv_iconst (v := -1) hx hb dR_fetch_12 (by decide) ?_
      refine lv_iload_n hx hb dR_fetch_13 rfl (lv_at hl 2 rfl) ?_
      refine lv_isub hx hb dR_fetch_14 ?_
      refine gx_top (y := mq_who (3 + p)) mq_who_hi.symm ?_
      refine gx_calli (va_runV (As := [.int (nI 2), .int (mq_who (3 + p))]) (rest := []) ⟨hx, hb, hml, hown, ht⟩ (k_R_many l (by omega) (by omega) hV0) (cwV 2 ht (mx_gV (C := "MessageCrossbarModel") mw_546 mw_548 ms_16 mw_6 mw_549) rfl rfl rfl (by decide +kernel) ⟨Nat.le_of_ble_eq_true rfl, Nat.le_of_ble_eq_true rfl⟩) (gx_preV rx_ok hV hZ hS (q := (mR_R, mT_R, 20)) (by decide) rx_E_0 rfl [.int (nI 2), .int (mq_who (3 + p))]) rfl rfl hl.1 rfl (lv_room (Nat.le_of_ble_eq_true rfl)) dR_fetch_15 ⟨Nat.le_of_ble_eq_true rfl, Nat.le_of_ble_eq_true rfl⟩) hV hS (fun r2 σ' τ' H locs hp hV hS => ?_)
      obtain ⟨rfl, hu⟩ := hp
      cases hu
      refine lv_iconst (v := nI 1) hx hb dR_fetch_18 (by decide) ?_
      refine gx_icmp_le (a := (mq_many ρ 2 (3 + p))) (b := 1) (tgt := 23) hx hb dR_fetch_19 (by decide) (mq_many_lt _ _ _) (by omega) (fun h19 => ?_) (fun h19 => ?_)
      · refine lv_iconst (v := nI 0) hx hb dR_fetch_23 (by decide) ?_
        refine lv_istore_n (lv' := [(3, .int (nI 0)), (2, .int (nI j)), (0, .ref (ad 0)), (1, .int (nI p))]) hx hb dR_fetch_24 rfl hl (by decide) rfl (fun ls hl => ?_)
        have loop : ∀ (k : Nat) (i : Nat) (H : Heap) (locs : List Loc) (ls : Array Slot), i + k = 3 → mq_fnd (mq_reqK ρ p) 0 3 = mq_fnd (mq_reqK ρ p) i k → gx_V D mx_cl (mx_tys K) (rx_E ad K) ad 17 (mq_n ρ) (rx_t μ lt) s H → va_S (gx_A ad 17) s.heap H locs → lv_has ls 6 [(3, .int (nI i)), (0, .ref (ad 0)), (1, .int (nI p)), (2, .int (nI j))] → W pg l ev (headSpec (Cond.code yR_fetch prog_7_method_18_code 6 none :: mx_T) { frames := 3, cells := 0, slots := 0, locals := 67 }).room s mid as below mth c H locs 0 0 (MQ below (rx_Qv D K ad (fun u => u = (mq_n (mq_fetch ρ p), rx_t μ lt))) as s 0 0 (gx_A ad 17)) (F0 mid 25 ls []) := by
          intro k
          induction k with
          | zero =>
            intro i H locs ls hk hf hV hS hl
            refine lv_iload_n hx hb dR_fetch_25 rfl (lv_at hl 0 rfl) ?_
            refine lv_iconst (v := nI 3) hx hb dR_fetch_26 (by decide) ?_
            refine gx_icmp_ge (a := i) (b := 3) (tgt := 117) hx hb dR_fetch_27 (by decide) (by omega) (by omega) (fun h27 => ?_) (fun h27 => ?_)
            · exact gx_vret hx hb hr hV hS (by rw [rr_reqN (show mq_reqD ρ p = none from (if_neg (by rw [hfr]; intro q; rcases q with q | q; cases q; omega)).trans hf)]) dR_fetch_117 hlk
            · exact absurd h27 (by omega)
          | succ k ih =>
            intro i H locs ls hk hf hV hS hl
            refine lv_iload_n hx hb dR_fetch_25 rfl (lv_at hl 0 rfl) ?_
            refine lv_iconst (v := nI 3) hx hb dR_fetch_26 (by decide) ?_
            refine gx_icmp_ge (a := i) (b := 3) (tgt := 117) hx hb dR_fetch_27 (by decide) (by omega) (by omega) (fun h27 => ?_) (fun h27 => ?_)
            · exact absurd h27 (by omega)
            · refine lv_aload_n hx hb dR_fetch_30 rfl (lv_at hl 1 rfl) ?_
              refine gx_get (C := mR_R) (T := mT_R) (N' := 20) hx hb ht mh_R hown hV (by decide) rx_E_0 rfl 12 (by decide) (ht _ mw_484) (fun _ h => h) rfl dR_fetch_31 ?_
              refine lv_iload_n hx hb dR_fetch_34 rfl (lv_at hl 2 rfl) ?_
              refine gx_ialdv (v := nI (ρ 11 p)) hx hb hV (by decide) 0 rx_E_11 rfl p hp0 (by decide) rfl rfl dR_fetch_35 ?_
              refine lv_iload_n hx hb dR_fetch_36 rfl (lv_at hl 0 rfl) ?_
              refine gx_iadd (a := (ρ 11 p)) (b := i) hx hb dR_fetch_37 ?_
              refine lv_iconst (v := nI 3) hx hb dR_fetch_38 (by decide) ?_
              refine gx_irem (a := ((ρ 11 p) + i)) (b := 3) hx hb dR_fetch_39 (by have := (hV0.2.2.1 p hp0).1; omega) (by omega) (by omega) ?_
              refine lv_istore (lv' := [(4, .int (nI (((ρ 11 p) + i) % 3))), (3, .int (nI i)), (0, .ref (ad 0)), (1, .int (nI p)), (2, .int (nI j))]) hx hb dR_fetch_40 hl (by decide) rfl (fun ls hl => ?_)
              refine lv_aload_n hx hb dR_fetch_42 rfl (lv_at hl 2 rfl) ?_
              refine lv_iconst (v := nI 1) hx hb dR_fetch_43 (by decide) ?_
              refine lv_iload hx hb dR_fetch_44 (lv_at hl 0 rfl) ?_
              refine gx_top (y := mq_who ((ρ 11 p + i) % 3)) (mq_who_lo (by omega)).symm ?_
              refine gx_calli (va_runV (As := [.int (nI 1), .int (mq_who ((ρ 11 p + i) % 3))]) (rest := []) ⟨hx, hb, hml, hown, ht⟩ (k_R_first l (by omega) (by omega) hV0) (cwV 2 ht (mx_gV (C := "MessageCrossbarModel") mw_573 mw_575 ms_20 mw_6 mw_576) rfl rfl rfl (by decide +kernel) ⟨Nat.le_of_ble_eq_true rfl, Nat.le_of_ble_eq_true rfl⟩) (gx_preV rx_ok hV hZ hS (q := (mR_R, mT_R, 20)) (by decide) rx_E_0 rfl [.int (nI 1), .int (mq_who ((ρ 11 p + i) % 3))]) rfl rfl hl.1 rfl (lv_room (Nat.le_of_ble_eq_true rfl)) dR_fetch_46 ⟨Nat.le_of_ble_eq_true rfl, Nat.le_of_ble_eq_true rfl⟩) hV hS (fun r3 σ' τ' H locs hp hV hS => ?_)
              obtain ⟨rfl, hu⟩ := hp
              cases hu
              cases hq : mq_first ρ 1 ((ρ 11 p + i) % 3) with
              | none =>
                refine lv_istore (lv' := [(5, .int (-1)), (4, .int (nI (((ρ 11 p) + i) % 3))), (3, .int (nI i)), (0, .ref (ad 0)), (1, .int (nI p)), (2, .int (nI j))]) hx hb dR_fetch_49 hl (by decide) rfl (fun ls hl => ?_)
                refine lv_iload hx hb dR_fetch_51 (lv_at hl 0 rfl) ?_
                refine lv_if_lt (tgt := 111) hx hb dR_fetch_53 (by decide) (fun h53 => ?_) (fun h53 => ?_)
                · refine lv_iinc (k := 2) (v := (nI (i + 1))) (lv' := [(3, .int (nI (i + 1))), (5, .int (-1)), (4, .int (nI (((ρ 11 p) + i) % 3))), (0, .ref (ad 0)), (1, .int (nI p)), (2, .int (nI j))]) hx hb dR_fetch_111 hl rfl (nI_succ i).symm (by decide) rfl (fun ls hl => ?_)
                  refine lv_goto (tgt := 25) hx hb dR_fetch_114 (by decide) ?_
                  exact ih (i + 1) H locs ls (by omega) (by rw [hf, mq_fnd_f (by simp [mq_reqK, hq])]) hV hS (lv_sub hl [0, 3, 4, 5] rfl)
                · exact absurd (show (-1 : Int32) < 0 by decide) h53
              | some x =>
                have hx24 := hX0.first (w := 1) (g := (ρ 11 p + i) % 3) (Or.inl ⟨by simp, by omega⟩) hq
                obtain ⟨-, -, -, ha4, -⟩ := (hV0.1 x hx24.1).2 (by rw [hx24.2]; decide)
                refine lv_istore (lv' := [(5, .int (nI x)), (4, .int (nI (((ρ 11 p) + i) % 3))), (3, .int (nI i)), (0, .ref (ad 0)), (1, .int (nI p)), (2, .int (nI j))]) hx hb dR_fetch_49 hl (by decide) rfl (fun ls hl => ?_)
                refine lv_iload hx hb dR_fetch_51 (lv_at hl 0 rfl) ?_
                refine lv_if_lt (tgt := 111) hx hb dR_fetch_53 (by decide) (fun h53 => ?_) (fun h53 => ?_)
                · exact absurd h53 (nI_pos (by omega))
                · refine lv_aload_n hx hb dR_fetch_56 rfl (lv_at hl 3 rfl) ?_
                  refine gx_get (C := mR_R) (T := mT_R) (N' := 20) hx hb ht mh_R hown hV (by decide) rx_E_0 rfl 5 (by decide) (ht _ mw_477) (fun _ h => h) rfl dR_fetch_57 ?_
                  refine lv_iload hx hb dR_fetch_60 (lv_at hl 0 rfl) ?_
                  refine gx_ialdv (v := nI (ρ 5 x)) hx hb hV (by decide) 0 rx_E_5 rfl x hx24.1 (by decide) rfl rfl dR_fetch_62 ?_
                  refine gx_callp (va_runS (As := [.int (nI (ρ 5 x))]) (rest := []) ⟨hx, hb, hml, hown, ht⟩ (k_R_portOf l ha4) (cwS 1 ht (mx_gS mw_554 mw_555 mw_6 mw_556) rfl rfl rfl (by decide +kernel) ⟨Nat.le_of_ble_eq_true rfl, Nat.le_of_ble_eq_true rfl⟩) (gx_preP [.int (nI (ρ 5 x))]) rfl rfl hl.1 rfl (lv_room (Nat.le_of_ble_eq_true rfl)) dR_fetch_63 ⟨Nat.le_of_ble_eq_true rfl, Nat.le_of_ble_eq_true rfl⟩) hV hS (fun r4 H locs hp hV hS => ?_)
                  subst hp
                  refine lv_iload_n hx hb dR_fetch_66 rfl (lv_at hl 4 rfl) ?_
                  refine gx_icmp_eq (a := (mq_port (ρ 5 x))) (b := p) (tgt := 73) hx hb dR_fetch_67 (by decide) (by have := mq_port_lt (ρ 5 x); omega) (by omega) (fun h67 => ?_) (fun h67 => ?_)
                  · refine lv_aload_n hx hb dR_fetch_73 rfl (lv_at hl 3 rfl) ?_
                    refine gx_get (C := mR_R) (T := mT_R) (N' := 20) hx hb ht mh_R hown hV (by decide) rx_E_0 rfl 12 (by decide) (ht _ mw_484) (fun _ h => h) rfl dR_fetch_74 ?_
                    refine lv_iload_n hx hb dR_fetch_77 rfl (lv_at hl 4 rfl) ?_
                    refine lv_iload hx hb dR_fetch_78 (lv_at hl 1 rfl) ?_
                    refine lv_iconst (v := nI 1) hx hb dR_fetch_80 (by decide) ?_
                    refine gx_iadd (a := (((ρ 11 p) + i) % 3)) (b := 1) hx hb dR_fetch_81 ?_
                    refine lv_iconst (v := nI 3) hx hb dR_fetch_82 (by decide) ?_
                    refine gx_irem (a := ((((ρ 11 p) + i) % 3) + 1)) (b := 3) hx hb dR_fetch_83 (by omega) (by omega) (by omega) ?_
                    refine gx_iast rx_loc hx hb hV hS (by decide) 0 rx_E_11 rfl p hp0 (by decide) rfl dR_fetch_84 (cx_up (mq_n ρ) 11 p (nI (((((ρ 11 p) + i) % 3) + 1) % 3))) (by rw [rx_E_11, cx_up_upd]) (fun _ h => cx_up_J h) (fun H locs hV hS => ?_)
                    rw [rx_up] at hV
                    refine lv_aload_n hx hb dR_fetch_85 rfl (lv_at hl 3 rfl) ?_
                    refine gx_get (C := mR_R) (T := mT_R) (N' := 20) hx hb ht mh_R hown hV (by decide) rx_E_0 rfl 8 (by decide) (ht _ mw_480) (fun _ h => h) rfl dR_fetch_86 ?_
                    refine lv_iload hx hb dR_fetch_89 (lv_at hl 0 rfl) ?_
                    refine lv_iload_n hx hb dR_fetch_91 rfl (lv_at hl 5 rfl) ?_
                    refine gx_iast rx_loc hx hb hV hS (by decide) 0 rx_E_8 rfl x hx24.1 (by decide) rfl dR_fetch_92 (cx_up (mq_n (mq_up ρ 11 p (((((ρ 11 p) + i) % 3) + 1) % 3))) 8 x (nI j)) (by rw [rx_E_8, cx_up_upd]) (fun _ h => cx_up_J h) (fun H locs hV hS => ?_)
                    rw [rx_up] at hV
                    refine lv_aload_n hx hb dR_fetch_93 rfl (lv_at hl 3 rfl) ?_
                    refine lv_iload hx hb dR_fetch_94 (lv_at hl 0 rfl) ?_
                    refine lv_iconst (v := nI 2) hx hb dR_fetch_96 (by decide) ?_
                    refine gx_callv (va_runV (As := [.int (nI x), .int (nI 2)]) (rest := []) ⟨hx, hb, hml, hown, ht⟩ (k_R_go l hx24.1) (cwV 2 ht (mx_gV (C := "MessageCrossbarModel") mw_557 mw_559 ms_18 mw_6 mw_560) rfl rfl rfl (by decide +kernel) ⟨Nat.le_of_ble_eq_true rfl, Nat.le_of_ble_eq_true rfl⟩) (gx_preV rx_ok hV hZ hS (q := (mR_R, mT_R, 20)) (by decide) rx_E_0 rfl [.int (nI x), .int (nI 2)]) rfl rfl hl.1 rfl (lv_room (Nat.le_of_ble_eq_true rfl)) dR_fetch_97 ⟨Nat.le_of_ble_eq_true rfl, Nat.le_of_ble_eq_true rfl⟩) hV hS (fun σ' τ' H locs hp hV hS => ?_)
                    cases hp
                    refine lv_aload_n hx hb dR_fetch_100 rfl (lv_at hl 3 rfl) ?_
                    refine gx_get (C := mR_R) (T := mT_R) (N' := 20) hx hb ht mh_R hown hV (by decide) rx_E_0 rfl 17 (by decide) (ht _ mw_489) (fun _ h => h) rfl dR_fetch_101 ?_
                    refine lv_iconst (v := nI 2) hx hb dR_fetch_104 (by decide) ?_
                    refine lv_dup2_11 hx hb dR_fetch_105 rfl rfl ?_
                    refine gx_ialdv (v := nI ((mq_go (mq_up (mq_up ρ 11 p (((ρ 11 p + i) % 3 + 1) % 3)) 8 x j) x 2) 16 2)) hx hb hV (by decide) 0 rx_E_16 rfl 2 (by decide) (by decide) rfl rfl dR_fetch_106 ?_
                    refine lv_iconst (v := nI 1) hx hb dR_fetch_107 (by decide) ?_
                    refine gx_iadd (a := ((mq_go (mq_up (mq_up ρ 11 p (((ρ 11 p + i) % 3 + 1) % 3)) 8 x j) x 2) 16 2)) (b := 1) hx hb dR_fetch_108 ?_
                    refine gx_iast rx_loc hx hb hV hS (by decide) 0 rx_E_16 rfl 2 (by decide) (by decide) rfl dR_fetch_109 (cx_up (mq_n (mq_go (mq_up (mq_up ρ 11 p (((ρ 11 p + i) % 3 + 1) % 3)) 8 x j) x 2)) 16 2 (nI (((mq_go (mq_up (mq_up ρ 11 p (((ρ 11 p + i) % 3 + 1) % 3)) 8 x j) x 2) 16 2) + 1))) (by rw [rx_E_16, cx_up_upd]) (fun _ h => cx_up_J h) (fun H locs hV hS => ?_)
                    rw [rx_up] at hV
                    exact gx_vret hx hb hr hV hS (by rw [mq_ftc_some (show mq_reqD ρ p = some i from (if_neg (by rw [hfr]; intro q; rcases q with q | q; cases q; omega)).trans (hf.trans (mq_fnd_t (by simp [mq_reqK, hq, h67])))) hq hfr]; rfl) dR_fetch_110 hlk
                  · refine lv_goto (tgt := 111) hx hb dR_fetch_70 (by decide) ?_
                    refine lv_iinc (k := 2) (v := (nI (i + 1))) (lv' := [(3, .int (nI (i + 1))), (5, .int (nI x)), (4, .int (nI (((ρ 11 p) + i) % 3))), (0, .ref (ad 0)), (1, .int (nI p)), (2, .int (nI j))]) hx hb dR_fetch_111 hl rfl (nI_succ i).symm (by decide) rfl (fun ls hl => ?_)
                    refine lv_goto (tgt := 25) hx hb dR_fetch_114 (by decide) ?_
                    exact ih (i + 1) H locs ls (by omega) (by rw [hf, mq_fnd_f (by simp [mq_reqK, hq, h67])]) hV hS (lv_sub hl [0, 3, 4, 5] rfl)
        exact loop 3 0 _ _ ls (by omega) rfl hV hS (lv_sub hl [0, 2, 3, 1] rfl)
      · exact gx_vret hx hb hr hV hS (by rw [rr_reqN (show mq_reqD ρ p = none from if_pos (Or.inr (by omega)))]) dR_fetch_22 hlk
