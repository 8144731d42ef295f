/-! the crossbar's own methods: all ports are served -/
theorem mq_nc (xs : List Nat) : xs = [] ∨ ∃ y t, xs = y :: t := by
  cases xs with
  | nil => exact Or.inl rfl
  | cons y t => exact Or.inr ⟨y, t, rfl⟩
theorem mq_sv0 {ρ : Nat → Nat → Nat} {μ : Nat → Int64} {p : Nat} (h3 : mq_first ρ 3 (3 + p) = none) (h2 : mq_first ρ 2 (3 + p) = none) : mq_serve ρ μ p = (ρ, μ) := by
  unfold mq_serve
  rw [h3]
  show (mq_begin ρ p, μ) = _
  unfold mq_begin
  rw [h2]
theorem mq_bg {ρ : Nat → Nat → Nat} {p y : Nat} (h2 : mq_first ρ 2 (3 + p) = some y) : mq_begin ρ p = mq_go (mq_up ρ 12 p (mq_delay p + max 1 (ρ 4 y / mq_width p))) y 3 := by
  unfold mq_begin
  rw [h2]
theorem mq_bg0 {ρ : Nat → Nat → Nat} {p : Nat} (h2 : mq_first ρ 2 (3 + p) = none) : mq_begin ρ p = ρ := by
  unfold mq_begin
  rw [h2]
theorem mq_sv1 {ρ : Nat → Nat → Nat} {μ : Nat → Int64} {p : Nat} (h3 : mq_first ρ 3 (3 + p) = none) : mq_serve ρ μ p = (mq_begin ρ p, μ) := by
  unfold mq_serve
  rw [h3]
theorem mq_sv2 {ρ : Nat → Nat → Nat} {μ : Nat → Int64} {p x : Nat} (h3 : mq_first ρ 3 (3 + p) = some x) (hd : mq_finD (mq_cd ρ p) p = none) : mq_serve ρ μ p = (mq_cd ρ p, μ) := by
  unfold mq_serve
  rw [h3]
  show (match mq_finD (mq_cd ρ p) p with | none => (mq_cd ρ p, μ) | some _ => _) = _
  rw [hd]
theorem mq_sv3 {ρ : Nat → Nat → Nat} {μ : Nat → Int64} {p x y : Nat} (h3 : mq_first ρ 3 (3 + p) = some x) (hd : mq_finD (mq_cd ρ p) p = some y) : mq_serve ρ μ p = (mq_begin (mq_fin (mq_work (mq_cd ρ p) (μ x) x).1 p x) p, mq_upL μ x (mq_work (mq_cd ρ p) (μ x) x).2) := by
  unfold mq_serve
  rw [h3]
  show (match mq_finD (mq_cd ρ p) p with | none => (mq_cd ρ p, μ) | some _ => _) = _
  rw [hd]
theorem mq_work2 {ρ : Nat → Nat → Nat} {d : Int64} {x : Nat} : (mq_work ρ d x).2 = (if 640 ≤ ρ 5 x then 0 else if ρ 3 x = 0 then lN (mq_got (ρ 14) (ρ 5 x) (ρ 4 x)) else 0) := by
  unfold mq_work
  by_cases h1 : 640 ≤ ρ 5 x
  · rw [if_pos h1, if_pos h1]
  · rw [if_neg h1, if_neg h1]
    by_cases h2 : ρ 3 x = 0
    · rw [if_pos h2, if_pos h2]
    · rw [if_neg h2, if_neg h2]
theorem mq_al {a z : Nat} (hz : z < 4) (h : a % 2 ^ z = 0) (ha : a < 640) : a + 2 ^ z ≤ 640 := by
  have : z = 0 ∨ z = 1 ∨ z = 2 ∨ z = 3 := by omega
  rcases this with rfl | rfl | rfl | rfl <;> omega
theorem mq_vlt {p z : Nat} (hp : p < 4) (hz : z < 4) : mq_delay p + max 1 (2 ^ z / mq_width p) < 16 := by
  have h1 := (cx_dls_d hp).2
  have h2 := cx_p8 hz
  have h3 : 2 ^ z / mq_width p ≤ 2 ^ z := Nat.div_le_self _ _
  omega
theorem mq_work_01 {ρ : Nat → Nat → Nat} {d : Int64} {x p : Nat} : mq_fin (mq_work ρ d x).1 p x 0 1 = ρ 0 1 + 1 := by
  rw [mq_fin_sp.2.2.2.2.2.2.1, mq_work_n (by omega)]

set_option maxHeartbeats 4000000 in
set_option maxRecDepth 100000 in
theorem k_X_servePorts (l : Launch) {D : va_G} {K : Nat → ClassId} {ad : Nat → Nat} {σ : Nat → Nat → Int32} {τ : Nat → Nat → Int64} {ρ : Nat → Nat → Nat} {μ : Nat → Int64} {lt : Int64} {pl : Nat → Nat → List Nat} (hR : rr_R σ τ ρ μ lt pl) (hmv : ρ 0 1 + 16 < 2 ^ 31) : Met l yX_servePorts (Cond.code yX_servePorts prog_1_method_19_code 3 (some .boolean) :: mx_T) { frames := 4, cells := 0, slots := 0, locals := 89 } (va_Pc [.ref (ad 0)] (cx_P D K ad σ τ)) (cx_Qi D K ad (fun rr u => ∃ (f : Nat) (pl' : Nat → Nat → List Nat), rr = nI f ∧ f ≤ 1 ∧ (mq_srv ρ μ 4).1 0 2 = (if f = 1 then 1 else ρ 0 2) ∧ rr_R u.1 u.2 (mq_srv ρ μ 4).1 (mq_srv ρ μ 4).2 lt pl')) 0 0 (gx_A ad 70) := by
  refine gx_met (by decide) rfl (Nat.le_of_ble_eq_true rfl) ?_
  intro pg ev s mid as below mth c ls hx hb hr hml ht hown hlk hnm hargs hB hl
  obtain ⟨hV, hZ⟩ := hB
  have hS : va_S (gx_A ad 70) s.heap s.heap [] := va_S.rf
  have hl : lv_has ls 3 [(0, .ref (ad 0))] := hl
  refine lv_iconst (v := nI 0) hx hb dX_servePorts_0 (by decide) ?_
  refine lv_istore_n (lv' := [(1, .int (nI 0)), (0, .ref (ad 0))]) hx hb dX_servePorts_1 rfl hl (by decide) rfl (fun ls hl => ?_)
  refine lv_iconst (v := nI 0) hx hb dX_servePorts_2 (by decide) ?_
  refine lv_istore_n (lv' := [(2, .int (nI 0)), (1, .int (nI 0)), (0, .ref (ad 0))]) hx hb dX_servePorts_3 rfl hl (by decide) rfl (fun ls hl => ?_)
  have loop : ∀ (k : Nat) (i f : Nat) (σ1 : Nat → Nat → Int32) (τ1 : Nat → Nat → Int64) (ρ1 : Nat → Nat → Nat) (μ1 : Nat → Int64) (pl1 : Nat → Nat → List Nat) (H : Heap) (locs : List Loc) (ls : Array Slot), i + k = 4 → f ≤ 1 → mq_srv ρ μ i = (ρ1, μ1) → ρ1 0 2 = (if f = 1 then 1 else ρ 0 2) → ρ1 0 1 ≤ ρ 0 1 + 2 * i → rr_R σ1 τ1 ρ1 μ1 lt pl1 → gx_V D mx_cl (mx_tys K) (cx_E ad K) ad 70 (σ1) (τ1) s H → va_S (gx_A ad 70) s.heap H locs → lv_has ls 3 [(2, .int (nI i)), (1, .int (nI f)), (0, .ref (ad 0))] → W pg l ev (headSpec (Cond.code yX_servePorts prog_1_method_19_code 3 (some .boolean) :: mx_T) { frames := 4, cells := 0, slots := 0, locals := 89 }).room s mid as below mth c H locs 0 0 (MQ below (cx_Qi D K ad (fun rr u => ∃ (f : Nat) (pl' : Nat → Nat → List Nat), rr = nI f ∧ f ≤ 1 ∧ (mq_srv ρ μ 4).1 0 2 = (if f = 1 then 1 else ρ 0 2) ∧ rr_R u.1 u.2 (mq_srv ρ μ 4).1 (mq_srv ρ μ 4).2 lt pl')) as s 0 0 (gx_A ad 70)) (F0 mid 4 ls []) := by
    intro k
    induction k with
    | zero =>
      intro i f σ1 τ1 ρ1 μ1 pl1 H locs ls hk hf1 hs hf2 hm1 R1 hV hS hl
      refine lv_iload_n hx hb dX_servePorts_4 rfl (lv_at hl 0 rfl) ?_
      refine lv_iconst (v := nI 4) hx hb dX_servePorts_5 (by decide) ?_
      refine gx_icmp_ge (a := i) (b := 4) (tgt := 62) hx hb dX_servePorts_6 (by decide) (by omega) (by omega) (fun h6 => ?_) (fun h6 => ?_)
      · refine lv_iload_n hx hb dX_servePorts_62 rfl (lv_at hl 1 rfl) ?_
        exact gx_zret hx hb hr (cx_nb1 hf1) hV hS ⟨f, pl1, rfl, hf1, by rw [show 4 = i by omega, hs]; exact hf2, by rw [show 4 = i by omega, hs]; exact R1⟩ dX_servePorts_63 hlk
      · exact absurd h6 (by omega)
    | succ k ih =>
      intro i f σ1 τ1 ρ1 μ1 pl1 H locs ls hk hf1 hs hf2 hm1 R1 hV hS hl
      refine lv_iload_n hx hb dX_servePorts_4 rfl (lv_at hl 0 rfl) ?_
      refine lv_iconst (v := nI 4) hx hb dX_servePorts_5 (by decide) ?_
      refine gx_icmp_ge (a := i) (b := 4) (tgt := 62) hx hb dX_servePorts_6 (by decide) (by omega) (by omega) (fun h6 => ?_) (fun h6 => ?_)
      · exact absurd h6 (by omega)
      · have hi4 : i < 4 := by omega
        have Ra := R1.cd hi4
        obtain ⟨j1, j2, j3, j4, j5, -⟩ := R1.2.2.1 i hi4
        refine lv_aload_n hx hb dX_servePorts_9 rfl (lv_at hl 2 rfl) ?_
        refine gx_get (C := mR_X) (T := mT_X) (N' := 7) hx hb ht mh_X hown hV (by decide) cx_E_X rfl 1 (by decide) (ht _ mw_130) (fun _ h => h) rfl dX_servePorts_10 ?_
        refine lv_iload_n hx hb dX_servePorts_13 rfl (lv_at hl 0 rfl) ?_
        refine gx_aald hx hb hV (by decide) 5 cx_E_Ps rfl i hi4 (by decide) rfl rfl dX_servePorts_14 ?_
        refine gx_callv (va_runV (As := []) (rest := []) ⟨hx, hb, hml, hown, ht⟩ (k_P_countDown l hi4 (t := ρ1 12 i) j3 j5) (cwV 0 ht (mx_gV (C := "MessageCrossbar$Port") mw_316 mw_317 mw_318 mw_4 mw_319) rfl rfl rfl (by decide +kernel) ⟨Nat.le_of_ble_eq_true rfl, Nat.le_of_ble_eq_true rfl⟩) (gx_preV cx_ok hV hZ hS (q := (mR_P, mT_P, 7)) (show 18 + 6 * i < 70 by omega) (cx_E_P hi4) rfl []) rfl rfl hl.1 rfl (lv_room (Nat.le_of_ble_eq_true rfl)) dX_servePorts_15 ⟨Nat.le_of_ble_eq_true rfl, Nat.le_of_ble_eq_true rfl⟩) hV hS (fun σ' τ' H locs hp hV hS => ?_)
        cases hp
        generalize hga : cx_up σ1 (18 + 6 * i) 4 (nI (ρ1 12 i - 1)) = σa at hV Ra
        generalize hgr : mq_up ρ1 12 i (ρ1 12 i - 1) = ρa at Ra
        obtain ⟨-, ja2, ja3, ja4, ja5, -⟩ := Ra.2.2.1 i hi4
        have ok4 : mq_ok 4 (3 + i) := Or.inr ⟨by simp, by omega, by omega⟩
        have ok3 : mq_ok 3 (3 + i) := Or.inr ⟨by simp, by omega, by omega⟩
        have ok2 : mq_ok 2 (3 + i) := Or.inr ⟨by simp, by omega, by omega⟩
        have hl4 := Ra.1 4 (3 + i) ok4 (by omega)
        have hl2 := Ra.1 2 (3 + i) ok2 (by omega)
        rw [show rr_ln 4 (3 + i) = 21 + 6 * i by simp [rr_ln], show rr_room 4 = 2 from rfl] at hl4
        rw [show rr_ln 2 (3 + i) = 19 + 6 * i by simp [rr_ln], show rr_room 2 = 2 from rfl] at hl2
        have ha01 : ρa 0 1 = ρ1 0 1 := by rw [← hgr]; exact mq_up_j (by omega)
        have ha02 : ρa 0 2 = ρ1 0 2 := by rw [← hgr]; exact mq_up_j (by omega)
        refine lv_aload_n hx hb dX_servePorts_18 rfl (lv_at hl 2 rfl) ?_
        refine gx_get (C := mR_X) (T := mT_X) (N' := 7) hx hb ht mh_X hown hV (by decide) cx_E_X rfl 1 (by decide) (ht _ mw_130) (fun _ h => h) rfl dX_servePorts_19 ?_
        refine lv_iload_n hx hb dX_servePorts_22 rfl (lv_at hl 0 rfl) ?_
        refine gx_aald hx hb hV (by decide) 5 cx_E_Ps rfl i hi4 (by decide) rfl rfl dX_servePorts_23 ?_
        refine gx_calli (va_runV (As := []) (rest := []) ⟨hx, hb, hml, hown, ht⟩ (k_P_canFinishJob l hi4 ja3 ja5 hl4.1.1 hl4.2) (cwV 0 ht (mx_gV (C := "MessageCrossbar$Port") mw_320 mw_321 mw_322 mw_4 mw_323) rfl rfl rfl (by decide +kernel) ⟨Nat.le_of_ble_eq_true rfl, Nat.le_of_ble_eq_true rfl⟩) (gx_preV cx_ok hV hZ hS (q := (mR_P, mT_P, 7)) (show 18 + 6 * i < 70 by omega) (cx_E_P hi4) rfl []) rfl rfl hl.1 rfl (lv_room (Nat.le_of_ble_eq_true rfl)) dX_servePorts_24 ⟨Nat.le_of_ble_eq_true rfl, Nat.le_of_ble_eq_true rfl⟩) hV hS (fun r2 σ' τ' H locs hp hV hS => ?_)
        obtain ⟨rfl, hu⟩ := hp
        cases hu
        rcases mq_nc (pl1 3 (3 + i)) with hj | ⟨x, tl, hj⟩
        · have hcd : ρa = ρ1 := by rw [← hgr]; exact mq_up_same (by rw [j4 hj])
          have h3n : mq_first ρ1 3 (3 + i) = none := by rw [R1.2.1.first ok3, hj]; rfl
          refine gx_ifb_eq (q := σa (18 + 6 * i) 3 ≠ -1 ∧ ρa 12 i = 0 ∧ (pl1 4 (3 + i)).length < 2) (tgt := 37) hx hb dX_servePorts_27 (by decide) (fun h27 => ?_) (fun h27 => ?_)
          · refine lv_aload_n hx hb dX_servePorts_37 rfl (lv_at hl 2 rfl) ?_
            refine gx_get (C := mR_X) (T := mT_X) (N' := 7) hx hb ht mh_X hown hV (by decide) cx_E_X rfl 1 (by decide) (ht _ mw_130) (fun _ h => h) rfl dX_servePorts_38 ?_
            refine lv_iload_n hx hb dX_servePorts_41 rfl (lv_at hl 0 rfl) ?_
            refine gx_aald hx hb hV (by decide) 5 cx_E_Ps rfl i hi4 (by decide) rfl rfl dX_servePorts_42 ?_
            refine gx_calli (va_runV (As := []) (rest := []) ⟨hx, hb, hml, hown, ht⟩ (k_P_canBeginJob l hi4 hl2.1.1 hl2.2) (cwV 0 ht (mx_gV (C := "MessageCrossbar$Port") mw_358 mw_359 mw_360 mw_4 mw_361) rfl rfl rfl (by decide +kernel) ⟨Nat.le_of_ble_eq_true rfl, Nat.le_of_ble_eq_true rfl⟩) (gx_preV cx_ok hV hZ hS (q := (mR_P, mT_P, 7)) (show 18 + 6 * i < 70 by omega) (cx_E_P hi4) rfl []) rfl rfl hl.1 rfl (lv_room (Nat.le_of_ble_eq_true rfl)) dX_servePorts_43 ⟨Nat.le_of_ble_eq_true rfl, Nat.le_of_ble_eq_true rfl⟩) hV hS (fun r3 σ' τ' H locs hp hV hS => ?_)
            obtain ⟨rfl, hu⟩ := hp
            cases hu
            rcases mq_nc (pl1 2 (3 + i)) with hq | ⟨y, t, hq⟩
            · have h2n : mq_first ρ1 2 (3 + i) = none := by rw [R1.2.1.first ok2, hq]; rfl
              refine gx_ifb_eq (q := σa (18 + 6 * i) 3 = -1 ∧ 0 < (pl1 2 (3 + i)).length) (tgt := 56) hx hb dX_servePorts_46 (by decide) (fun h46 => ?_) (fun h46 => ?_)
              · refine lv_iinc (k := 0) (v := (nI (i + 1))) (lv' := [(2, .int (nI (i + 1))), (1, .int (nI f)), (0, .ref (ad 0))]) hx hb dX_servePorts_56 hl rfl (nI_succ i).symm (by decide) rfl (fun ls hl => ?_)
                refine lv_goto (tgt := 4) hx hb dX_servePorts_59 (by decide) ?_
                exact ih (i + 1) f σa τ1 ρa μ1 pl1 H locs ls (by omega) hf1 (by show mq_serve (mq_srv ρ μ i).1 (mq_srv ρ μ i).2 i = _; rw [hs]; show mq_serve ρ1 μ1 i = _; rw [hcd]; exact mq_sv0 h3n h2n) (by rw [ha02]; exact hf2) (by omega) Ra hV hS (lv_sub hl [0, 1, 2] rfl)
              · exact absurd h46.2 (by rw [hq]; decide)
            · obtain ⟨hy24, hy2, -⟩ := Ra.2.1.mem (w := 2) (g := 3 + i) (Or.inr ⟨by simp, by omega, by omega⟩) (x := y) (by rw [hq]; simp)
              obtain ⟨-, ⟨zz, hzz4, hzz, hzz2⟩, -⟩ := Ra.2.2.2.2.2.1 y hy24 (by rw [hy2]; decide)
              have hQ := Ra.1 2 (3 + i) (Or.inr ⟨by simp, by omega, by omega⟩) (by omega)
              rw [hq, show rr_ln 2 (3 + i) = 19 + 6 * i by simp [rr_ln], show rr_room 2 = 2 from rfl] at hQ
              have R2 := Ra.beg hi4 hq hj (mq_vlt (z := zz) hi4 hzz4)
              have h2s : mq_first ρ1 2 (3 + i) = some y := by rw [R1.2.1.first ok2, hq]; rfl
              refine gx_ifb_eq (q := σa (18 + 6 * i) 3 = -1 ∧ 0 < (pl1 2 (3 + i)).length) (tgt := 56) hx hb dX_servePorts_46 (by decide) (fun h46 => ?_) (fun h46 => ?_)
              · exact absurd ⟨by rw [ja2, hj]; rfl, by rw [hq]; exact Nat.succ_pos _⟩ h46
              · refine lv_aload_n hx hb dX_servePorts_49 rfl (lv_at hl 2 rfl) ?_
                refine lv_iload_n hx hb dX_servePorts_50 rfl (lv_at hl 0 rfl) ?_
                refine gx_callv (va_runV (As := [.int (nI i)]) (rest := []) ⟨hx, hb, hml, hown, ht⟩ (k_X_beginJob l hi4 hy24 hzz hzz4 hQ.1 hQ.2) (cwV 1 ht (mx_gV (C := "MessageCrossbar") mw_362 mw_364 ms_10 mw_1 mw_365) rfl rfl rfl (by decide +kernel) ⟨Nat.le_of_ble_eq_true rfl, Nat.le_of_ble_eq_true rfl⟩) (gx_preV cx_ok hV hZ hS (q := (mR_X, mT_X, 7)) (by decide) cx_E_X rfl [.int (nI i)]) rfl rfl hl.1 rfl (lv_room (Nat.le_of_ble_eq_true rfl)) dX_servePorts_51 ⟨Nat.le_of_ble_eq_true rfl, Nat.le_of_ble_eq_true rfl⟩) hV hS (fun σ' τ' H locs hp hV hS => ?_)
                cases hp
                refine lv_iconst (v := nI 1) hx hb dX_servePorts_54 (by decide) ?_
                refine lv_istore_n (lv' := [(1, .int (nI 1)), (2, .int (nI i)), (0, .ref (ad 0))]) hx hb dX_servePorts_55 rfl hl (by decide) rfl (fun ls hl => ?_)
                refine lv_iinc (k := 1) (v := (nI (i + 1))) (lv' := [(2, .int (nI (i + 1))), (1, .int (nI 1)), (0, .ref (ad 0))]) hx hb dX_servePorts_56 hl rfl (nI_succ i).symm (by decide) rfl (fun ls hl => ?_)
                refine lv_goto (tgt := 4) hx hb dX_servePorts_59 (by decide) ?_
                exact ih (i + 1) 1 _ τ1 _ μ1 _ H locs ls (by omega) (Nat.le_refl 1) (by show mq_serve (mq_srv ρ μ i).1 (mq_srv ρ μ i).2 i = _; rw [hs]; show mq_serve ρ1 μ1 i = _; rw [mq_sv1 h3n, mq_bg h2s, ← hcd, hzz2]) mq_go_02 (by rw [mq_go_01, mq_up_j (by omega)]; omega) R2 hV hS (lv_sub hl [0, 1, 2] rfl)
          · exact absurd (by rw [ja2, hj]; rfl) h27.1
        · have htl : tl = [] := by rw [hj] at j1; simpa using j1
          subst htl
          obtain ⟨hx24, hx3, -⟩ := Ra.2.1.mem ok3 (x := x) (by rw [hj]; simp)
          have h3s : mq_first ρ1 3 (3 + i) = some x := by rw [R1.2.1.first ok3, hj]; rfl
          have h3a : mq_first ρa 3 (3 + i) = some x := by rw [Ra.2.1.first ok3, hj]; rfl
          have hja : σa (18 + 6 * i) 3 = nI x := by rw [ja2, hj]; rfl
          obtain ⟨⟨hso, hso3⟩, ⟨zx, hzx4, hzx, hzx2⟩, ⟨had, had4, hal⟩, ⟨hmk, hmk2⟩, hdt⟩ := Ra.2.2.2.2.2.1 x hx24 (by rw [hx3]; decide)
          refine gx_ifb_eq (q := σa (18 + 6 * i) 3 ≠ -1 ∧ ρa 12 i = 0 ∧ (pl1 4 (3 + i)).length < 2) (tgt := 37) hx hb dX_servePorts_27 (by decide) (fun h27 => ?_) (fun h27 => ?_)
          · refine lv_aload_n hx hb dX_servePorts_37 rfl (lv_at hl 2 rfl) ?_
            refine gx_get (C := mR_X) (T := mT_X) (N' := 7) hx hb ht mh_X hown hV (by decide) cx_E_X rfl 1 (by decide) (ht _ mw_130) (fun _ h => h) rfl dX_servePorts_38 ?_
            refine lv_iload_n hx hb dX_servePorts_41 rfl (lv_at hl 0 rfl) ?_
            refine gx_aald hx hb hV (by decide) 5 cx_E_Ps rfl i hi4 (by decide) rfl rfl dX_servePorts_42 ?_
            refine gx_calli (va_runV (As := []) (rest := []) ⟨hx, hb, hml, hown, ht⟩ (k_P_canBeginJob l hi4 hl2.1.1 hl2.2) (cwV 0 ht (mx_gV (C := "MessageCrossbar$Port") mw_358 mw_359 mw_360 mw_4 mw_361) rfl rfl rfl (by decide +kernel) ⟨Nat.le_of_ble_eq_true rfl, Nat.le_of_ble_eq_true rfl⟩) (gx_preV cx_ok hV hZ hS (q := (mR_P, mT_P, 7)) (show 18 + 6 * i < 70 by omega) (cx_E_P hi4) rfl []) rfl rfl hl.1 rfl (lv_room (Nat.le_of_ble_eq_true rfl)) dX_servePorts_43 ⟨Nat.le_of_ble_eq_true rfl, Nat.le_of_ble_eq_true rfl⟩) hV hS (fun r5 σ' τ' H locs hp hV hS => ?_)
            obtain ⟨rfl, hu⟩ := hp
            cases hu
            refine gx_ifb_eq (q := σa (18 + 6 * i) 3 = -1 ∧ 0 < (pl1 2 (3 + i)).length) (tgt := 56) hx hb dX_servePorts_46 (by decide) (fun h46 => ?_) (fun h46 => ?_)
            · refine lv_iinc (k := 0) (v := (nI (i + 1))) (lv' := [(2, .int (nI (i + 1))), (1, .int (nI f)), (0, .ref (ad 0))]) hx hb dX_servePorts_56 hl rfl (nI_succ i).symm (by decide) rfl (fun ls hl => ?_)
              refine lv_goto (tgt := 4) hx hb dX_servePorts_59 (by decide) ?_
              exact ih (i + 1) f σa τ1 ρa μ1 pl1 H locs ls (by omega) hf1 (by show mq_serve (mq_srv ρ μ i).1 (mq_srv ρ μ i).2 i = _; rw [hs]; show mq_serve ρ1 μ1 i = _; rw [← hgr]; exact mq_sv2 h3s (by show mq_finD (mq_up ρ1 12 i (ρ1 12 i - 1)) i = _; rw [hgr]; unfold mq_finD; rw [if_pos]; rw [Ra.2.1.many ok4]; have : ¬ (ρa 12 i = 0 ∧ (pl1 4 (3 + i)).length < 2) := fun q => h27 ⟨by rw [hja]; exact rr_m1 hx24, q⟩; omega)) (by rw [ha02]; exact hf2) (by omega) Ra hV hS (lv_sub hl [0, 1, 2] rfl)
            · exact absurd (hja.symm.trans h46.1) (rr_m1 hx24)
          · refine lv_aload_n hx hb dX_servePorts_30 rfl (lv_at hl 2 rfl) ?_
            refine lv_iload_n hx hb dX_servePorts_31 rfl (lv_at hl 0 rfl) ?_
            have Rf := Ra.fin hi4 hj h27.2.1 h27.2.2
            have hc31 : ρa 16 3 < 2 ^ 31 := by have := Ra.2.2.2.2.2.2.1.2.2.2; omega
            refine gx_callv (va_runV (As := [.int (nI i)]) (rest := []) ⟨hx, hb, hml, hown, ht⟩ (k_X_finishJob l (bt := ρa 14) (c3 := ρa 16 3) hi4 hx24 hzx hzx4 had had4 (fun q => mq_al hzx4 (by rw [← hzx2]; exact hal) q) hso hso3 hmk hmk2 Ra.2.2.2.2.2.2.1.1 hja hl4.1.1 h27.2.2 (Ra.2.2.2.2.2.2.1.2.2.1 3 (by omega)) hc31) (cwV 1 ht (mx_gV (C := "MessageCrossbar") mw_325 mw_327 ms_6 mw_1 mw_328) rfl rfl rfl (by decide +kernel) ⟨Nat.le_of_ble_eq_true rfl, Nat.le_of_ble_eq_true rfl⟩) (gx_preV cx_ok hV hZ hS (q := (mR_X, mT_X, 7)) (by decide) cx_E_X rfl [.int (nI i)]) rfl rfl hl.1 rfl (lv_room (Nat.le_of_ble_eq_true rfl)) dX_servePorts_32 ⟨Nat.le_of_ble_eq_true rfl, Nat.le_of_ble_eq_true rfl⟩) hV hS (fun σ' τ' H locs hp hV hS => ?_)
            cases hp
            rw [← hzx2, hdt, ← mq_work2 (d := μ1 x)] at hV
            generalize hgf : cx_fin σa i (pl1 4 (3 + i)).length x (ρa 3 x) (ρa 7 x) (ρa 5 x) (ρa 4 x) (ρa 16 3) (μ1 x) = σf at hV Rf
            generalize hgt : gx_upL τ1 (43 + x) 0 (mq_work ρa (μ1 x) x).2 = τf at hV Rf
            have hjf0 : mq_set (mq_set pl1 3 (3 + i) []) 4 (3 + i) (pl1 4 (3 + i) ++ [x]) 3 (3 + i) = [] := by rw [mq_set_n (by omega), mq_set_s]
            generalize hgp : mq_set (mq_set pl1 3 (3 + i) []) 4 (3 + i) (pl1 4 (3 + i) ++ [x]) = plf at Rf hjf0
            have hjf := hjf0
            have hf01 : mq_fin (mq_work ρa (μ1 x) x).1 i x 0 1 = ρa 0 1 + 1 := mq_work_01
            have hf02 : mq_fin (mq_work ρa (μ1 x) x).1 i x 0 2 = 1 := mq_fin_sp.2.2.2.2.2.2.2
            have hsv : mq_serve ρ1 μ1 i = (mq_begin (mq_fin (mq_work ρa (μ1 x) x).1 i x) i, mq_upL μ1 x (mq_work ρa (μ1 x) x).2) := by rw [← hgr]; exact mq_sv3 (y := x) h3s (by show mq_finD (mq_up ρ1 12 i (ρ1 12 i - 1)) i = _; rw [hgr]; unfold mq_finD; rw [if_neg (by rw [Ra.2.1.many ok4]; omega)]; exact h3a)
            generalize hgq : mq_fin (mq_work ρa (μ1 x) x).1 i x = ρf at Rf hf01 hf02 hsv
            refine lv_iconst (v := nI 1) hx hb dX_servePorts_35 (by decide) ?_
            refine lv_istore_n (lv' := [(1, .int (nI 1)), (2, .int (nI i)), (0, .ref (ad 0))]) hx hb dX_servePorts_36 rfl hl (by decide) rfl (fun ls hl => ?_)
            refine lv_aload_n hx hb dX_servePorts_37 rfl (lv_at hl 2 rfl) ?_
            refine gx_get (C := mR_X) (T := mT_X) (N' := 7) hx hb ht mh_X hown hV (by decide) cx_E_X rfl 1 (by decide) (ht _ mw_130) (fun _ h => h) rfl dX_servePorts_38 ?_
            refine lv_iload_n hx hb dX_servePorts_41 rfl (lv_at hl 1 rfl) ?_
            refine gx_aald hx hb hV (by decide) 5 cx_E_Ps rfl i hi4 (by decide) rfl rfl dX_servePorts_42 ?_
            have hlf := Rf.1 2 (3 + i) ok2 (by omega)
            rw [show rr_ln 2 (3 + i) = 19 + 6 * i by simp [rr_ln], show rr_room 2 = 2 from rfl] at hlf
            refine gx_calli (va_runV (As := []) (rest := []) ⟨hx, hb, hml, hown, ht⟩ (k_P_canBeginJob l hi4 hlf.1.1 hlf.2) (cwV 0 ht (mx_gV (C := "MessageCrossbar$Port") mw_358 mw_359 mw_360 mw_4 mw_361) rfl rfl rfl (by decide +kernel) ⟨Nat.le_of_ble_eq_true rfl, Nat.le_of_ble_eq_true rfl⟩) (gx_preV cx_ok hV hZ hS (q := (mR_P, mT_P, 7)) (show 18 + 6 * i < 70 by omega) (cx_E_P hi4) rfl []) rfl rfl hl.1 rfl (lv_room (Nat.le_of_ble_eq_true rfl)) dX_servePorts_43 ⟨Nat.le_of_ble_eq_true rfl, Nat.le_of_ble_eq_true rfl⟩) hV hS (fun r7 σ' τ' H locs hp hV hS => ?_)
            obtain ⟨rfl, hu⟩ := hp
            cases hu
            rcases mq_nc (plf 2 (3 + i)) with hq | ⟨y, t, hq⟩
            · have h2n : mq_first ρf 2 (3 + i) = none := by rw [Rf.2.1.first ok2, hq]; rfl
              refine gx_ifb_eq (q := σf (18 + 6 * i) 3 = -1 ∧ 0 < (plf 2 (3 + i)).length) (tgt := 56) hx hb dX_servePorts_46 (by decide) (fun h46 => ?_) (fun h46 => ?_)
              · refine lv_iinc (k := 1) (v := (nI (i + 1))) (lv' := [(2, .int (nI (i + 1))), (1, .int (nI 1)), (0, .ref (ad 0))]) hx hb dX_servePorts_56 hl rfl (nI_succ i).symm (by decide) rfl (fun ls hl => ?_)
                refine lv_goto (tgt := 4) hx hb dX_servePorts_59 (by decide) ?_
                exact ih (i + 1) 1 σf τf ρf _ plf H locs ls (by omega) (Nat.le_refl 1) (by show mq_serve (mq_srv ρ μ i).1 (mq_srv ρ μ i).2 i = _; rw [hs]; show mq_serve ρ1 μ1 i = _; rw [hsv, mq_bg0 h2n]) hf02 (by omega) Rf hV hS (lv_sub hl [0, 1, 2] rfl)
              · exact absurd h46.2 (by rw [hq]; decide)
            · obtain ⟨hy24, hy2, -⟩ := Rf.2.1.mem (w := 2) (g := 3 + i) (Or.inr ⟨by simp, by omega, by omega⟩) (x := y) (by rw [hq]; simp)
              obtain ⟨-, ⟨zz, hzz4, hzz, hzz2⟩, -⟩ := Rf.2.2.2.2.2.1 y hy24 (by rw [hy2]; decide)
              have hQ := Rf.1 2 (3 + i) (Or.inr ⟨by simp, by omega, by omega⟩) (by omega)
              rw [hq, show rr_ln 2 (3 + i) = 19 + 6 * i by simp [rr_ln], show rr_room 2 = 2 from rfl] at hQ
              have R2 := Rf.beg hi4 hq hjf (mq_vlt (z := zz) hi4 hzz4)
              have h2s : mq_first ρf 2 (3 + i) = some y := by rw [Rf.2.1.first ok2, hq]; rfl
              refine gx_ifb_eq (q := σf (18 + 6 * i) 3 = -1 ∧ 0 < (plf 2 (3 + i)).length) (tgt := 56) hx hb dX_servePorts_46 (by decide) (fun h46 => ?_) (fun h46 => ?_)
              · exact absurd ⟨by rw [(Rf.2.2.1 i hi4).2.1, hjf]; rfl, by rw [hq]; exact Nat.succ_pos _⟩ h46
              · refine lv_aload_n hx hb dX_servePorts_49 rfl (lv_at hl 2 rfl) ?_
                refine lv_iload_n hx hb dX_servePorts_50 rfl (lv_at hl 1 rfl) ?_
                refine gx_callv (va_runV (As := [.int (nI i)]) (rest := []) ⟨hx, hb, hml, hown, ht⟩ (k_X_beginJob l hi4 hy24 hzz hzz4 hQ.1 hQ.2) (cwV 1 ht (mx_gV (C := "MessageCrossbar") mw_362 mw_364 ms_10 mw_1 mw_365) rfl rfl rfl (by decide +kernel) ⟨Nat.le_of_ble_eq_true rfl, Nat.le_of_ble_eq_true rfl⟩) (gx_preV cx_ok hV hZ hS (q := (mR_X, mT_X, 7)) (by decide) cx_E_X rfl [.int (nI i)]) rfl rfl hl.1 rfl (lv_room (Nat.le_of_ble_eq_true rfl)) dX_servePorts_51 ⟨Nat.le_of_ble_eq_true rfl, Nat.le_of_ble_eq_true rfl⟩) hV hS (fun σ' τ' H locs hp hV hS => ?_)
                cases hp
                refine lv_iconst (v := nI 1) hx hb dX_servePorts_54 (by decide) ?_
                refine lv_istore_n (lv' := [(1, .int (nI 1)), (2, .int (nI i)), (0, .ref (ad 0))]) hx hb dX_servePorts_55 rfl hl (by decide) rfl (fun ls hl => ?_)
                refine lv_iinc (k := 1) (v := (nI (i + 1))) (lv' := [(2, .int (nI (i + 1))), (1, .int (nI 1)), (0, .ref (ad 0))]) hx hb dX_servePorts_56 hl rfl (nI_succ i).symm (by decide) rfl (fun ls hl => ?_)
                refine lv_goto (tgt := 4) hx hb dX_servePorts_59 (by decide) ?_
                exact ih (i + 1) 1 _ τf _ _ _ H locs ls (by omega) (Nat.le_refl 1) (by show mq_serve (mq_srv ρ μ i).1 (mq_srv ρ μ i).2 i = _; rw [hs]; show mq_serve ρ1 μ1 i = _; rw [hsv, mq_bg h2s, hzz2]) mq_go_02 (by rw [mq_go_01, mq_up_j (by omega)]; omega) R2 hV hS (lv_sub hl [0, 1, 2] rfl)
  exact loop 4 0 0 _ _ _ _ _ _ _ ls (by omega) (by omega) rfl rfl (by omega) hR hV hS hl
