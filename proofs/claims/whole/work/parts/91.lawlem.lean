/-! the law's loop: what a turn leaves for the next -/
def lw_K (pg : Program) (l : Launch) (ev : Env) (s : State) (mid : MethodId) (below : List Frame) (mth : Method) (c : Code) (b : Nat) (D : va_G) (K : Nat → ClassId) (ad : Nat → Nat) (Q : State → Prop) (cells slots i : Nat) : Prop :=
  ∀ (σ : Nat → Nat → Int32) (τ : Nat → Nat → Int64) (ρ : Nat → Nat → Nat) (μ : Nat → Int64) (lt : Int64) (pl : Nat → Nat → List Nat) (o : Nat → Int64) (H : Heap) (locs : List Loc) (ls : Array Slot), rr_R σ τ ρ μ lt pl → ρ 0 1 ≤ 160064 * (i + 1) → lz_V D K ad σ τ ρ μ lt o s H → va_S (gx_A ad 88) s.heap H locs → lv_has ls 7 [(4, .int (nI (9 * i))), (0, .ref b), (1, .ref (ad 0)), (2, .ref (ad 70)), (3, .ref (ad 87))] → W pg l ev room_1 s mid #[Value.ref b] below mth c H locs (cells + 1) (slots + 6) Q (F0 mid 793 ls [])
theorem lw_cmp {x : Int64} : lg_cmp x x = nI 0 := by simp [lg_cmp]; rfl
theorem mx_gW {own : String} {idx : Nat} {y : MethodName} {c : Cond} (h1 : Cond.methodLink own idx y ∈ mx_T) (h2 : Cond.static y ∈ mx_T) (h4 : Cond.initialized y.cls ∈ mx_T) (h : c ∈ mx_T) : GoodIn mx_T (va_wsS own idx y (c :: mx_T)) := by
  intro w hw
  unfold va_wsS at hw
  rcases List.mem_append.mp hw with hw | hw
  · simp only [List.mem_cons, List.not_mem_nil, or_false] at hw
    rcases hw with rfl | rfl | rfl
    · exact mx_one h1
    · exact mx_one h2
    · exact mx_one h4
  · exact mx_good h w hw
section LZH
variable {p : Program} {l : Launch} {e : Env} {R : Room} {s : State} {m : MethodId} {args : Array Value} {below : List Frame} {meth : Method} {c : Code} {H : Heap} {locs : List Loc} {cells slots : Nat} {Q : State → Prop}
variable {pc : Nat} {ls : Array Slot} {rest st0 : List Value} {a : Array Value} {D : va_G} {K : Nat → ClassId} {ad : Nat → Nat} {σ : Nat → Nat → Int32} {τ : Nat → Nat → Int64} {ρ : Nat → Nat → Nat} {μ : Nat → Int64} {lt : Int64} {o : Nat → Int64}
theorem lz_calliH {post : Int32 → gx_U → Prop} (hr : va_Run p l e R s m args below meth c H locs cells slots 1 6 (F0 m pc ls st0) rest (lz_Qi D K ad post a) (gx_A ad 88)) (hV : lz_V D K ad σ τ ρ μ lt o s H) (hS : va_S (gx_A ad 88) s.heap H locs)
    (kk : ∀ (r : Int32) (σ1 : Nat → Nat → Int32) (τ1 : Nat → Nat → Int64) (H1 : Heap) (locs1 : List Loc), post r (σ1, τ1) → gx_V D mx_cl (mx_tys K) (lz_E ad K) ad 88 σ1 τ1 s H1 → va_S (gx_A ad 88) s.heap H1 locs1 → W p l e R s m args below meth c H1 locs1 (cells + 1) (slots + 6) Q (F0 m (pc + 3) ls (.int r :: rest))) : W p l e R s m args below meth c H locs cells slots Q (F0 m pc ls st0) :=
  va_calli hr hS (fun _ _ h => h) (fun _ h => h) (fun r u t H1 locs1 ht _ hp hB _ _ hS1 => kk r u.1 u.2 H1 locs1 hp ⟨by rw [← ht]; exact hB, hV.2.1, hV.2.2⟩ hS1)
end LZH
