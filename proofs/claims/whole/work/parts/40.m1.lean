set_option maxHeartbeats 4000000 in
set_option maxRecDepth 100000 in
theorem kX12_in (G : xg_T) (d : Nat) (n : Nat) (tau : Nat → Nat × Nat) (vi vl : Nat → Int → Int) (vr : Nat → Int → Option Nat) (v lo hi : Int) (hv : -2147483648 ≤ v ∧ v < 2147483648) (hlo : -2147483648 ≤ lo ∧ lo < 2147483648) (hhi : -2147483648 ≤ hi ∧ hi < 2147483648) : xm G yX12_in cX12_in 3 (some .boolean) (d + 1) 0 0 [xa_i v, xa_i lo, xa_i hi] n tau vi vl vr (xp_i (fun z9 n1 t1 a1 b1 c1 => ((z9 = 1 ∧ lo ≤ v ∧ v ≤ hi) ∨ (z9 = 0 ∧ (v < lo ∨ hi < v))) ∧ xs_0 n tau vi vl vr n1 t1 a1 b1 c1)) := by
  refine xm.of (lv := [(0, xa_i v), (1, xa_i lo), (2, xa_i hi)]) (by decide) (Nat.le_of_ble_eq_true rfl) rfl (fun K hC hM hRm => ?_)
  refine vx_iload_n hC 0 rfl eX12_in_0 ?_
  refine vx_iload_n hC 1 rfl eX12_in_1 ?_
  refine vx_icmp_lt hC (tgt := 14) (by omega) (by decide) eX12_in_2 (fun c1 => ?_) (fun c1 => ?_)
  · refine vx_iconst hC eX12_in_14 ?_
    exact vx_iret hC hM (by decide) eX12_in_15 (⟨_, rfl, by omega, xs_0.rf _ _ _ _ _⟩)
  · refine vx_iload_n hC 0 rfl eX12_in_5 ?_
    refine vx_iload_n hC 2 rfl eX12_in_6 ?_
    refine vx_icmp_gt hC (tgt := 14) (by omega) (by decide) eX12_in_7 (fun c2 => ?_) (fun c2 => ?_)
    · refine vx_iconst hC eX12_in_14 ?_
      exact vx_iret hC hM (by decide) eX12_in_15 (⟨_, rfl, by omega, xs_0.rf _ _ _ _ _⟩)
    · refine vx_iconst hC eX12_in_10 ?_
      refine vx_goto hC (tgt := 15) (by decide) eX12_in_11 ?_
      exact vx_iret hC hM (by decide) eX12_in_15 (⟨_, rfl, by omega, xs_0.rf _ _ _ _ _⟩)
set_option maxHeartbeats 4000000 in
set_option maxRecDepth 100000 in
theorem kX12_lesser (G : xg_T) (d : Nat) (n : Nat) (tau : Nat → Nat × Nat) (vi vl : Nat → Int → Int) (vr : Nat → Int → Option Nat) (x y : Int) (hx : -2147483648 ≤ x ∧ x < 2147483648) (hy : -2147483648 ≤ y ∧ y < 2147483648) : xm G yX12_lesser cX12_lesser 2 (some .int) (d + 1) 0 0 [xa_i x, xa_i y] n tau vi vl vr (xp_i (fun z9 n1 t1 a1 b1 c1 => ((z9 = x ∧ x < y) ∨ (z9 = y ∧ y ≤ x)) ∧ xs_0 n tau vi vl vr n1 t1 a1 b1 c1)) := by
  refine xm.of (lv := [(0, xa_i x), (1, xa_i y)]) (by decide) (Nat.le_of_ble_eq_true rfl) rfl (fun K hC hM hRm => ?_)
  refine vx_iload_n hC 0 rfl eX12_lesser_0 ?_
  refine vx_iload_n hC 1 rfl eX12_lesser_1 ?_
  refine vx_icmp_ge hC (tgt := 9) (by omega) (by decide) eX12_lesser_2 (fun c1 => ?_) (fun c1 => ?_)
  · refine vx_iload_n hC 1 rfl eX12_lesser_9 ?_
    exact vx_iret hC hM rfl eX12_lesser_10 (⟨_, rfl, by omega, xs_0.rf _ _ _ _ _⟩)
  · refine vx_iload_n hC 0 rfl eX12_lesser_5 ?_
    refine vx_goto hC (tgt := 10) (by decide) eX12_lesser_6 ?_
    exact vx_iret hC hM rfl eX12_lesser_10 (⟨_, rfl, by omega, xs_0.rf _ _ _ _ _⟩)
theorem xn_bz {x : Int} (h : x = 0 ∨ x = 1) : narrow .boolean (.int (Int32.ofInt x)) = .int (Int32.ofInt x) := by rcases h with rfl | rfl <;> decide
set_option maxHeartbeats 4000000 in
set_option maxRecDepth 100000 in
theorem kX12_isPlayer (G : xg_T) (d : Nat) (n : Nat) (tau : Nat → Nat × Nat) (vi vl : Nat → Int → Int) (vr : Nat → Int → Option Nat) (hO : xo n tau vr) (s : Int → Int) (h32 : vi 32 = s) (p : Int) (hp : -2147483648 ≤ p ∧ p < 2147483648) (h0 : 0 ≤ s 0 ∧ s 0 ≤ 4) : xm G yX12_isPlayer cX12_isPlayer 2 (some .boolean) (d + 2) 0 0 [xa_r 31, xa_i p] n tau vi vl vr (xp_i (fun z9 n1 t1 a1 b1 c1 => ((z9 = 1 ∧ 0 ≤ p ∧ p < s 0) ∨ (z9 = 0 ∧ (p < 0 ∨ s 0 ≤ p))) ∧ xs_0 n tau vi vl vr n1 t1 a1 b1 c1)) := by
  refine xm.of (lv := [(0, xa_r 31), (1, xa_i p)]) (by decide) (Nat.le_of_ble_eq_true rfl) rfl (fun K hC hM hRm => ?_)
  refine vx_iload_n hC 1 rfl eX12_isPlayer_0 ?_
  refine vx_iconst hC eX12_isPlayer_1 ?_
  refine vx_aload_n hC 0 rfl eX12_isPlayer_2 ?_
  refine vx_gr hC 1 (ot_31 hO) lf_X12_9 rfl (or_31_1 hO) eX12_isPlayer_3 ?_
  refine vx_iconst hC eX12_isPlayer_6 ?_
  refine vx_iaload hC (ot_32 hO) (by omega) (by omega) eX12_isPlayer_7 ?_
  refine vx_eqi (congrFun h32 _) ?_
  refine vx_iconst hC eX12_isPlayer_8 ?_
  refine vx_isub hC eX12_isPlayer_9 ?_
  refine vx_callS_i hC (kX12_in G d _ _ _ _ _ _ _ _ (by omega) (by omega) (by omega)) ly_X12_57 rfl hRm (by omega) (Nat.le_of_ble_eq_true rfl) rfl eX12_isPlayer_10 (fun x1 n9 t9 a9 b9 c9 hx1 => ?_)
  obtain ⟨hx1, rfl, rfl, rfl, rfl, rfl⟩ := hx1
  exact vx_iret hC hM (xn_bz (by omega)) eX12_isPlayer_13 (⟨_, rfl, by omega, xs_0.rf _ _ _ _ _⟩)
set_option maxHeartbeats 4000000 in
set_option maxRecDepth 100000 in
theorem kX12_isOver (G : xg_T) (d : Nat) (n : Nat) (tau : Nat → Nat × Nat) (vi vl : Nat → Int → Int) (vr : Nat → Int → Option Nat) (hO : xo n tau vr) (s : Int → Int) (h32 : vi 32 = s) (p : Int) (hp : 0 ≤ p ∧ p < 4) (hr : ∀ z, -2147483648 ≤ s z ∧ s z < 2147483648) : xm G yX12_isOver cX12_isOver 2 (some .boolean) (d + 1) 0 0 [xa_r 31, xa_i p] n tau vi vl vr (xp_i (fun z9 n1 t1 a1 b1 c1 => ((z9 = 1 ∧ (s (22 + p) = 0 ∨ s (22 + p) = s (18 + p))) ∨ (z9 = 0 ∧ ¬ s (22 + p) = 0 ∧ ¬ s (22 + p) = s (18 + p))) ∧ xs_0 n tau vi vl vr n1 t1 a1 b1 c1)) := by
  refine xm.of (lv := [(0, xa_r 31), (1, xa_i p)]) (by decide) (Nat.le_of_ble_eq_true rfl) rfl (fun K hC hM hRm => ?_)
  have h1 := hr (22 + p)
  have h2 := hr (18 + p)
  refine vx_aload_n hC 0 rfl eX12_isOver_0 ?_
  refine vx_gr hC 1 (ot_31 hO) lf_X12_9 rfl (or_31_1 hO) eX12_isOver_1 ?_
  refine vx_bipush hC (by decide) eX12_isOver_4 ?_
  refine vx_iload_n hC 1 rfl eX12_isOver_6 ?_
  refine vx_iadd hC eX12_isOver_7 ?_
  refine vx_iaload hC (ot_32 hO) (by omega) (by omega) eX12_isOver_8 ?_
  refine vx_eqi (congrFun h32 _) ?_
  refine vx_if_eq hC (tgt := 33) (by omega) (by decide) eX12_isOver_9 (fun c1 => ?_) (fun c1 => ?_)
  · refine vx_iconst hC eX12_isOver_33 ?_
    refine vx_goto hC (tgt := 38) (by decide) eX12_isOver_34 ?_
    exact vx_iret hC hM (by decide) eX12_isOver_38 (⟨_, rfl, by omega, xs_0.rf _ _ _ _ _⟩)
  · refine vx_aload_n hC 0 rfl eX12_isOver_12 ?_
    refine vx_gr hC 1 (ot_31 hO) lf_X12_9 rfl (or_31_1 hO) eX12_isOver_13 ?_
    refine vx_bipush hC (by decide) eX12_isOver_16 ?_
    refine vx_iload_n hC 1 rfl eX12_isOver_18 ?_
    refine vx_iadd hC eX12_isOver_19 ?_
    refine vx_iaload hC (ot_32 hO) (by omega) (by omega) eX12_isOver_20 ?_
    refine vx_eqi (congrFun h32 _) ?_
    refine vx_aload_n hC 0 rfl eX12_isOver_21 ?_
    refine vx_gr hC 1 (ot_31 hO) lf_X12_9 rfl (or_31_1 hO) eX12_isOver_22 ?_
    refine vx_bipush hC (by decide) eX12_isOver_25 ?_
    refine vx_iload_n hC 1 rfl eX12_isOver_27 ?_
    refine vx_iadd hC eX12_isOver_28 ?_
    refine vx_iaload hC (ot_32 hO) (by omega) (by omega) eX12_isOver_29 ?_
    refine vx_eqi (congrFun h32 _) ?_
    refine vx_icmp_ne hC (tgt := 37) (by omega) (by decide) eX12_isOver_30 (fun c2 => ?_) (fun c2 => ?_)
    · refine vx_iconst hC eX12_isOver_37 ?_
      exact vx_iret hC hM (by decide) eX12_isOver_38 (⟨_, rfl, by omega, xs_0.rf _ _ _ _ _⟩)
    · refine vx_iconst hC eX12_isOver_33 ?_
      refine vx_goto hC (tgt := 38) (by decide) eX12_isOver_34 ?_
      exact vx_iret hC hM (by decide) eX12_isOver_38 (⟨_, rfl, by omega, xs_0.rf _ _ _ _ _⟩)
set_option maxHeartbeats 4000000 in
set_option maxRecDepth 100000 in
theorem kX12_here (G : xg_T) (d : Nat) (n : Nat) (tau : Nat → Nat × Nat) (vi vl : Nat → Int → Int) (vr : Nat → Int → Option Nat) (hO : xo n tau vr) (s : Int → Int) (h32 : vi 32 = s) (sp en : Int) (h5 : vi 31 5 = sp) (h6 : vi 31 6 = en) (hs : 0 ≤ sp ∧ sp ≤ 100) (he : 0 ≤ en ∧ en ≤ 100) : xm G yX12_here cX12_here 1 (some .int) (d + 1) 0 0 [xa_r 31] n tau vi vl vr (xp_i (fun z9 n1 t1 a1 b1 c1 => ((sp < en ∧ z9 = s (66 + sp)) ∨ (en ≤ sp ∧ z9 = -1)) ∧ xs_0 n tau vi vl vr n1 t1 a1 b1 c1)) := by
  refine xm.of (lv := [(0, xa_r 31)]) (by decide) (Nat.le_of_ble_eq_true rfl) rfl (fun K hC hM hRm => ?_)
  refine vx_aload_n hC 0 rfl eX12_here_0 ?_
  refine vx_gi hC 5 (ot_31 hO) lf_X12_61 rfl eX12_here_1 ?_
  refine vx_eqi h5 ?_
  refine vx_aload_n hC 0 rfl eX12_here_4 ?_
  refine vx_gi hC 6 (ot_31 hO) lf_X12_64 rfl eX12_here_5 ?_
  refine vx_eqi h6 ?_
  refine vx_icmp_ge hC (tgt := 26) (by omega) (by decide) eX12_here_8 (fun c1 => ?_) (fun c1 => ?_)
  · refine vx_iconst hC eX12_here_26 ?_
    exact vx_iret hC hM rfl eX12_here_27 (⟨_, rfl, by omega, xs_0.rf _ _ _ _ _⟩)
  · refine vx_aload_n hC 0 rfl eX12_here_11 ?_
    refine vx_gr hC 1 (ot_31 hO) lf_X12_9 rfl (or_31_1 hO) eX12_here_12 ?_
    refine vx_bipush hC (by decide) eX12_here_15 ?_
    refine vx_aload_n hC 0 rfl eX12_here_17 ?_
    refine vx_gi hC 5 (ot_31 hO) lf_X12_61 rfl eX12_here_18 ?_
    refine vx_eqi h5 ?_
    refine vx_iadd hC eX12_here_21 ?_
    refine vx_iaload hC (ot_32 hO) (by omega) (by omega) eX12_here_22 ?_
    refine vx_eqi (congrFun h32 _) ?_
    refine vx_goto hC (tgt := 27) (by decide) eX12_here_23 ?_
    exact vx_iret hC hM rfl eX12_here_27 (⟨_, rfl, by omega, xs_0.rf _ _ _ _ _⟩)
def xs_F (C : Nat → Prop) (n : Nat) (tau : Nat → Nat × Nat) (vi vl : Nat → Int → Int) (vr : Nat → Int → Option Nat) : xp_W := fun n1 t1 a1 b1 c1 => n = n1 ∧ tau = t1 ∧ vr = c1 ∧ ∀ k : Nat, C k → a1 k = vi k ∧ b1 k = vl k
def xs_I (C : Nat → Prop) (n : Nat) (tau : Nat → Nat × Nat) (vi vl : Nat → Int → Int) (vr : Nat → Int → Option Nat) : xp_W := fun n1 t1 a1 b1 c1 => n = n1 ∧ tau = t1 ∧ vr = c1 ∧ vl = b1 ∧ ∀ k : Nat, C k → a1 k = vi k
/-- a step of a table as the reference has it; how many answers stand open behind the steps; none where one is wanting -/
def me_wf : List Int → Nat → Bool
  | [], d => d == 0
  | t :: r, d => if 0 ≤ t then (t % 8 < 6 && t / 8 % 4 < 3 && t / 32 ≤ 99 && d < 60 && me_wf r (d + 1)) else if t = -1 then (1 ≤ d && me_wf r d) else if t = -2 ∨ t = -3 then (2 ≤ d && me_wf r (d - 1)) else if (-109 ≤ t ∧ t ≤ -10) ∨ (-299 ≤ t ∧ t ≤ -200) then (d == 1 && me_wf r 0) else false
def msl (s : Int → Int) : Int → Nat → List Int
  | _, 0 => []
  | a, n + 1 => s a :: msl s (a + 1) n
def ms_steps (s : Int → Int) (t : Int) : List Int := msl s (176 + 140 * t) (s (171 + t)).toNat
/-- the reference's row between calls, but for its other limit -/
def ms_W (s : Int → Int) : Prop := (∀ z, -2147483648 ≤ s z ∧ s z < 2147483648) ∧ (0 ≤ s 0 ∧ s 0 ≤ 4) ∧ (0 ≤ s 1 ∧ s 1 ≤ 5) ∧ (0 ≤ s 2 ∧ s 2 ≤ 24) ∧ (0 ≤ s 3 ∧ s 3 ≤ 100) ∧ s 4 = s 1 - 1 ∧ (0 ≤ s 5 ∧ s 5 ≤ 9) ∧ (0 ≤ s 6 ∧ s 6 ≤ 99) ∧
  (∀ p, 0 ≤ p → p < s 0 → (0 ≤ s (10 + p) ∧ s (10 + p) ≤ 6) ∧ (0 ≤ s (14 + p) ∧ s (14 + p) ≤ 9) ∧ (2 ≤ s (18 + p) ∧ s (18 + p) ≤ 12) ∧ (0 ≤ s (22 + p) ∧ s (22 + p) ≤ s (18 + p))) ∧
  (∀ z, 26 ≤ z → z < 42 → 0 ≤ s z ∧ s z ≤ 9) ∧ (∀ z, 42 ≤ z → z < 66 → 0 ≤ s z ∧ s z ≤ 1) ∧ (∀ z, 66 ≤ z → z < 166 → 0 ≤ s z ∧ s z ≤ 127) ∧
  (∀ t, 0 ≤ t → t < s 1 → (1 ≤ s (166 + t) ∧ s (166 + t) ≤ 99) ∧ (0 ≤ s (171 + t) ∧ s (171 + t) ≤ 120) ∧ me_wf (ms_steps s t) 0 = true)
def ms_V (s : Int → Int) : Prop := ms_W s ∧ s 6 = 0
/-- how a call of the reference leaves the heap: its rows s, image; whether there is an image; bodies that ran; the trace; no other cell than its own is another -/
def mq (s1 im1 : Int → Int) (has1 ran1 : Int) (bod1 : Int → Int) (n : Nat) (tau : Nat → Nat × Nat) (vi vl : Nat → Int → Int) (vr : Nat → Int → Option Nat) : xp_W := fun n1 t1 a1 b1 c1 => n = n1 ∧ tau = t1 ∧ vr = c1 ∧ a1 32 = s1 ∧ a1 33 = im1 ∧ a1 31 3 = has1 ∧ a1 31 22 = ran1 ∧ a1 44 = bod1 ∧ ∀ k : Nat, k < 31 ∨ 44 < k → a1 k = vi k ∧ b1 k = vl k
def ms_O (f : Int → Int) : Prop := ∀ z, z < 0 ∨ 876 ≤ z → f z = 0
def MI (n : Nat) (tau : Nat → Nat × Nat) (vi : Nat → Int → Int) (vr : Nat → Int → Option Nat) : Prop := xo n tau vr ∧ ms_V (vi 32) ∧ (vi 31 3 = 0 ∨ (vi 31 3 = 1 ∧ ms_V (vi 33))) ∧ (0 ≤ vi 31 22 ∧ vi 31 22 ≤ 20) ∧ ms_O (vi 32) ∧ ms_O (vi 33)
