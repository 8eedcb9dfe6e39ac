/-- the reference: in(v, lo, hi) -/
def mz_in (v lo hi : Int) : Int := if lo ≤ v ∧ v ≤ hi then 1 else 0
theorem mz_in_1 {v lo hi : Int} : ¬ mz_in v lo hi = 0 ↔ lo ≤ v ∧ v ≤ hi := by
  unfold mz_in; split <;> omega
theorem mz_in_b (v lo hi : Int) : 0 ≤ mz_in v lo hi ∧ mz_in v lo hi ≤ 1 := by
  unfold mz_in; split <;> omega
def mz_le (a b : Int) : Int := if a < b then a else b
set_option maxHeartbeats 4000000 in
set_option maxRecDepth 100000 in
theorem kX12_in (G : xg_T) (d : Nat) (n : Nat) (tau : Nat → Nat × Nat) (vi vl : Nat → Int → Int) (vr : Nat → Int → Option Nat) (v lo hi : Int) (hv : -2147483648 ≤ v ∧ v < 2147483648) (hlo : -2147483648 ≤ lo ∧ lo < 2147483648) (hhi : -2147483648 ≤ hi ∧ hi < 2147483648) : xm G yX12_in cX12_in 3 (some .boolean) (d + 1) 0 0 [xa_i v, xa_i lo, xa_i hi] n tau vi vl vr (xp_i (fun z9 n1 t1 a1 b1 c1 => z9 = mz_in v lo hi ∧ xs_0 n tau vi vl vr n1 t1 a1 b1 c1)) := by
  refine xm.of (lv := [(0, xa_i v), (1, xa_i lo), (2, xa_i hi)]) (by decide) (Nat.le_of_ble_eq_true rfl) rfl (fun K hC hM hRm => ?_)
  refine vx_iload_n hC 0 rfl eX12_in_0 ?_
  refine vx_iload_n hC 1 rfl eX12_in_1 ?_
  refine vx_icmp_lt hC (tgt := 14) (by omega) (by decide) eX12_in_2 (fun c1 => ?_) (fun c1 => ?_)
  · refine vx_iconst hC eX12_in_14 ?_
    exact vx_iret hC hM (by decide) eX12_in_15 (⟨_, rfl, by unfold mz_in; first | rw [if_pos (by omega)] | rw [if_neg (by omega)], xs_0.rf _ _ _ _ _⟩)
  · refine vx_iload_n hC 0 rfl eX12_in_5 ?_
    refine vx_iload_n hC 2 rfl eX12_in_6 ?_
    refine vx_icmp_gt hC (tgt := 14) (by omega) (by decide) eX12_in_7 (fun c2 => ?_) (fun c2 => ?_)
    · refine vx_iconst hC eX12_in_14 ?_
      exact vx_iret hC hM (by decide) eX12_in_15 (⟨_, rfl, by unfold mz_in; first | rw [if_pos (by omega)] | rw [if_neg (by omega)], xs_0.rf _ _ _ _ _⟩)
    · refine vx_iconst hC eX12_in_10 ?_
      refine vx_goto hC (tgt := 15) (by decide) eX12_in_11 ?_
      exact vx_iret hC hM (by decide) eX12_in_15 (⟨_, rfl, by unfold mz_in; first | rw [if_pos (by omega)] | rw [if_neg (by omega)], xs_0.rf _ _ _ _ _⟩)
set_option maxHeartbeats 4000000 in
set_option maxRecDepth 100000 in
theorem kX12_lesser (G : xg_T) (d : Nat) (n : Nat) (tau : Nat → Nat × Nat) (vi vl : Nat → Int → Int) (vr : Nat → Int → Option Nat) (x y : Int) (hx : -2147483648 ≤ x ∧ x < 2147483648) (hy : -2147483648 ≤ y ∧ y < 2147483648) : xm G yX12_lesser cX12_lesser 2 (some .int) (d + 1) 0 0 [xa_i x, xa_i y] n tau vi vl vr (xp_i (fun z9 n1 t1 a1 b1 c1 => z9 = mz_le x y ∧ xs_0 n tau vi vl vr n1 t1 a1 b1 c1)) := by
  refine xm.of (lv := [(0, xa_i x), (1, xa_i y)]) (by decide) (Nat.le_of_ble_eq_true rfl) rfl (fun K hC hM hRm => ?_)
  refine vx_iload_n hC 0 rfl eX12_lesser_0 ?_
  refine vx_iload_n hC 1 rfl eX12_lesser_1 ?_
  refine vx_icmp_ge hC (tgt := 9) (by omega) (by decide) eX12_lesser_2 (fun c1 => ?_) (fun c1 => ?_)
  · refine vx_iload_n hC 1 rfl eX12_lesser_9 ?_
    exact vx_iret hC hM rfl eX12_lesser_10 (⟨_, rfl, by unfold mz_le; first | rw [if_pos (by omega)] | rw [if_neg (by omega)], xs_0.rf _ _ _ _ _⟩)
  · refine vx_iload_n hC 0 rfl eX12_lesser_5 ?_
    refine vx_goto hC (tgt := 10) (by decide) eX12_lesser_6 ?_
    exact vx_iret hC hM rfl eX12_lesser_10 (⟨_, rfl, by unfold mz_le; first | rw [if_pos (by omega)] | rw [if_neg (by omega)], xs_0.rf _ _ _ _ _⟩)
set_option maxHeartbeats 4000000 in
set_option maxRecDepth 100000 in
theorem kX12_isPlayer (G : xg_T) (d : Nat) (n : Nat) (tau : Nat → Nat × Nat) (vi vl : Nat → Int → Int) (vr : Nat → Int → Option Nat) (hO : xo n tau vr) (p : Int) (hp : -2147483648 ≤ p ∧ p < 2147483648) (h0 : 0 ≤ vi 32 0 ∧ vi 32 0 ≤ 4) : xm G yX12_isPlayer cX12_isPlayer 2 (some .boolean) (d + 2) 0 0 [xa_r 31, xa_i p] n tau vi vl vr (xp_i (fun z9 n1 t1 a1 b1 c1 => z9 = mz_in p 0 (vi 32 0 - 1) ∧ xs_0 n tau vi vl vr n1 t1 a1 b1 c1)) := by
  refine xm.of (lv := [(0, xa_r 31), (1, xa_i p)]) (by decide) (Nat.le_of_ble_eq_true rfl) rfl (fun K hC hM hRm => ?_)
  refine vx_iload_n hC 1 rfl eX12_isPlayer_0 ?_
  refine vx_iconst hC eX12_isPlayer_1 ?_
  refine vx_aload_n hC 0 rfl eX12_isPlayer_2 ?_
  refine vx_gr hC 1 (ot_31 hO) lf_X12_9 rfl (or_31_1 hO) eX12_isPlayer_3 ?_
  refine vx_iconst hC eX12_isPlayer_6 ?_
  refine vx_iaload hC (ot_32 hO) (by omega) (by omega) eX12_isPlayer_7 ?_
  refine vx_iconst hC eX12_isPlayer_8 ?_
  refine vx_isub hC eX12_isPlayer_9 ?_
  refine vx_callS_i hC (kX12_in G d _ _ _ _ _ _ _ _ (by omega) (by omega) (by omega)) ly_X12_57 rfl hRm (by omega) (Nat.le_of_ble_eq_true rfl) rfl eX12_isPlayer_10 (fun x1 n9 t9 a9 b9 c9 hx1 => ?_)
  obtain ⟨hx1, rfl, rfl, rfl, rfl, rfl⟩ := hx1
  exact vx_iret hC hM (by subst_vars; unfold mz_in; split <;> decide) eX12_isPlayer_13 (⟨_, rfl, by assumption, xs_0.rf _ _ _ _ _⟩)
set_option maxHeartbeats 4000000 in
set_option maxRecDepth 100000 in
theorem kX12_isOver (G : xg_T) (d : Nat) (n : Nat) (tau : Nat → Nat × Nat) (vi vl : Nat → Int → Int) (vr : Nat → Int → Option Nat) (hO : xo n tau vr) (p : Int) (hp : 0 ≤ p ∧ p < 4) (hr : ∀ z, -2147483648 ≤ vi 32 z ∧ vi 32 z < 2147483648) : xm G yX12_isOver cX12_isOver 2 (some .boolean) (d + 1) 0 0 [xa_r 31, xa_i p] n tau vi vl vr (xp_i (fun z9 n1 t1 a1 b1 c1 => z9 = (if vi 32 (22 + p) = 0 ∨ vi 32 (22 + p) = vi 32 (18 + p) then 1 else 0) ∧ xs_0 n tau vi vl vr n1 t1 a1 b1 c1)) := by
  refine xm.of (lv := [(0, xa_r 31), (1, xa_i p)]) (by decide) (Nat.le_of_ble_eq_true rfl) rfl (fun K hC hM hRm => ?_)
  have h1 := hr (22 + p)
  have h2 := hr (18 + p)
  refine vx_aload_n hC 0 rfl eX12_isOver_0 ?_
  refine vx_gr hC 1 (ot_31 hO) lf_X12_9 rfl (or_31_1 hO) eX12_isOver_1 ?_
  refine vx_bipush hC (by decide) eX12_isOver_4 ?_
  refine vx_iload_n hC 1 rfl eX12_isOver_6 ?_
  refine vx_iadd hC eX12_isOver_7 ?_
  refine vx_iaload hC (ot_32 hO) (by omega) (by omega) eX12_isOver_8 ?_
  refine vx_if_eq hC (tgt := 33) (by omega) (by decide) eX12_isOver_9 (fun c1 => ?_) (fun c1 => ?_)
  · refine vx_iconst hC eX12_isOver_33 ?_
    refine vx_goto hC (tgt := 38) (by decide) eX12_isOver_34 ?_
    exact vx_iret hC hM (by decide) eX12_isOver_38 (⟨_, rfl, by first | rw [if_pos (by omega)] | rw [if_neg (by omega)], xs_0.rf _ _ _ _ _⟩)
  · refine vx_aload_n hC 0 rfl eX12_isOver_12 ?_
    refine vx_gr hC 1 (ot_31 hO) lf_X12_9 rfl (or_31_1 hO) eX12_isOver_13 ?_
    refine vx_bipush hC (by decide) eX12_isOver_16 ?_
    refine vx_iload_n hC 1 rfl eX12_isOver_18 ?_
    refine vx_iadd hC eX12_isOver_19 ?_
    refine vx_iaload hC (ot_32 hO) (by omega) (by omega) eX12_isOver_20 ?_
    refine vx_aload_n hC 0 rfl eX12_isOver_21 ?_
    refine vx_gr hC 1 (ot_31 hO) lf_X12_9 rfl (or_31_1 hO) eX12_isOver_22 ?_
    refine vx_bipush hC (by decide) eX12_isOver_25 ?_
    refine vx_iload_n hC 1 rfl eX12_isOver_27 ?_
    refine vx_iadd hC eX12_isOver_28 ?_
    refine vx_iaload hC (ot_32 hO) (by omega) (by omega) eX12_isOver_29 ?_
    refine vx_icmp_ne hC (tgt := 37) (by omega) (by decide) eX12_isOver_30 (fun c2 => ?_) (fun c2 => ?_)
    · refine vx_iconst hC eX12_isOver_37 ?_
      exact vx_iret hC hM (by decide) eX12_isOver_38 (⟨_, rfl, by first | rw [if_pos (by omega)] | rw [if_neg (by omega)], xs_0.rf _ _ _ _ _⟩)
    · refine vx_iconst hC eX12_isOver_33 ?_
      refine vx_goto hC (tgt := 38) (by decide) eX12_isOver_34 ?_
      exact vx_iret hC hM (by decide) eX12_isOver_38 (⟨_, rfl, by first | rw [if_pos (by omega)] | rw [if_neg (by omega)], xs_0.rf _ _ _ _ _⟩)
set_option maxHeartbeats 4000000 in
set_option maxRecDepth 100000 in
theorem kX12_here (G : xg_T) (d : Nat) (n : Nat) (tau : Nat → Nat × Nat) (vi vl : Nat → Int → Int) (vr : Nat → Int → Option Nat) (hO : xo n tau vr) (hr : ∀ z, -2147483648 ≤ vi 32 z ∧ vi 32 z < 2147483648) (hs : 0 ≤ vi 31 5 ∧ vi 31 5 ≤ 100) (he : 0 ≤ vi 31 6 ∧ vi 31 6 ≤ 100) : xm G yX12_here cX12_here 1 (some .int) (d + 1) 0 0 [xa_r 31] n tau vi vl vr (xp_i (fun z9 n1 t1 a1 b1 c1 => z9 = (if vi 31 5 < vi 31 6 then vi 32 (66 + vi 31 5) else -1) ∧ xs_0 n tau vi vl vr n1 t1 a1 b1 c1)) := by
  refine xm.of (lv := [(0, xa_r 31)]) (by decide) (Nat.le_of_ble_eq_true rfl) rfl (fun K hC hM hRm => ?_)
  refine vx_aload_n hC 0 rfl eX12_here_0 ?_
  refine vx_gi hC 5 (ot_31 hO) lf_X12_61 rfl eX12_here_1 ?_
  refine vx_aload_n hC 0 rfl eX12_here_4 ?_
  refine vx_gi hC 6 (ot_31 hO) lf_X12_64 rfl eX12_here_5 ?_
  refine vx_icmp_ge hC (tgt := 26) (by omega) (by decide) eX12_here_8 (fun c1 => ?_) (fun c1 => ?_)
  · refine vx_iconst hC eX12_here_26 ?_
    exact vx_iret hC hM rfl eX12_here_27 (⟨_, rfl, by first | rw [if_pos (by omega)] | rw [if_neg (by omega)], xs_0.rf _ _ _ _ _⟩)
  · refine vx_aload_n hC 0 rfl eX12_here_11 ?_
    refine vx_gr hC 1 (ot_31 hO) lf_X12_9 rfl (or_31_1 hO) eX12_here_12 ?_
    refine vx_bipush hC (by decide) eX12_here_15 ?_
    refine vx_aload_n hC 0 rfl eX12_here_17 ?_
    refine vx_gi hC 5 (ot_31 hO) lf_X12_61 rfl eX12_here_18 ?_
    refine vx_iadd hC eX12_here_21 ?_
    refine vx_iaload hC (ot_32 hO) (by omega) (by omega) eX12_here_22 ?_
    refine vx_goto hC (tgt := 27) (by decide) eX12_here_23 ?_
    exact vx_iret hC hM rfl eX12_here_27 (⟨_, rfl, by first | rw [if_pos (by omega)] | rw [if_neg (by omega)], xs_0.rf _ _ _ _ _⟩)
