def mz_le (a b : Int) : Int := if a < b then a else b
def ms_wish (s : Int → Int) (p q : Int) : Int := if s (10 + p) = 1 then mz_le q (s (18 + p) - q) else if s (10 + p) = 2 then 1 + s (14 + p) % 3 else if s (10 + p) = 3 then 1 + q % (s (14 + p) + 2) else if s (10 + p) = 4 then (mz_le q (s (18 + p) - q) + 1) / 2 else if s (10 + p) = 5 then (if q / 4 < 1 then 1 else mz_le (1 + s (14 + p) % 3) (q / 4)) else if s (10 + p) = 6 then (if s (26 + 4 * p + q % 4) = 0 then 1 + q % (s (14 + p) + 2) else s (26 + 4 * p + q % 4)) else 1
def ms_most (s : Int → Int) (p q : Int) : Int := mz_le (mz_le q (s (18 + p) - q)) (ms_lim s)
def ms_stake (s : Int → Int) (p q : Int) : Int := mz_le (ms_wish s p q) (ms_most s p q)
theorem mz_le_r (a b : Int) : (mz_le a b = a ∧ a < b) ∨ (mz_le a b = b ∧ b ≤ a) := by unfold mz_le; split <;> omega
theorem ms_wish_r {s : Int → Int} (h : ms_W s) {p q : Int} (hp : 0 ≤ p ∧ p < s 0) (hq : 0 ≤ q ∧ q ≤ s (18 + p)) : 0 ≤ ms_wish s p q ∧ ms_wish s p q ≤ 13 ∧ (0 < q → q < s (18 + p) → 1 ≤ ms_wish s p q) := by
  obtain ⟨hr, h0, h1, h2, h3, h4, h5, h6, hp0, hrow, hwon, htape, htab⟩ := h
  obtain ⟨g1, g2, g3, g4⟩ := hp0 p hp.1 hp.2
  have g5 := hrow (26 + 4 * p + q % 4) (by omega) (by omega)
  have g6 : 0 ≤ q % (s (14 + p) + 2) := Int.emod_nonneg _ (by omega)
  have g7 : q % (s (14 + p) + 2) < s (14 + p) + 2 := Int.emod_lt_of_pos _ (by omega)
  have g8 := mz_le_r q (s (18 + p) - q)
  have g9 := mz_le_r (1 + s (14 + p) % 3) (q / 4)
  unfold ms_wish
  repeat' split
  all_goals omega
theorem ms_most_r {s : Int → Int} (h : ms_W s) {p q : Int} (hp : 0 ≤ p ∧ p < s 0) (hq : 0 ≤ q ∧ q ≤ s (18 + p)) : 0 ≤ ms_most s p q ∧ ms_most s p q ≤ q ∧ ms_most s p q ≤ s (18 + p) - q ∧ ms_most s p q ≤ 6 ∧ (0 < q → q < s (18 + p) → 1 ≤ ms_most s p q) := by
  have hl := ms_lim_r h
  obtain ⟨hr, h0, h1, h2, h3, h4, h5, h6, hp0, hrow, hwon, htape, htab⟩ := h
  obtain ⟨g1, g2, g3, g4⟩ := hp0 p hp.1 hp.2
  have g8 := mz_le_r q (s (18 + p) - q)
  have g9 := mz_le_r (mz_le q (s (18 + p) - q)) (ms_lim s)
  unfold ms_most
  omega
theorem ms_stake_r {s : Int → Int} (h : ms_W s) {p q : Int} (hp : 0 ≤ p ∧ p < s 0) (hq : 0 ≤ q ∧ q ≤ s (18 + p)) : 0 ≤ ms_stake s p q ∧ ms_stake s p q ≤ q ∧ ms_stake s p q ≤ s (18 + p) - q ∧ ms_stake s p q ≤ 6 ∧ (0 < q → q < s (18 + p) → 1 ≤ ms_stake s p q) := by
  have g1 := ms_wish_r h hp hq
  have g2 := ms_most_r h hp hq
  have g3 := mz_le_r (ms_wish s p q) (ms_most s p q)
  unfold ms_stake
  omega
set_option maxHeartbeats 4000000 in
set_option maxRecDepth 100000 in
theorem kX12_wishesFor (G : xg_T) (d : Nat) (n : Nat) (tau : Nat → Nat × Nat) (vi vl : Nat → Int → Int) (vr : Nat → Int → Option Nat) (hO : xo n tau vr) (s : Int → Int) (h32 : vi 32 = s) (hW : ms_W s) (p : Int) (hp : 0 ≤ p ∧ p < s 0) (q : Int) (hq : 0 ≤ q ∧ q ≤ s (18 + p))  : xm G yX12_wishesFor cX12_wishesFor 8 (some .int) (d + 2) 0 0 [xa_r 31, xa_i p, xa_i q] n tau vi vl vr (xp_i (fun z9 n1 t1 a1 b1 c1 => z9 = ms_wish s p q ∧ xs_0 n tau vi vl vr n1 t1 a1 b1 c1)) := by
  refine xm.of (lv := [(0, xa_r 31), (1, xa_i p), (2, xa_i q)]) (by decide) (Nat.le_of_ble_eq_true rfl) rfl (fun K hC hM hRm => ?_)
  obtain ⟨hr, h0, h1, h2, h3, h4, h5, h6, hp0, hrow, hwon, htape, htab⟩ := id hW
  obtain ⟨g1, g2, g3, g4⟩ := hp0 p hp.1 hp.2
  have g5 := hrow (26 + 4 * p + q % 4) (by omega) (by omega)
  have g6 : 0 ≤ q % (s (14 + p) + 2) := Int.emod_nonneg _ (by omega)
  have g7 : q % (s (14 + p) + 2) < s (14 + p) + 2 := Int.emod_lt_of_pos _ (by omega)
  have g8 := mz_le_r q (s (18 + p) - q)
  have g9 := mz_le_r (1 + s (14 + p) % 3) (q / 4)
  refine vx_aload_n hC 0 rfl eX12_wishesFor_0 ?_
  refine vx_gr hC 1 (ot_31 hO) lf_X12_9 rfl (or_31_1 hO) eX12_wishesFor_1 ?_
  refine vx_bipush hC (by decide) eX12_wishesFor_4 ?_
  refine vx_iload_n hC 1 rfl eX12_wishesFor_6 ?_
  refine vx_iadd hC eX12_wishesFor_7 ?_
  refine vx_iaload hC (ot_32 hO) (by omega) (by omega) eX12_wishesFor_8 ?_
  refine vx_eqi (congrFun h32 _) ?_
  refine vx_top (fun x1 hx1 => ?_)
  refine vx_istore_n hC (lv1 := [(3, xa_i x1), (0, xa_r 31), (1, xa_i p), (2, xa_i q)]) (by decide) rfl eX12_wishesFor_9 ?_
  refine vx_iload_n hC 3 rfl eX12_wishesFor_10 ?_
  refine vx_aload_n hC 1 rfl eX12_wishesFor_11 ?_
  refine vx_gr hC 1 (ot_31 hO) lf_X12_9 rfl (or_31_1 hO) eX12_wishesFor_12 ?_
  refine vx_bipush hC (by decide) eX12_wishesFor_15 ?_
  refine vx_iload_n hC 2 rfl eX12_wishesFor_17 ?_
  refine vx_iadd hC eX12_wishesFor_18 ?_
  refine vx_iaload hC (ot_32 hO) (by omega) (by omega) eX12_wishesFor_19 ?_
  refine vx_eqi (congrFun h32 _) ?_
  refine vx_iload_n hC 3 rfl eX12_wishesFor_20 ?_
  refine vx_isub hC eX12_wishesFor_21 ?_
  refine vx_callS_i hC (kX12_lesser G d _ _ _ _ _ _ _ (by omega) (by omega)) ly_X12_144 rfl hRm (by omega) (Nat.le_of_ble_eq_true rfl) rfl eX12_wishesFor_22 (fun x2 n9 t9 a9 b9 c9 hx2 => ?_)
  obtain ⟨hx2, rfl, rfl, rfl, rfl, rfl⟩ := hx2
  refine vx_istore hC (lv1 := [(4, xa_i x2), (3, xa_i x1), (0, xa_r 31), (1, xa_i p), (2, xa_i q)]) (by decide) rfl eX12_wishesFor_25 ?_
  refine vx_iconst hC eX12_wishesFor_27 ?_
  refine vx_iload_n hC 1 rfl eX12_wishesFor_28 ?_
  refine vx_iconst hC eX12_wishesFor_29 ?_
  refine vx_irem hC (by omega) eX12_wishesFor_30 ?_
  refine vx_iadd hC eX12_wishesFor_31 ?_
  refine vx_top (fun x3 hx3 => ?_)
  refine vx_istore hC (lv1 := [(5, xa_i x3), (4, xa_i x2), (3, xa_i x1), (0, xa_r 31), (1, xa_i p), (2, xa_i q)]) (by decide) rfl eX12_wishesFor_32 ?_
  refine vx_iconst hC eX12_wishesFor_34 ?_
  refine vx_iload_n hC 5 rfl eX12_wishesFor_35 ?_
  refine vx_iload_n hC 2 rfl eX12_wishesFor_36 ?_
  refine vx_iconst hC eX12_wishesFor_37 ?_
  refine vx_iadd hC eX12_wishesFor_38 ?_
  refine vx_irem hC (by omega) eX12_wishesFor_39 ?_
  refine vx_iadd hC eX12_wishesFor_40 ?_
  refine vx_top (fun x4 hx4 => ?_)
  refine vx_istore hC (lv1 := [(6, xa_i x4), (5, xa_i x3), (4, xa_i x2), (3, xa_i x1), (0, xa_r 31), (1, xa_i p), (2, xa_i q)]) (by decide) rfl eX12_wishesFor_41 ?_
  refine vx_aload_n hC 4 rfl eX12_wishesFor_43 ?_
  refine vx_gr hC 1 (ot_31 hO) lf_X12_9 rfl (or_31_1 hO) eX12_wishesFor_44 ?_
  refine vx_bipush hC (by decide) eX12_wishesFor_47 ?_
  refine vx_iconst hC eX12_wishesFor_49 ?_
  refine vx_iload_n hC 5 rfl eX12_wishesFor_50 ?_
  refine vx_imul hC eX12_wishesFor_51 ?_
  refine vx_iadd hC eX12_wishesFor_52 ?_
  refine vx_iload_n hC 6 rfl eX12_wishesFor_53 ?_
  refine vx_iconst hC eX12_wishesFor_54 ?_
  refine vx_irem hC (by omega) eX12_wishesFor_55 ?_
  refine vx_iadd hC eX12_wishesFor_56 ?_
  refine vx_iaload hC (ot_32 hO) (by omega) (by omega) eX12_wishesFor_57 ?_
  refine vx_eqi (congrFun h32 _) ?_
  refine vx_top (fun x5 hx5 => ?_)
  refine vx_istore hC (lv1 := [(7, xa_i x5), (6, xa_i x4), (5, xa_i x3), (4, xa_i x2), (3, xa_i x1), (0, xa_r 31), (1, xa_i p), (2, xa_i q)]) (by decide) rfl eX12_wishesFor_58 ?_
  refine vx_aload_n hC 5 rfl eX12_wishesFor_60 ?_
  refine vx_gr hC 1 (ot_31 hO) lf_X12_9 rfl (or_31_1 hO) eX12_wishesFor_61 ?_
  refine vx_bipush hC (by decide) eX12_wishesFor_64 ?_
  refine vx_iload_n hC 6 rfl eX12_wishesFor_66 ?_
  refine vx_iadd hC eX12_wishesFor_67 ?_
  refine vx_iaload hC (ot_32 hO) (by omega) (by omega) eX12_wishesFor_68 ?_
  refine vx_eqi (congrFun h32 _) ?_
  refine vx_top (fun x6 hx6 => ?_)
  rcases (show x6 = 1 ∨ x6 = 2 ∨ x6 = 3 ∨ x6 = 4 ∨ x6 = 5 ∨ x6 = 6 ∨ (¬ x6 = 1 ∧ ¬ x6 = 2 ∧ ¬ x6 = 3 ∧ ¬ x6 = 4 ∧ ¬ x6 = 5 ∧ ¬ x6 = 6) by omega) with c7 | c7 | c7 | c7 | c7 | c7 | c7
  · refine vx_tableIn hC (tgt := 108) (by omega) (by omega) (by rw [c7]; rfl) (by decide) eX12_wishesFor_69 ?_
    refine vx_iload hC 3 rfl eX12_wishesFor_108 ?_
    exact vx_iret hC hM rfl eX12_wishesFor_110 (⟨_, rfl, by unfold ms_wish; simp only [hx1, hx3, hx4, hx5, hx6] at *; (repeat (first | rw [if_pos (by omega)] | rw [if_neg (by omega)])); all_goals omega, xs_0.rf _ _ _ _ _⟩)
  · refine vx_tableIn hC (tgt := 111) (by omega) (by omega) (by rw [c7]; rfl) (by decide) eX12_wishesFor_69 ?_
    refine vx_iload hC 2 rfl eX12_wishesFor_111 ?_
    exact vx_iret hC hM rfl eX12_wishesFor_113 (⟨_, rfl, by unfold ms_wish; simp only [hx1, hx3, hx4, hx5, hx6] at *; (repeat (first | rw [if_pos (by omega)] | rw [if_neg (by omega)])); all_goals omega, xs_0.rf _ _ _ _ _⟩)
  · refine vx_tableIn hC (tgt := 114) (by omega) (by omega) (by rw [c7]; rfl) (by decide) eX12_wishesFor_69 ?_
    refine vx_iload hC 1 rfl eX12_wishesFor_114 ?_
    exact vx_iret hC hM rfl eX12_wishesFor_116 (⟨_, rfl, by unfold ms_wish; simp only [hx1, hx3, hx4, hx5, hx6] at *; (repeat (first | rw [if_pos (by omega)] | rw [if_neg (by omega)])); all_goals omega, xs_0.rf _ _ _ _ _⟩)
  · refine vx_tableIn hC (tgt := 117) (by omega) (by omega) (by rw [c7]; rfl) (by decide) eX12_wishesFor_69 ?_
    refine vx_iload hC 3 rfl eX12_wishesFor_117 ?_
    refine vx_iconst hC eX12_wishesFor_119 ?_
    refine vx_iadd hC eX12_wishesFor_120 ?_
    refine vx_iconst hC eX12_wishesFor_121 ?_
    refine vx_idiv hC (by omega) eX12_wishesFor_122 ?_
    exact vx_iret hC hM rfl eX12_wishesFor_123 (⟨_, rfl, by unfold ms_wish; simp only [hx1, hx3, hx4, hx5, hx6] at *; (repeat (first | rw [if_pos (by omega)] | rw [if_neg (by omega)])); all_goals omega, xs_0.rf _ _ _ _ _⟩)
  · refine vx_tableIn hC (tgt := 124) (by omega) (by omega) (by rw [c7]; rfl) (by decide) eX12_wishesFor_69 ?_
    refine vx_iload_n hC 7 rfl eX12_wishesFor_124 ?_
    refine vx_iconst hC eX12_wishesFor_125 ?_
    refine vx_idiv hC (by omega) eX12_wishesFor_126 ?_
    refine vx_iconst hC eX12_wishesFor_127 ?_
    refine vx_icmp_ge hC (tgt := 135) (by omega) (by decide) eX12_wishesFor_128 (fun c8 => ?_) (fun c8 => ?_)
    · refine vx_iload hC 2 rfl eX12_wishesFor_135 ?_
      refine vx_iload_n hC 7 rfl eX12_wishesFor_137 ?_
      refine vx_iconst hC eX12_wishesFor_138 ?_
      refine vx_idiv hC (by omega) eX12_wishesFor_139 ?_
      refine vx_callS_i hC (kX12_lesser G d _ _ _ _ _ _ _ (by omega) (by omega)) ly_X12_144 rfl hRm (by omega) (Nat.le_of_ble_eq_true rfl) rfl eX12_wishesFor_140 (fun x9 n9 t9 a9 b9 c9 hx9 => ?_)
      obtain ⟨hx9, rfl, rfl, rfl, rfl, rfl⟩ := hx9
      exact vx_iret hC hM rfl eX12_wishesFor_143 (⟨_, rfl, by unfold ms_wish; simp only [hx1, hx3, hx4, hx5, hx6] at *; (repeat (first | rw [if_pos (by omega)] | rw [if_neg (by omega)])); all_goals omega, xs_0.rf _ _ _ _ _⟩)
    · refine vx_iconst hC eX12_wishesFor_131 ?_
      refine vx_goto hC (tgt := 143) (by decide) eX12_wishesFor_132 ?_
      exact vx_iret hC hM rfl eX12_wishesFor_143 (⟨_, rfl, by unfold ms_wish; simp only [hx1, hx3, hx4, hx5, hx6] at *; (repeat (first | rw [if_pos (by omega)] | rw [if_neg (by omega)])); all_goals omega, xs_0.rf _ _ _ _ _⟩)
  · refine vx_tableIn hC (tgt := 144) (by omega) (by omega) (by rw [c7]; rfl) (by decide) eX12_wishesFor_69 ?_
    refine vx_iload hC 0 rfl eX12_wishesFor_144 ?_
    refine vx_if_ne hC (tgt := 154) (by omega) (by decide) eX12_wishesFor_146 (fun c10 => ?_) (fun c10 => ?_)
    · refine vx_iload hC 0 rfl eX12_wishesFor_154 ?_
      exact vx_iret hC hM rfl eX12_wishesFor_156 (⟨_, rfl, by unfold ms_wish; simp only [hx1, hx3, hx4, hx5, hx6] at *; (repeat (first | rw [if_pos (by omega)] | rw [if_neg (by omega)])); all_goals omega, xs_0.rf _ _ _ _ _⟩)
    · refine vx_iload hC 1 rfl eX12_wishesFor_149 ?_
      refine vx_goto hC (tgt := 156) (by decide) eX12_wishesFor_151 ?_
      exact vx_iret hC hM rfl eX12_wishesFor_156 (⟨_, rfl, by unfold ms_wish; simp only [hx1, hx3, hx4, hx5, hx6] at *; (repeat (first | rw [if_pos (by omega)] | rw [if_neg (by omega)])); all_goals omega, xs_0.rf _ _ _ _ _⟩)
  · refine vx_tableOut hC (tgt := 157) (by omega) (by omega) (by decide) eX12_wishesFor_69 ?_
    refine vx_iconst hC eX12_wishesFor_157 ?_
    exact vx_iret hC hM rfl eX12_wishesFor_158 (⟨_, rfl, by unfold ms_wish; simp only [hx1, hx3, hx4, hx5, hx6] at *; (repeat (first | rw [if_pos (by omega)] | rw [if_neg (by omega)])); all_goals omega, xs_0.rf _ _ _ _ _⟩)
set_option maxHeartbeats 4000000 in
set_option maxRecDepth 100000 in
theorem kX12_mostOf (G : xg_T) (d : Nat) (n : Nat) (tau : Nat → Nat × Nat) (vi vl : Nat → Int → Int) (vr : Nat → Int → Option Nat) (hO : xo n tau vr) (s : Int → Int) (h32 : vi 32 = s) (hW : ms_W s) (p : Int) (hp : 0 ≤ p ∧ p < s 0) (q : Int) (hq : 0 ≤ q ∧ q ≤ s (18 + p))  : xm G yX12_mostOf cX12_mostOf 3 (some .int) (d + 2) 0 0 [xa_r 31, xa_i p, xa_i q] n tau vi vl vr (xp_i (fun z9 n1 t1 a1 b1 c1 => z9 = ms_most s p q ∧ xs_0 n tau vi vl vr n1 t1 a1 b1 c1)) := by
  refine xm.of (lv := [(0, xa_r 31), (1, xa_i p), (2, xa_i q)]) (by decide) (Nat.le_of_ble_eq_true rfl) rfl (fun K hC hM hRm => ?_)
  obtain ⟨hr, h0, h1, h2, h3, h4, h5, h6, hp0, hrow, hwon, htape, htab⟩ := id hW
  obtain ⟨g1, g2, g3, g4⟩ := hp0 p hp.1 hp.2
  have g8 := mz_le_r q (s (18 + p) - q)
  have g9 := mz_le_r (mz_le q (s (18 + p) - q)) (ms_lim s)
  have gl := ms_lim_r hW
  refine vx_iload_n hC 2 rfl eX12_mostOf_0 ?_
  refine vx_aload_n hC 0 rfl eX12_mostOf_1 ?_
  refine vx_gr hC 1 (ot_31 hO) lf_X12_9 rfl (or_31_1 hO) eX12_mostOf_2 ?_
  refine vx_bipush hC (by decide) eX12_mostOf_5 ?_
  refine vx_iload_n hC 1 rfl eX12_mostOf_7 ?_
  refine vx_iadd hC eX12_mostOf_8 ?_
  refine vx_iaload hC (ot_32 hO) (by omega) (by omega) eX12_mostOf_9 ?_
  refine vx_eqi (congrFun h32 _) ?_
  refine vx_iload_n hC 2 rfl eX12_mostOf_10 ?_
  refine vx_isub hC eX12_mostOf_11 ?_
  refine vx_callS_i hC (kX12_lesser G d _ _ _ _ _ _ _ (by omega) (by omega)) ly_X12_144 rfl hRm (by omega) (Nat.le_of_ble_eq_true rfl) rfl eX12_mostOf_12 (fun x1 n9 t9 a9 b9 c9 hx1 => ?_)
  obtain ⟨hx1, rfl, rfl, rfl, rfl, rfl⟩ := hx1
  refine vx_aload_n hC 0 rfl eX12_mostOf_15 ?_
  refine vx_callV_i hC (kX12_limit G d _ _ _ _ _ hO (s) h32 hW) ly_X12_137 (ot_31 hO) rfl rfl rfl hRm (by omega) (Nat.le_of_ble_eq_true rfl) rfl eX12_mostOf_16 (fun x2 n9 t9 a9 b9 c9 hx2 => ?_)
  obtain ⟨hx2, rfl, rfl, rfl, rfl, rfl⟩ := hx2
  refine vx_callS_i hC (kX12_lesser G d _ _ _ _ _ _ _ (by omega) (by omega)) ly_X12_144 rfl hRm (by omega) (Nat.le_of_ble_eq_true rfl) rfl eX12_mostOf_19 (fun x3 n9 t9 a9 b9 c9 hx3 => ?_)
  obtain ⟨hx3, rfl, rfl, rfl, rfl, rfl⟩ := hx3
  exact vx_iret hC hM rfl eX12_mostOf_22 (⟨_, rfl, by unfold ms_most; omega, xs_0.rf _ _ _ _ _⟩)
set_option maxHeartbeats 4000000 in
set_option maxRecDepth 100000 in
theorem kX12_stakeOf (G : xg_T) (d : Nat) (n : Nat) (tau : Nat → Nat × Nat) (vi vl : Nat → Int → Int) (vr : Nat → Int → Option Nat) (hO : xo n tau vr) (s : Int → Int) (h32 : vi 32 = s) (hW : ms_W s) (p : Int) (hp : 0 ≤ p ∧ p < s 0) (q : Int) (hq : 0 ≤ q ∧ q ≤ s (18 + p))  : xm G yX12_stakeOf cX12_stakeOf 3 (some .int) (d + 3) 0 0 [xa_r 31, xa_i p, xa_i q] n tau vi vl vr (xp_i (fun z9 n1 t1 a1 b1 c1 => z9 = ms_stake s p q ∧ xs_0 n tau vi vl vr n1 t1 a1 b1 c1)) := by
  refine xm.of (lv := [(0, xa_r 31), (1, xa_i p), (2, xa_i q)]) (by decide) (Nat.le_of_ble_eq_true rfl) rfl (fun K hC hM hRm => ?_)
  obtain ⟨hr, h0, h1, h2, h3, h4, h5, h6, hp0, hrow, hwon, htape, htab⟩ := id hW
  obtain ⟨g1, g2, g3, g4⟩ := hp0 p hp.1 hp.2
  have g8 := mz_le_r (ms_wish s p q) (ms_most s p q)
  have gw := ms_wish_r hW hp hq
  have gm := ms_most_r hW hp hq
  refine vx_aload_n hC 0 rfl eX12_stakeOf_0 ?_
  refine vx_iload_n hC 1 rfl eX12_stakeOf_1 ?_
  refine vx_iload_n hC 2 rfl eX12_stakeOf_2 ?_
  refine vx_callV_i hC (kX12_wishesFor G d _ _ _ _ _ hO (s) h32 hW _ (by omega) _ (by omega)) ly_X12_148 (ot_31 hO) rfl rfl rfl hRm (by omega) (Nat.le_of_ble_eq_true rfl) rfl eX12_stakeOf_3 (fun x1 n9 t9 a9 b9 c9 hx1 => ?_)
  obtain ⟨hx1, rfl, rfl, rfl, rfl, rfl⟩ := hx1
  refine vx_aload_n hC 0 rfl eX12_stakeOf_6 ?_
  refine vx_iload_n hC 1 rfl eX12_stakeOf_7 ?_
  refine vx_iload_n hC 2 rfl eX12_stakeOf_8 ?_
  refine vx_callV_i hC (kX12_mostOf G d _ _ _ _ _ hO (s) h32 hW _ (by omega) _ (by omega)) ly_X12_151 (ot_31 hO) rfl rfl rfl hRm (by omega) (Nat.le_of_ble_eq_true rfl) rfl eX12_stakeOf_9 (fun x2 n9 t9 a9 b9 c9 hx2 => ?_)
  obtain ⟨hx2, rfl, rfl, rfl, rfl, rfl⟩ := hx2
  refine vx_callS_i hC (kX12_lesser G (d + 1) _ _ _ _ _ _ _ (by omega) (by omega)) ly_X12_144 rfl hRm (by omega) (Nat.le_of_ble_eq_true rfl) rfl eX12_stakeOf_12 (fun x3 n9 t9 a9 b9 c9 hx3 => ?_)
  obtain ⟨hx3, rfl, rfl, rfl, rfl, rfl⟩ := hx3
  exact vx_iret hC hM rfl eX12_stakeOf_15 (⟨_, rfl, by unfold ms_stake; omega, xs_0.rf _ _ _ _ _⟩)
def ms_goes (s : Int → Int) (p w : Int) : Int → Int := fu s (22 + p) (if w = 0 then s (22 + p) - ms_stake s p (s (22 + p)) else s (22 + p) + ms_stake s p (s (22 + p)))
set_option maxHeartbeats 4000000 in
set_option maxRecDepth 100000 in
theorem kX12_goes (G : xg_T) (d : Nat) (n : Nat) (tau : Nat → Nat × Nat) (vi vl : Nat → Int → Int) (vr : Nat → Int → Option Nat) (hO : xo n tau vr) (s : Int → Int) (h32 : vi 32 = s) (hW : ms_W s) (p : Int) (hp : 0 ≤ p ∧ p < s 0) (w : Int) (hw : w = 0 ∨ w = 1)  : xm G yX12_goes cX12_goes 4 none (d + 4) 0 0 [xa_r 31, xa_i p, xa_i w] n tau vi vl vr (xp_v (fun n1 t1 a1 b1 c1 => (a1 32 = ms_goes s p w) ∧ xs_I (fun k => ¬ k = 32) n tau vi vl vr n1 t1 a1 b1 c1)) := by
  refine xm.of (lv := [(0, xa_r 31), (1, xa_i p), (2, xa_i w)]) (by decide) (Nat.le_of_ble_eq_true rfl) rfl (fun K hC hM hRm => ?_)
  obtain ⟨hr, h0, h1, h2, h3, h4, h5, h6, hp0, hrow, hwon, htape, htab⟩ := id hW
  obtain ⟨g1, g2, g3, g4⟩ := hp0 p hp.1 hp.2
  refine vx_aload_n hC 0 rfl eX12_goes_0 ?_
  refine vx_iload_n hC 1 rfl eX12_goes_1 ?_
  refine vx_aload_n hC 0 rfl eX12_goes_2 ?_
  refine vx_gr hC 1 (ot_31 hO) lf_X12_9 rfl (or_31_1 hO) eX12_goes_3 ?_
  refine vx_bipush hC (by decide) eX12_goes_6 ?_
  refine vx_iload_n hC 1 rfl eX12_goes_8 ?_
  refine vx_iadd hC eX12_goes_9 ?_
  refine vx_iaload hC (ot_32 hO) (by omega) (by omega) eX12_goes_10 ?_
  refine vx_eqi (congrFun h32 _) ?_
  refine vx_callV_i hC (kX12_stakeOf G d _ _ _ _ _ hO (s) h32 hW p (by omega) _ (by omega)) ly_X12_157 (ot_31 hO) rfl rfl rfl hRm (by omega) (Nat.le_of_ble_eq_true rfl) rfl eX12_goes_11 (fun x1 n9 t9 a9 b9 c9 hx1 => ?_)
  obtain ⟨hx1, rfl, rfl, rfl, rfl, rfl⟩ := hx1
  refine vx_istore_n hC (lv1 := [(3, xa_i x1), (0, xa_r 31), (1, xa_i p), (2, xa_i w)]) (by decide) rfl eX12_goes_14 ?_
  refine vx_aload_n hC 1 rfl eX12_goes_15 ?_
  refine vx_gr hC 1 (ot_31 hO) lf_X12_9 rfl (or_31_1 hO) eX12_goes_16 ?_
  refine vx_bipush hC (by decide) eX12_goes_19 ?_
  refine vx_iload_n hC 2 rfl eX12_goes_21 ?_
  refine vx_iadd hC eX12_goes_22 ?_
  refine vx_dup2 hC rfl rfl eX12_goes_23 ?_
  refine vx_iaload hC (ot_32 hO) (by omega) (by omega) eX12_goes_24 ?_
  refine vx_eqi (congrFun h32 _) ?_
  refine vx_iload_n hC 3 rfl eX12_goes_25 ?_
  refine vx_if_eq hC (tgt := 33) (by omega) (by decide) eX12_goes_26 (fun c2 => ?_) (fun c2 => ?_)
  · refine vx_iload_n hC 0 rfl eX12_goes_33 ?_
    refine vx_ineg hC eX12_goes_34 ?_
    refine vx_iadd hC eX12_goes_35 ?_
    refine vx_top (fun x3 hx3 => ?_)
    refine vx_top2 (fun x4 hx4 => ?_)
    refine vx_iastore hC (ot_32 hO) (by omega) (by omega) eX12_goes_36 ?_
    refine vx_vi (fun v5 hv5 => ?_)
    obtain ⟨f6, hf6⟩ : ∃ f, f = fu (s) x4 x3 := ⟨_, rfl⟩
    have hv5_32 : v5 32 = f6 := by rw [hv5, hf6, xu_k, h32]
    have frv5 : ∀ k : Nat, (¬ k = 32) → v5 k = vi k := fun k hk => by rw [hv5, xu_c _ _ _ _ (by omega)]
    exact vx_vret hC hM eX12_goes_37 (⟨rfl, (by rw [hv5_32]; unfold ms_goes; (first | rw [if_pos (by omega)] | rw [if_neg (by omega)]); simp only [hx1, hx3, hx4, hf6, Int.sub_eq_add_neg]), rfl, rfl, rfl, rfl, fun k hk => frv5 k hk⟩)
  · refine vx_iload_n hC 0 rfl eX12_goes_29 ?_
    refine vx_goto hC (tgt := 35) (by decide) eX12_goes_30 ?_
    refine vx_iadd hC eX12_goes_35 ?_
    refine vx_top (fun x7 hx7 => ?_)
    refine vx_top2 (fun x8 hx8 => ?_)
    refine vx_iastore hC (ot_32 hO) (by omega) (by omega) eX12_goes_36 ?_
    refine vx_vi (fun v9 hv9 => ?_)
    obtain ⟨f10, hf10⟩ : ∃ f, f = fu (s) x8 x7 := ⟨_, rfl⟩
    have hv9_32 : v9 32 = f10 := by rw [hv9, hf10, xu_k, h32]
    have frv9 : ∀ k : Nat, (¬ k = 32) → v9 k = vi k := fun k hk => by rw [hv9, xu_c _ _ _ _ (by omega)]
    exact vx_vret hC hM eX12_goes_37 (⟨rfl, (by rw [hv9_32]; unfold ms_goes; (first | rw [if_pos (by omega)] | rw [if_neg (by omega)]); simp only [hx1, hx7, hx8, hf10, Int.sub_eq_add_neg]), rfl, rfl, rfl, rfl, fun k hk => frv9 k hk⟩)
def sp_play (s : Int → Int) (q w : Int) : Int × (Int → Int) := if q < 0 ∨ s 0 ≤ q then (-1, s) else if s (22 + q) = 0 ∨ s (22 + q) = s (18 + q) then (-3, s) else (ms_goes s q w (22 + q), ms_goes s q w)
set_option maxHeartbeats 4000000 in
set_option maxRecDepth 100000 in
theorem kX12_play (G : xg_T) (d : Nat) (n : Nat) (tau : Nat → Nat × Nat) (vi vl : Nat → Int → Int) (vr : Nat → Int → Option Nat) (hI : MI n tau vi vr) (q w : Int) (hq : -2147483648 ≤ q ∧ q < 2147483648) (hw : w = 0 ∨ w = 1) : xm G yX12_play cX12_play 3 (some .int) (d + 5) 0 0 [xa_r 31, xa_i q, xa_i w] n tau vi vl vr (xp_i (fun z9 n1 t1 a1 b1 c1 => z9 = (sp_play (vi 32) q w).1 ∧ mq ((sp_play (vi 32) q w).2) (vi 33) (vi 31 3) (vi 31 22) (vi 44) n tau vi vl vr n1 t1 a1 b1 c1)) := by
  refine xm.of (lv := [(0, xa_r 31), (1, xa_i q), (2, xa_i w)]) (by decide) (Nat.le_of_ble_eq_true rfl) rfl (fun K hC hM hRm => ?_)
  obtain ⟨hO, ⟨⟨hr, h0, h1, h2, h3, h4, h5, h6, hp0, hrow, hwon, htape, htab⟩, h60⟩, him, hran, hz1, hz2⟩ := hI
  have hW : ms_W (vi 32) := ⟨hr, h0, h1, h2, h3, h4, h5, h6, hp0, hrow, hwon, htape, htab⟩
  refine vx_aload_n hC 0 rfl eX12_play_0 ?_
  refine vx_iload_n hC 1 rfl eX12_play_1 ?_
  refine vx_callV_i hC (kX12_isPlayer G (d + 2) _ _ _ _ _ hO (vi 32) rfl _ (by omega) (by omega)) ly_X12_140 (ot_31 hO) rfl rfl rfl hRm (by omega) (Nat.le_of_ble_eq_true rfl) rfl eX12_play_2 (fun x1 n9 t9 a9 b9 c9 hx1 => ?_)
  obtain ⟨hx1, rfl, rfl, rfl, rfl, rfl⟩ := hx1
  refine vx_if_ne hC (tgt := 10) (by omega) (by decide) eX12_play_5 (fun c2 => ?_) (fun c2 => ?_)
  · refine vx_aload_n hC 0 rfl eX12_play_10 ?_
    refine vx_iload_n hC 1 rfl eX12_play_11 ?_
    refine vx_callV_i hC (kX12_isOver G (d + 3) _ _ _ _ _ hO (vi 32) rfl _ (by omega) hr) ly_X12_154 (ot_31 hO) rfl rfl rfl hRm (by omega) (Nat.le_of_ble_eq_true rfl) rfl eX12_play_12 (fun x3 n9 t9 a9 b9 c9 hx3 => ?_)
    obtain ⟨hx3, rfl, rfl, rfl, rfl, rfl⟩ := hx3
    refine vx_if_eq hC (tgt := 21) (by omega) (by decide) eX12_play_15 (fun c4 => ?_) (fun c4 => ?_)
    · refine vx_aload_n hC 0 rfl eX12_play_21 ?_
      refine vx_iload_n hC 1 rfl eX12_play_22 ?_
      refine vx_iload_n hC 2 rfl eX12_play_23 ?_
      refine vx_callV_v hC (kX12_goes G d _ _ _ _ _ hO (vi 32) rfl hW q (by omega) w (by omega)) ly_X12_164 (ot_31 hO) rfl rfl rfl hRm (by omega) (Nat.le_of_ble_eq_true rfl) rfl eX12_play_24 (fun ng6 tg6 ag6 bg6 cg6 hg6 => ?_)
      obtain ⟨qg6_0, rfl, rfl, rfl, rfl, frg6⟩ := hg6
      have hg6_33 : ag6 33 = vi 33 := (frg6 33 (by omega))
      have hg6_31_3 : ag6 31 3 = vi 31 3 := (congrFun (frg6 31 (by omega)) _)
      have hg6_31_22 : ag6 31 22 = vi 31 22 := (congrFun (frg6 31 (by omega)) _)
      have hg6_44 : ag6 44 = vi 44 := (frg6 44 (by omega))
      have frvig6 : ∀ k : Nat, (k < 31 ∨ 44 < k) → ag6 k = vi k := fun k hk => (frg6 k (by omega))
      refine vx_aload_n hC 0 rfl eX12_play_27 ?_
      refine vx_gr hC 1 (ot_31 hO) lf_X12_9 rfl (or_31_1 hO) eX12_play_28 ?_
      refine vx_bipush hC (by decide) eX12_play_31 ?_
      refine vx_iload_n hC 1 rfl eX12_play_33 ?_
      refine vx_iadd hC eX12_play_34 ?_
      refine vx_iaload hC (ot_32 hO) (by omega) (by omega) eX12_play_35 ?_
      refine vx_eqi (congrFun qg6_0 _) ?_
      exact vx_iret hC hM rfl eX12_play_36 (⟨_, rfl, by subst_vars; unfold sp_play; (repeat (first | rw [if_pos (by omega)] | rw [if_neg (by omega)])); all_goals (first | rfl | omega), rfl, rfl, rfl, (by subst_vars; unfold sp_play; (repeat (first | rw [if_pos (by omega)] | rw [if_neg (by omega)])); all_goals (first | rfl | exact qg6_0)), hg6_33, hg6_31_3, hg6_31_22, hg6_44, fun k hk => ⟨frvig6 k hk, rfl⟩⟩)
    · refine vx_bipush hC (by decide) eX12_play_18 ?_
      exact vx_iret hC hM rfl eX12_play_20 (⟨_, rfl, by subst_vars; unfold sp_play; (repeat (first | rw [if_pos (by omega)] | rw [if_neg (by omega)])); all_goals (first | rfl | omega), rfl, rfl, rfl, (by subst_vars; unfold sp_play; (repeat (first | rw [if_pos (by omega)] | rw [if_neg (by omega)])); all_goals (rfl)), rfl, rfl, rfl, rfl, fun k hk => ⟨rfl, rfl⟩⟩)
  · refine vx_iconst hC eX12_play_8 ?_
    exact vx_iret hC hM rfl eX12_play_9 (⟨_, rfl, by subst_vars; unfold sp_play; (repeat (first | rw [if_pos (by omega)] | rw [if_neg (by omega)])); all_goals (first | rfl | omega), rfl, rfl, rfl, (by subst_vars; unfold sp_play; (repeat (first | rw [if_pos (by omega)] | rw [if_neg (by omega)])); all_goals (rfl)), rfl, rfl, rfl, rfl, fun k hk => ⟨rfl, rfl⟩⟩)
