def sp_feed (s : Int → Int) (x : Int) : Int × (Int → Int) := if x < 0 ∨ 127 < x then (-2, s) else if s 3 = 100 then (-4, s) else (s 3 + 1, fu (fu s (66 + s 3) x) 3 (s 3 + 1))
set_option maxHeartbeats 4000000 in
set_option maxRecDepth 100000 in
theorem kX12_feed (G : xg_T) (d : Nat) (n : Nat) (tau : Nat → Nat × Nat) (vi vl : Nat → Int → Int) (vr : Nat → Int → Option Nat) (hI : MI n tau vi vr) (x : Int) (hx : -2147483648 ≤ x ∧ x < 2147483648) : xm G yX12_feed cX12_feed 2 (some .int) (d + 2) 0 0 [xa_r 31, xa_i x] n tau vi vl vr (xp_i (fun z9 n1 t1 a1 b1 c1 => z9 = (sp_feed (vi 32) x).1 ∧ mq ((sp_feed (vi 32) x).2) (vi 33) (vi 31 3) (vi 31 22) (vi 44) n tau vi vl vr n1 t1 a1 b1 c1)) := by
  refine xm.of (lv := [(0, xa_r 31), (1, xa_i x)]) (by decide) (Nat.le_of_ble_eq_true rfl) rfl (fun K hC hM hRm => ?_)
  obtain ⟨hO, ⟨⟨hr, h0, h1, h2, h3, h4, h5, h6, hp0, hrow, hwon, htape, htab⟩, h60⟩, him, hran, hz1, hz2⟩ := hI
  refine vx_iload_n hC 1 rfl eX12_feed_0 ?_
  refine vx_iconst hC eX12_feed_1 ?_
  refine vx_bipush hC (by decide) eX12_feed_2 ?_
  refine vx_callS_i hC (kX12_in G d _ _ _ _ _ _ _ _ (by omega) (by omega) (by omega)) ly_X12_57 rfl hRm (by omega) (Nat.le_of_ble_eq_true rfl) rfl eX12_feed_4 (fun x1 n9 t9 a9 b9 c9 hx1 => ?_)
  obtain ⟨hx1, rfl, rfl, rfl, rfl, rfl⟩ := hx1
  refine vx_if_ne hC (tgt := 13) (by omega) (by decide) eX12_feed_7 (fun c2 => ?_) (fun c2 => ?_)
  · refine vx_aload_n hC 0 rfl eX12_feed_13 ?_
    refine vx_gr hC 1 (ot_31 hO) lf_X12_9 rfl (or_31_1 hO) eX12_feed_14 ?_
    refine vx_iconst hC eX12_feed_17 ?_
    refine vx_iaload hC (ot_32 hO) (by omega) (by omega) eX12_feed_18 ?_
    refine vx_bipush hC (by decide) eX12_feed_19 ?_
    refine vx_icmp_ne hC (tgt := 27) (by omega) (by decide) eX12_feed_21 (fun c3 => ?_) (fun c3 => ?_)
    · refine vx_aload_n hC 0 rfl eX12_feed_27 ?_
      refine vx_gr hC 1 (ot_31 hO) lf_X12_9 rfl (or_31_1 hO) eX12_feed_28 ?_
      refine vx_bipush hC (by decide) eX12_feed_31 ?_
      refine vx_aload_n hC 0 rfl eX12_feed_33 ?_
      refine vx_gr hC 1 (ot_31 hO) lf_X12_9 rfl (or_31_1 hO) eX12_feed_34 ?_
      refine vx_iconst hC eX12_feed_37 ?_
      refine vx_iaload hC (ot_32 hO) (by omega) (by omega) eX12_feed_38 ?_
      refine vx_iadd hC eX12_feed_39 ?_
      refine vx_iload_n hC 1 rfl eX12_feed_40 ?_
      refine vx_top2 (fun x4 hx4 => ?_)
      refine vx_iastore hC (ot_32 hO) (by omega) (by omega) eX12_feed_41 ?_
      refine vx_vi (fun v5 hv5 => ?_)
      obtain ⟨f6, hf6⟩ : ∃ f, f = fu (vi 32) x4 x := ⟨_, rfl⟩
      have hv5_32 : v5 32 = f6 := by rw [hv5, hf6, xu_k]
      have hv5_33 : v5 33 = vi 33 := by rw [hv5, xu_c _ _ _ _ (by decide)]
      have hv5_31_3 : v5 31 3 = vi 31 3 := by rw [hv5, xu_c _ _ _ _ (by decide)]
      have hv5_31_22 : v5 31 22 = vi 31 22 := by rw [hv5, xu_c _ _ _ _ (by decide)]
      have hv5_44 : v5 44 = vi 44 := by rw [hv5, xu_c _ _ _ _ (by decide)]
      have frv5 : ∀ k : Nat, (k < 31 ∨ 44 < k) → v5 k = vi k := fun k hk => by rw [hv5, xu_c _ _ _ _ (by omega)]
      refine vx_aload_n hC 0 rfl eX12_feed_42 ?_
      refine vx_gr hC 1 (ot_31 hO) lf_X12_9 rfl (or_31_1 hO) eX12_feed_43 ?_
      refine vx_iconst hC eX12_feed_46 ?_
      refine vx_dup2 hC rfl rfl eX12_feed_47 ?_
      refine vx_iaload hC (ot_32 hO) (by omega) (by omega) eX12_feed_48 ?_
      refine vx_eqi (congrFun hv5_32 _) ?_
      refine vx_eqi (y := vi 32 3) (by subst_vars; rw [fu_n _ _ _ (by omega)]) ?_
      refine vx_iconst hC eX12_feed_49 ?_
      refine vx_iadd hC eX12_feed_50 ?_
      refine vx_top (fun x7 hx7 => ?_)
      refine vx_iastore hC (ot_32 hO) (by omega) (by omega) eX12_feed_51 ?_
      refine vx_vi (fun v8 hv8 => ?_)
      obtain ⟨f9, hf9⟩ : ∃ f, f = fu (f6) 3 x7 := ⟨_, rfl⟩
      have hv8_32 : v8 32 = f9 := by rw [hv8, hf9, xu_k, hv5_32]
      have hv8_33 : v8 33 = vi 33 := by rw [hv8, xu_c _ _ _ _ (by decide), hv5_33]
      have hv8_31_3 : v8 31 3 = vi 31 3 := by rw [hv8, xu_c _ _ _ _ (by decide), hv5_31_3]
      have hv8_31_22 : v8 31 22 = vi 31 22 := by rw [hv8, xu_c _ _ _ _ (by decide), hv5_31_22]
      have hv8_44 : v8 44 = vi 44 := by rw [hv8, xu_c _ _ _ _ (by decide), hv5_44]
      have frv8 : ∀ k : Nat, (k < 31 ∨ 44 < k) → v8 k = vi k := fun k hk => by rw [hv8, xu_c _ _ _ _ (by omega)]; exact frv5 k hk
      refine vx_aload_n hC 0 rfl eX12_feed_52 ?_
      refine vx_gr hC 1 (ot_31 hO) lf_X12_9 rfl (or_31_1 hO) eX12_feed_53 ?_
      refine vx_iconst hC eX12_feed_56 ?_
      refine vx_iaload hC (ot_32 hO) (by omega) (by omega) eX12_feed_57 ?_
      refine vx_eqi (congrFun hv8_32 _) ?_
      refine vx_eqi (y := vi 32 3 + 1) (by subst_vars; rw [fu_s]) ?_
      exact vx_iret hC hM rfl eX12_feed_58 (⟨_, rfl, by subst_vars; unfold sp_feed; (repeat (first | rw [if_pos (by omega)] | rw [if_neg (by omega)])); all_goals (first | rfl | omega), rfl, rfl, rfl, (by subst_vars; unfold sp_feed; (repeat (first | rw [if_pos (by omega)] | rw [if_neg (by omega)])); all_goals (first | rfl | exact hv8_32)), hv8_33, hv8_31_3, hv8_31_22, hv8_44, fun k hk => ⟨frv8 k hk, rfl⟩⟩)
    · refine vx_bipush hC (by decide) eX12_feed_24 ?_
      exact vx_iret hC hM rfl eX12_feed_26 (⟨_, rfl, by subst_vars; unfold sp_feed; (repeat (first | rw [if_pos (by omega)] | rw [if_neg (by omega)])); all_goals (first | rfl | omega), rfl, rfl, rfl, (by subst_vars; unfold sp_feed; (repeat (first | rw [if_pos (by omega)] | rw [if_neg (by omega)])); all_goals (rfl)), rfl, rfl, rfl, rfl, fun k hk => ⟨rfl, rfl⟩⟩)
  · refine vx_bipush hC (by decide) eX12_feed_10 ?_
    exact vx_iret hC hM rfl eX12_feed_12 (⟨_, rfl, by subst_vars; unfold sp_feed; (repeat (first | rw [if_pos (by omega)] | rw [if_neg (by omega)])); all_goals (first | rfl | omega), rfl, rfl, rfl, (by subst_vars; unfold sp_feed; (repeat (first | rw [if_pos (by omega)] | rw [if_neg (by omega)])); all_goals (rfl)), rfl, rfl, rfl, rfl, fun k hk => ⟨rfl, rfl⟩⟩)
def sp_day (s : Int → Int) (x : Int) : Int × (Int → Int) := if x < 0 ∨ 9 < x then (-2, s) else (s 5, fu s 5 x)
set_option maxHeartbeats 4000000 in
set_option maxRecDepth 100000 in
theorem kX12_day (G : xg_T) (d : Nat) (n : Nat) (tau : Nat → Nat × Nat) (vi vl : Nat → Int → Int) (vr : Nat → Int → Option Nat) (hI : MI n tau vi vr) (x : Int) (hx : -2147483648 ≤ x ∧ x < 2147483648) : xm G yX12_day cX12_day 3 (some .int) (d + 2) 0 0 [xa_r 31, xa_i x] n tau vi vl vr (xp_i (fun z9 n1 t1 a1 b1 c1 => z9 = (sp_day (vi 32) x).1 ∧ mq ((sp_day (vi 32) x).2) (vi 33) (vi 31 3) (vi 31 22) (vi 44) n tau vi vl vr n1 t1 a1 b1 c1)) := by
  refine xm.of (lv := [(0, xa_r 31), (1, xa_i x)]) (by decide) (Nat.le_of_ble_eq_true rfl) rfl (fun K hC hM hRm => ?_)
  obtain ⟨hO, ⟨⟨hr, h0, h1, h2, h3, h4, h5, h6, hp0, hrow, hwon, htape, htab⟩, h60⟩, him, hran, hz1, hz2⟩ := hI
  refine vx_iload_n hC 1 rfl eX12_day_0 ?_
  refine vx_iconst hC eX12_day_1 ?_
  refine vx_bipush hC (by decide) eX12_day_2 ?_
  refine vx_callS_i hC (kX12_in G d _ _ _ _ _ _ _ _ (by omega) (by omega) (by omega)) ly_X12_57 rfl hRm (by omega) (Nat.le_of_ble_eq_true rfl) rfl eX12_day_4 (fun x1 n9 t9 a9 b9 c9 hx1 => ?_)
  obtain ⟨hx1, rfl, rfl, rfl, rfl, rfl⟩ := hx1
  refine vx_if_ne hC (tgt := 13) (by omega) (by decide) eX12_day_7 (fun c2 => ?_) (fun c2 => ?_)
  · refine vx_aload_n hC 0 rfl eX12_day_13 ?_
    refine vx_gr hC 1 (ot_31 hO) lf_X12_9 rfl (or_31_1 hO) eX12_day_14 ?_
    refine vx_iconst hC eX12_day_17 ?_
    refine vx_iaload hC (ot_32 hO) (by omega) (by omega) eX12_day_18 ?_
    refine vx_top (fun x3 hx3 => ?_)
    refine vx_istore_n hC (lv1 := [(2, xa_i x3), (0, xa_r 31), (1, xa_i x)]) (by decide) rfl eX12_day_19 ?_
    refine vx_aload_n hC 1 rfl eX12_day_20 ?_
    refine vx_gr hC 1 (ot_31 hO) lf_X12_9 rfl (or_31_1 hO) eX12_day_21 ?_
    refine vx_iconst hC eX12_day_24 ?_
    refine vx_iload_n hC 2 rfl eX12_day_25 ?_
    refine vx_iastore hC (ot_32 hO) (by omega) (by omega) eX12_day_26 ?_
    refine vx_vi (fun v4 hv4 => ?_)
    obtain ⟨f5, hf5⟩ : ∃ f, f = fu (vi 32) 5 x := ⟨_, rfl⟩
    have hv4_32 : v4 32 = f5 := by rw [hv4, hf5, xu_k]
    have hv4_33 : v4 33 = vi 33 := by rw [hv4, xu_c _ _ _ _ (by decide)]
    have hv4_31_3 : v4 31 3 = vi 31 3 := by rw [hv4, xu_c _ _ _ _ (by decide)]
    have hv4_31_22 : v4 31 22 = vi 31 22 := by rw [hv4, xu_c _ _ _ _ (by decide)]
    have hv4_44 : v4 44 = vi 44 := by rw [hv4, xu_c _ _ _ _ (by decide)]
    have frv4 : ∀ k : Nat, (k < 31 ∨ 44 < k) → v4 k = vi k := fun k hk => by rw [hv4, xu_c _ _ _ _ (by omega)]
    refine vx_iload_n hC 0 rfl eX12_day_27 ?_
    exact vx_iret hC hM rfl eX12_day_28 (⟨_, rfl, by subst_vars; unfold sp_day; (repeat (first | rw [if_pos (by omega)] | rw [if_neg (by omega)])); all_goals (first | rfl | omega), rfl, rfl, rfl, (by subst_vars; unfold sp_day; (repeat (first | rw [if_pos (by omega)] | rw [if_neg (by omega)])); all_goals (first | rfl | exact hv4_32)), hv4_33, hv4_31_3, hv4_31_22, hv4_44, fun k hk => ⟨frv4 k hk, rfl⟩⟩)
  · refine vx_bipush hC (by decide) eX12_day_10 ?_
    exact vx_iret hC hM rfl eX12_day_12 (⟨_, rfl, by subst_vars; unfold sp_day; (repeat (first | rw [if_pos (by omega)] | rw [if_neg (by omega)])); all_goals (first | rfl | omega), rfl, rfl, rfl, (by subst_vars; unfold sp_day; (repeat (first | rw [if_pos (by omega)] | rw [if_neg (by omega)])); all_goals (rfl)), rfl, rfl, rfl, rfl, fun k hk => ⟨rfl, rfl⟩⟩)
def ms_lim (s : Int → Int) : Int := if 0 < s 6 then s 6 else if s 4 = -1 then 99 else s (166 + s 4)
theorem ms_lim_r {s : Int → Int} (h : ms_W s) : 1 ≤ ms_lim s ∧ ms_lim s ≤ 99 := by
  obtain ⟨hr, h0, h1, h2, h3, h4, h5, h6, hp0, hrow, hwon, htape, htab⟩ := h
  unfold ms_lim
  split
  · omega
  · split
    · omega
    · have := (htab (s 4) (by omega) (by omega)).1
      omega
set_option maxHeartbeats 4000000 in
set_option maxRecDepth 100000 in
theorem kX12_limit (G : xg_T) (d : Nat) (n : Nat) (tau : Nat → Nat × Nat) (vi vl : Nat → Int → Int) (vr : Nat → Int → Option Nat) (hO : xo n tau vr) (s : Int → Int) (h32 : vi 32 = s) (hW : ms_W s) : xm G yX12_limit cX12_limit 1 (some .int) (d + 1) 0 0 [xa_r 31] n tau vi vl vr (xp_i (fun z9 n1 t1 a1 b1 c1 => z9 = ms_lim s ∧ xs_0 n tau vi vl vr n1 t1 a1 b1 c1)) := by
  refine xm.of (lv := [(0, xa_r 31)]) (by decide) (Nat.le_of_ble_eq_true rfl) rfl (fun K hC hM hRm => ?_)
  obtain ⟨hr, h0, h1, h2, h3, h4, h5, h6, hp0, hrow, hwon, htape, htab⟩ := hW
  refine vx_aload_n hC 0 rfl eX12_limit_0 ?_
  refine vx_gr hC 1 (ot_31 hO) lf_X12_9 rfl (or_31_1 hO) eX12_limit_1 ?_
  refine vx_bipush hC (by decide) eX12_limit_4 ?_
  refine vx_iaload hC (ot_32 hO) (by omega) (by omega) eX12_limit_6 ?_
  refine vx_eqi (congrFun h32 _) ?_
  refine vx_if_le hC (tgt := 20) (by omega) (by decide) eX12_limit_7 (fun c1 => ?_) (fun c1 => ?_)
  · refine vx_aload_n hC 0 rfl eX12_limit_20 ?_
    refine vx_gr hC 1 (ot_31 hO) lf_X12_9 rfl (or_31_1 hO) eX12_limit_21 ?_
    refine vx_iconst hC eX12_limit_24 ?_
    refine vx_iaload hC (ot_32 hO) (by omega) (by omega) eX12_limit_25 ?_
    refine vx_eqi (congrFun h32 _) ?_
    refine vx_iconst hC eX12_limit_26 ?_
    refine vx_icmp_ne hC (tgt := 35) (by omega) (by decide) eX12_limit_27 (fun c2 => ?_) (fun c2 => ?_)
    · refine vx_aload_n hC 0 rfl eX12_limit_35 ?_
      refine vx_gr hC 1 (ot_31 hO) lf_X12_9 rfl (or_31_1 hO) eX12_limit_36 ?_
      refine vx_sipush hC (by decide) eX12_limit_39 ?_
      refine vx_aload_n hC 0 rfl eX12_limit_42 ?_
      refine vx_gr hC 1 (ot_31 hO) lf_X12_9 rfl (or_31_1 hO) eX12_limit_43 ?_
      refine vx_iconst hC eX12_limit_46 ?_
      refine vx_iaload hC (ot_32 hO) (by omega) (by omega) eX12_limit_47 ?_
      refine vx_eqi (congrFun h32 _) ?_
      refine vx_iadd hC eX12_limit_48 ?_
      refine vx_iaload hC (ot_32 hO) (by omega) (by omega) eX12_limit_49 ?_
      refine vx_eqi (congrFun h32 _) ?_
      exact vx_iret hC hM rfl eX12_limit_50 (⟨_, rfl, by subst_vars; unfold ms_lim; (repeat (first | rw [if_pos (by omega)] | rw [if_neg (by omega)])); all_goals (first | rfl | omega), xs_0.rf _ _ _ _ _⟩)
    · refine vx_bipush hC (by decide) eX12_limit_30 ?_
      refine vx_goto hC (tgt := 50) (by decide) eX12_limit_32 ?_
      exact vx_iret hC hM rfl eX12_limit_50 (⟨_, rfl, by subst_vars; unfold ms_lim; (repeat (first | rw [if_pos (by omega)] | rw [if_neg (by omega)])); all_goals (first | rfl | omega), xs_0.rf _ _ _ _ _⟩)
  · refine vx_aload_n hC 0 rfl eX12_limit_10 ?_
    refine vx_gr hC 1 (ot_31 hO) lf_X12_9 rfl (or_31_1 hO) eX12_limit_11 ?_
    refine vx_bipush hC (by decide) eX12_limit_14 ?_
    refine vx_iaload hC (ot_32 hO) (by omega) (by omega) eX12_limit_16 ?_
    refine vx_eqi (congrFun h32 _) ?_
    refine vx_goto hC (tgt := 50) (by decide) eX12_limit_17 ?_
    exact vx_iret hC hM rfl eX12_limit_50 (⟨_, rfl, by subst_vars; unfold ms_lim; (repeat (first | rw [if_pos (by omega)] | rw [if_neg (by omega)])); all_goals (first | rfl | omega), xs_0.rf _ _ _ _ _⟩)
def sp_told (s : Int → Int) (x : Int) : Int := if x = 0 then s 5 else if x = 1 then ms_lim s else -1
set_option maxHeartbeats 4000000 in
set_option maxRecDepth 100000 in
theorem kX12_told (G : xg_T) (d : Nat) (n : Nat) (tau : Nat → Nat × Nat) (vi vl : Nat → Int → Int) (vr : Nat → Int → Option Nat) (hI : MI n tau vi vr) (x : Int) (hx : -2147483648 ≤ x ∧ x < 2147483648) : xm G yX12_told cX12_told 2 (some .int) (d + 2) 0 0 [xa_r 31, xa_i x] n tau vi vl vr (xp_i (fun z9 n1 t1 a1 b1 c1 => z9 = sp_told (vi 32) x ∧ mq (vi 32) (vi 33) (vi 31 3) (vi 31 22) (vi 44) n tau vi vl vr n1 t1 a1 b1 c1)) := by
  refine xm.of (lv := [(0, xa_r 31), (1, xa_i x)]) (by decide) (Nat.le_of_ble_eq_true rfl) rfl (fun K hC hM hRm => ?_)
  obtain ⟨hO, ⟨⟨hr, h0, h1, h2, h3, h4, h5, h6, hp0, hrow, hwon, htape, htab⟩, h60⟩, him, hran, hz1, hz2⟩ := hI
  have hW : ms_W (vi 32) := ⟨hr, h0, h1, h2, h3, h4, h5, h6, hp0, hrow, hwon, htape, htab⟩
  refine vx_iload_n hC 1 rfl eX12_told_0 ?_
  refine vx_if_ne hC (tgt := 13) (by omega) (by decide) eX12_told_1 (fun c1 => ?_) (fun c1 => ?_)
  · refine vx_iload_n hC 1 rfl eX12_told_13 ?_
    refine vx_iconst hC eX12_told_14 ?_
    refine vx_icmp_ne hC (tgt := 25) (by omega) (by decide) eX12_told_15 (fun c2 => ?_) (fun c2 => ?_)
    · refine vx_iconst hC eX12_told_25 ?_
      exact vx_iret hC hM rfl eX12_told_26 (⟨_, rfl, by subst_vars; unfold sp_told; (repeat (first | rw [if_pos (by omega)] | rw [if_neg (by omega)])); all_goals (first | rfl | omega), rfl, rfl, rfl, rfl, rfl, rfl, rfl, rfl, fun k hk => ⟨rfl, rfl⟩⟩)
    · refine vx_aload_n hC 0 rfl eX12_told_18 ?_
      refine vx_callV_i hC (kX12_limit G d _ _ _ _ _ hO (vi 32) rfl hW) ly_X12_137 (ot_31 hO) rfl rfl rfl hRm (by omega) (Nat.le_of_ble_eq_true rfl) rfl eX12_told_19 (fun x3 n9 t9 a9 b9 c9 hx3 => ?_)
      obtain ⟨hx3, rfl, rfl, rfl, rfl, rfl⟩ := hx3
      refine vx_goto hC (tgt := 26) (by decide) eX12_told_22 ?_
      exact vx_iret hC hM rfl eX12_told_26 (⟨_, rfl, by subst_vars; unfold sp_told; (repeat (first | rw [if_pos (by omega)] | rw [if_neg (by omega)])); all_goals (first | rfl | omega), rfl, rfl, rfl, rfl, rfl, rfl, rfl, rfl, fun k hk => ⟨rfl, rfl⟩⟩)
  · refine vx_aload_n hC 0 rfl eX12_told_4 ?_
    refine vx_gr hC 1 (ot_31 hO) lf_X12_9 rfl (or_31_1 hO) eX12_told_5 ?_
    refine vx_iconst hC eX12_told_8 ?_
    refine vx_iaload hC (ot_32 hO) (by omega) (by omega) eX12_told_9 ?_
    refine vx_goto hC (tgt := 26) (by decide) eX12_told_10 ?_
    exact vx_iret hC hM rfl eX12_told_26 (⟨_, rfl, by subst_vars; unfold sp_told; (repeat (first | rw [if_pos (by omega)] | rw [if_neg (by omega)])); all_goals (first | rfl | omega), rfl, rfl, rfl, rfl, rfl, rfl, rfl, rfl, fun k hk => ⟨rfl, rfl⟩⟩)
def sp_purse (s : Int → Int) (q x : Int) : Int × (Int → Int) := if q < 0 ∨ s 0 ≤ q then (-1, s) else if x < 0 ∨ s (18 + q) < x then (-2, s) else (s (22 + q), fu s (22 + q) x)
set_option maxHeartbeats 4000000 in
set_option maxRecDepth 100000 in
theorem kX12_purse (G : xg_T) (d : Nat) (n : Nat) (tau : Nat → Nat × Nat) (vi vl : Nat → Int → Int) (vr : Nat → Int → Option Nat) (hI : MI n tau vi vr) (q x : Int) (hq : -2147483648 ≤ q ∧ q < 2147483648) (hx : -2147483648 ≤ x ∧ x < 2147483648) : xm G yX12_purse cX12_purse 4 (some .int) (d + 3) 0 0 [xa_r 31, xa_i q, xa_i x] n tau vi vl vr (xp_i (fun z9 n1 t1 a1 b1 c1 => z9 = (sp_purse (vi 32) q x).1 ∧ mq ((sp_purse (vi 32) q x).2) (vi 33) (vi 31 3) (vi 31 22) (vi 44) n tau vi vl vr n1 t1 a1 b1 c1)) := by
  refine xm.of (lv := [(0, xa_r 31), (1, xa_i q), (2, xa_i x)]) (by decide) (Nat.le_of_ble_eq_true rfl) rfl (fun K hC hM hRm => ?_)
  obtain ⟨hO, ⟨⟨hr, h0, h1, h2, h3, h4, h5, h6, hp0, hrow, hwon, htape, htab⟩, h60⟩, him, hran, hz1, hz2⟩ := hI
  have g1 := hr (18 + q)
  have g2 := hr (22 + q)
  refine vx_aload_n hC 0 rfl eX12_purse_0 ?_
  refine vx_iload_n hC 1 rfl eX12_purse_1 ?_
  refine vx_callV_i hC (kX12_isPlayer G d _ _ _ _ _ hO (vi 32) rfl _ (by omega) (by omega)) ly_X12_140 (ot_31 hO) rfl rfl rfl hRm (by omega) (Nat.le_of_ble_eq_true rfl) rfl eX12_purse_2 (fun x1 n9 t9 a9 b9 c9 hx1 => ?_)
  obtain ⟨hx1, rfl, rfl, rfl, rfl, rfl⟩ := hx1
  refine vx_if_ne hC (tgt := 10) (by omega) (by decide) eX12_purse_5 (fun c2 => ?_) (fun c2 => ?_)
  · refine vx_iload_n hC 2 rfl eX12_purse_10 ?_
    refine vx_iconst hC eX12_purse_11 ?_
    refine vx_aload_n hC 0 rfl eX12_purse_12 ?_
    refine vx_gr hC 1 (ot_31 hO) lf_X12_9 rfl (or_31_1 hO) eX12_purse_13 ?_
    refine vx_bipush hC (by decide) eX12_purse_16 ?_
    refine vx_iload_n hC 1 rfl eX12_purse_18 ?_
    refine vx_iadd hC eX12_purse_19 ?_
    refine vx_iaload hC (ot_32 hO) (by omega) (by omega) eX12_purse_20 ?_
    refine vx_callS_i hC (kX12_in G (d + 1) _ _ _ _ _ _ _ _ (by omega) (by omega) (by omega)) ly_X12_57 rfl hRm (by omega) (Nat.le_of_ble_eq_true rfl) rfl eX12_purse_21 (fun x3 n9 t9 a9 b9 c9 hx3 => ?_)
    obtain ⟨hx3, rfl, rfl, rfl, rfl, rfl⟩ := hx3
    refine vx_if_ne hC (tgt := 30) (by omega) (by decide) eX12_purse_24 (fun c4 => ?_) (fun c4 => ?_)
    · refine vx_aload_n hC 0 rfl eX12_purse_30 ?_
      refine vx_gr hC 1 (ot_31 hO) lf_X12_9 rfl (or_31_1 hO) eX12_purse_31 ?_
      refine vx_bipush hC (by decide) eX12_purse_34 ?_
      refine vx_iload_n hC 1 rfl eX12_purse_36 ?_
      refine vx_iadd hC eX12_purse_37 ?_
      refine vx_iaload hC (ot_32 hO) (by omega) (by omega) eX12_purse_38 ?_
      refine vx_top (fun x5 hx5 => ?_)
      refine vx_istore_n hC (lv1 := [(3, xa_i x5), (0, xa_r 31), (1, xa_i q), (2, xa_i x)]) (by decide) rfl eX12_purse_39 ?_
      refine vx_aload_n hC 1 rfl eX12_purse_40 ?_
      refine vx_gr hC 1 (ot_31 hO) lf_X12_9 rfl (or_31_1 hO) eX12_purse_41 ?_
      refine vx_bipush hC (by decide) eX12_purse_44 ?_
      refine vx_iload_n hC 2 rfl eX12_purse_46 ?_
      refine vx_iadd hC eX12_purse_47 ?_
      refine vx_iload_n hC 3 rfl eX12_purse_48 ?_
      refine vx_top2 (fun x6 hx6 => ?_)
      refine vx_iastore hC (ot_32 hO) (by omega) (by omega) eX12_purse_49 ?_
      refine vx_vi (fun v7 hv7 => ?_)
      obtain ⟨f8, hf8⟩ : ∃ f, f = fu (vi 32) x6 x := ⟨_, rfl⟩
      have hv7_32 : v7 32 = f8 := by rw [hv7, hf8, xu_k]
      have hv7_33 : v7 33 = vi 33 := by rw [hv7, xu_c _ _ _ _ (by decide)]
      have hv7_31_3 : v7 31 3 = vi 31 3 := by rw [hv7, xu_c _ _ _ _ (by decide)]
      have hv7_31_22 : v7 31 22 = vi 31 22 := by rw [hv7, xu_c _ _ _ _ (by decide)]
      have hv7_44 : v7 44 = vi 44 := by rw [hv7, xu_c _ _ _ _ (by decide)]
      have frv7 : ∀ k : Nat, (k < 31 ∨ 44 < k) → v7 k = vi k := fun k hk => by rw [hv7, xu_c _ _ _ _ (by omega)]
      refine vx_iload_n hC 0 rfl eX12_purse_50 ?_
      exact vx_iret hC hM rfl eX12_purse_51 (⟨_, rfl, by subst_vars; unfold sp_purse; (repeat (first | rw [if_pos (by omega)] | rw [if_neg (by omega)])); all_goals (first | rfl | omega), rfl, rfl, rfl, (by subst_vars; unfold sp_purse; (repeat (first | rw [if_pos (by omega)] | rw [if_neg (by omega)])); all_goals (first | rfl | exact hv7_32)), hv7_33, hv7_31_3, hv7_31_22, hv7_44, fun k hk => ⟨frv7 k hk, rfl⟩⟩)
    · refine vx_bipush hC (by decide) eX12_purse_27 ?_
      exact vx_iret hC hM rfl eX12_purse_29 (⟨_, rfl, by subst_vars; unfold sp_purse; (repeat (first | rw [if_pos (by omega)] | rw [if_neg (by omega)])); all_goals (first | rfl | omega), rfl, rfl, rfl, (by subst_vars; unfold sp_purse; (repeat (first | rw [if_pos (by omega)] | rw [if_neg (by omega)])); all_goals (rfl)), rfl, rfl, rfl, rfl, fun k hk => ⟨rfl, rfl⟩⟩)
  · refine vx_iconst hC eX12_purse_8 ?_
    exact vx_iret hC hM rfl eX12_purse_9 (⟨_, rfl, by subst_vars; unfold sp_purse; (repeat (first | rw [if_pos (by omega)] | rw [if_neg (by omega)])); all_goals (first | rfl | omega), rfl, rfl, rfl, (by subst_vars; unfold sp_purse; (repeat (first | rw [if_pos (by omega)] | rw [if_neg (by omega)])); all_goals (rfl)), rfl, rfl, rfl, rfl, fun k hk => ⟨rfl, rfl⟩⟩)
def sp_row (s : Int → Int) (q k x : Int) : Int × (Int → Int) := if q < 0 ∨ s 0 ≤ q ∨ k < 0 ∨ 3 < k then (-1, s) else if x < 0 ∨ 9 < x then (-2, s) else if ¬ s (10 + q) = 6 then (-3, s) else (s (26 + 4 * q + k), fu s (26 + 4 * q + k) x)
set_option maxHeartbeats 4000000 in
set_option maxRecDepth 100000 in
theorem kX12_row (G : xg_T) (d : Nat) (n : Nat) (tau : Nat → Nat × Nat) (vi vl : Nat → Int → Int) (vr : Nat → Int → Option Nat) (hI : MI n tau vi vr) (q k x : Int) (hq : -2147483648 ≤ q ∧ q < 2147483648) (hk : -2147483648 ≤ k ∧ k < 2147483648) (hx : -2147483648 ≤ x ∧ x < 2147483648) : xm G yX12_row cX12_row 5 (some .int) (d + 3) 0 0 [xa_r 31, xa_i q, xa_i k, xa_i x] n tau vi vl vr (xp_i (fun z9 n1 t1 a1 b1 c1 => z9 = (sp_row (vi 32) q k x).1 ∧ mq ((sp_row (vi 32) q k x).2) (vi 33) (vi 31 3) (vi 31 22) (vi 44) n tau vi vl vr n1 t1 a1 b1 c1)) := by
  refine xm.of (lv := [(0, xa_r 31), (1, xa_i q), (2, xa_i k), (3, xa_i x)]) (by decide) (Nat.le_of_ble_eq_true rfl) rfl (fun K hC hM hRm => ?_)
  obtain ⟨hO, ⟨⟨hr, h0, h1, h2, h3, h4, h5, h6, hp0, hrow, hwon, htape, htab⟩, h60⟩, him, hran, hz1, hz2⟩ := hI
  have g1 := hr (10 + q)
  refine vx_aload_n hC 0 rfl eX12_row_0 ?_
  refine vx_iload_n hC 1 rfl eX12_row_1 ?_
  refine vx_callV_i hC (kX12_isPlayer G d _ _ _ _ _ hO (vi 32) rfl _ (by omega) (by omega)) ly_X12_140 (ot_31 hO) rfl rfl rfl hRm (by omega) (Nat.le_of_ble_eq_true rfl) rfl eX12_row_2 (fun x1 n9 t9 a9 b9 c9 hx1 => ?_)
  obtain ⟨hx1, rfl, rfl, rfl, rfl, rfl⟩ := hx1
  refine vx_if_eq hC (tgt := 17) (by omega) (by decide) eX12_row_5 (fun c2 => ?_) (fun c2 => ?_)
  · refine vx_iconst hC eX12_row_17 ?_
    exact vx_iret hC hM rfl eX12_row_18 (⟨_, rfl, by subst_vars; unfold sp_row; (repeat (first | rw [if_pos (by omega)] | rw [if_neg (by omega)])); all_goals (first | rfl | omega), rfl, rfl, rfl, (by subst_vars; unfold sp_row; (repeat (first | rw [if_pos (by omega)] | rw [if_neg (by omega)])); all_goals (rfl)), rfl, rfl, rfl, rfl, fun k hk => ⟨rfl, rfl⟩⟩)
  · refine vx_iload_n hC 2 rfl eX12_row_8 ?_
    refine vx_iconst hC eX12_row_9 ?_
    refine vx_iconst hC eX12_row_10 ?_
    refine vx_callS_i hC (kX12_in G (d + 1) _ _ _ _ _ _ _ _ (by omega) (by omega) (by omega)) ly_X12_57 rfl hRm (by omega) (Nat.le_of_ble_eq_true rfl) rfl eX12_row_11 (fun x3 n9 t9 a9 b9 c9 hx3 => ?_)
    obtain ⟨hx3, rfl, rfl, rfl, rfl, rfl⟩ := hx3
    refine vx_if_ne hC (tgt := 19) (by omega) (by decide) eX12_row_14 (fun c4 => ?_) (fun c4 => ?_)
    · refine vx_iload_n hC 3 rfl eX12_row_19 ?_
      refine vx_iconst hC eX12_row_20 ?_
      refine vx_bipush hC (by decide) eX12_row_21 ?_
      refine vx_callS_i hC (kX12_in G (d + 1) _ _ _ _ _ _ _ _ (by omega) (by omega) (by omega)) ly_X12_57 rfl hRm (by omega) (Nat.le_of_ble_eq_true rfl) rfl eX12_row_23 (fun x5 n9 t9 a9 b9 c9 hx5 => ?_)
      obtain ⟨hx5, rfl, rfl, rfl, rfl, rfl⟩ := hx5
      refine vx_if_ne hC (tgt := 32) (by omega) (by decide) eX12_row_26 (fun c6 => ?_) (fun c6 => ?_)
      · refine vx_aload_n hC 0 rfl eX12_row_32 ?_
        refine vx_gr hC 1 (ot_31 hO) lf_X12_9 rfl (or_31_1 hO) eX12_row_33 ?_
        refine vx_bipush hC (by decide) eX12_row_36 ?_
        refine vx_iload_n hC 1 rfl eX12_row_38 ?_
        refine vx_iadd hC eX12_row_39 ?_
        refine vx_iaload hC (ot_32 hO) (by omega) (by omega) eX12_row_40 ?_
        refine vx_bipush hC (by decide) eX12_row_41 ?_
        refine vx_icmp_eq hC (tgt := 49) (by omega) (by decide) eX12_row_43 (fun c7 => ?_) (fun c7 => ?_)
        · refine vx_aload_n hC 0 rfl eX12_row_49 ?_
          refine vx_gr hC 1 (ot_31 hO) lf_X12_9 rfl (or_31_1 hO) eX12_row_50 ?_
          refine vx_bipush hC (by decide) eX12_row_53 ?_
          refine vx_iconst hC eX12_row_55 ?_
          refine vx_iload_n hC 1 rfl eX12_row_56 ?_
          refine vx_imul hC eX12_row_57 ?_
          refine vx_iadd hC eX12_row_58 ?_
          refine vx_iload_n hC 2 rfl eX12_row_59 ?_
          refine vx_iadd hC eX12_row_60 ?_
          refine vx_iaload hC (ot_32 hO) (by omega) (by omega) eX12_row_61 ?_
          refine vx_top (fun x8 hx8 => ?_)
          refine vx_istore hC (lv1 := [(4, xa_i x8), (0, xa_r 31), (1, xa_i q), (2, xa_i k), (3, xa_i x)]) (by decide) rfl eX12_row_62 ?_
          refine vx_aload_n hC 1 rfl eX12_row_64 ?_
          refine vx_gr hC 1 (ot_31 hO) lf_X12_9 rfl (or_31_1 hO) eX12_row_65 ?_
          refine vx_bipush hC (by decide) eX12_row_68 ?_
          refine vx_iconst hC eX12_row_70 ?_
          refine vx_iload_n hC 2 rfl eX12_row_71 ?_
          refine vx_imul hC eX12_row_72 ?_
          refine vx_iadd hC eX12_row_73 ?_
          refine vx_iload_n hC 3 rfl eX12_row_74 ?_
          refine vx_iadd hC eX12_row_75 ?_
          refine vx_iload_n hC 4 rfl eX12_row_76 ?_
          refine vx_top2 (fun x9 hx9 => ?_)
          refine vx_iastore hC (ot_32 hO) (by omega) (by omega) eX12_row_77 ?_
          refine vx_vi (fun v10 hv10 => ?_)
          obtain ⟨f11, hf11⟩ : ∃ f, f = fu (vi 32) x9 x := ⟨_, rfl⟩
          have hv10_32 : v10 32 = f11 := by rw [hv10, hf11, xu_k]
          have hv10_33 : v10 33 = vi 33 := by rw [hv10, xu_c _ _ _ _ (by decide)]
          have hv10_31_3 : v10 31 3 = vi 31 3 := by rw [hv10, xu_c _ _ _ _ (by decide)]
          have hv10_31_22 : v10 31 22 = vi 31 22 := by rw [hv10, xu_c _ _ _ _ (by decide)]
          have hv10_44 : v10 44 = vi 44 := by rw [hv10, xu_c _ _ _ _ (by decide)]
          have frv10 : ∀ k : Nat, (k < 31 ∨ 44 < k) → v10 k = vi k := fun k hk => by rw [hv10, xu_c _ _ _ _ (by omega)]
          refine vx_iload hC 0 rfl eX12_row_78 ?_
          exact vx_iret hC hM rfl eX12_row_80 (⟨_, rfl, by subst_vars; unfold sp_row; (repeat (first | rw [if_pos (by omega)] | rw [if_neg (by omega)])); all_goals (first | rfl | omega), rfl, rfl, rfl, (by subst_vars; unfold sp_row; (repeat (first | rw [if_pos (by omega)] | rw [if_neg (by omega)])); all_goals (first | rfl | exact hv10_32)), hv10_33, hv10_31_3, hv10_31_22, hv10_44, fun k hk => ⟨frv10 k hk, rfl⟩⟩)
        · refine vx_bipush hC (by decide) eX12_row_46 ?_
          exact vx_iret hC hM rfl eX12_row_48 (⟨_, rfl, by subst_vars; unfold sp_row; (repeat (first | rw [if_pos (by omega)] | rw [if_neg (by omega)])); all_goals (first | rfl | omega), rfl, rfl, rfl, (by subst_vars; unfold sp_row; (repeat (first | rw [if_pos (by omega)] | rw [if_neg (by omega)])); all_goals (rfl)), rfl, rfl, rfl, rfl, fun k hk => ⟨rfl, rfl⟩⟩)
      · refine vx_bipush hC (by decide) eX12_row_29 ?_
        exact vx_iret hC hM rfl eX12_row_31 (⟨_, rfl, by subst_vars; unfold sp_row; (repeat (first | rw [if_pos (by omega)] | rw [if_neg (by omega)])); all_goals (first | rfl | omega), rfl, rfl, rfl, (by subst_vars; unfold sp_row; (repeat (first | rw [if_pos (by omega)] | rw [if_neg (by omega)])); all_goals (rfl)), rfl, rfl, rfl, rfl, fun k hk => ⟨rfl, rfl⟩⟩)
    · refine vx_iconst hC eX12_row_17 ?_
      exact vx_iret hC hM rfl eX12_row_18 (⟨_, rfl, by subst_vars; unfold sp_row; (repeat (first | rw [if_pos (by omega)] | rw [if_neg (by omega)])); all_goals (first | rfl | omega), rfl, rfl, rfl, (by subst_vars; unfold sp_row; (repeat (first | rw [if_pos (by omega)] | rw [if_neg (by omega)])); all_goals (rfl)), rfl, rfl, rfl, rfl, fun k hk => ⟨rfl, rfl⟩⟩)
def sp_toss (s : Int → Int) (x : Int) : Int × (Int → Int) := if s 2 = 24 then (-4, s) else (s 2 + 1, fu (fu s (42 + s 2) x) 2 (s 2 + 1))
set_option maxHeartbeats 4000000 in
set_option maxRecDepth 100000 in
theorem kX12_toss (G : xg_T) (d : Nat) (n : Nat) (tau : Nat → Nat × Nat) (vi vl : Nat → Int → Int) (vr : Nat → Int → Option Nat) (hI : MI n tau vi vr) (x : Int) (hx : x = 0 ∨ x = 1) : xm G yX12_toss cX12_toss 2 (some .int) (d + 1) 0 0 [xa_r 31, xa_i x] n tau vi vl vr (xp_i (fun z9 n1 t1 a1 b1 c1 => z9 = (sp_toss (vi 32) x).1 ∧ mq ((sp_toss (vi 32) x).2) (vi 33) (vi 31 3) (vi 31 22) (vi 44) n tau vi vl vr n1 t1 a1 b1 c1)) := by
  refine xm.of (lv := [(0, xa_r 31), (1, xa_i x)]) (by decide) (Nat.le_of_ble_eq_true rfl) rfl (fun K hC hM hRm => ?_)
  obtain ⟨hO, ⟨⟨hr, h0, h1, h2, h3, h4, h5, h6, hp0, hrow, hwon, htape, htab⟩, h60⟩, him, hran, hz1, hz2⟩ := hI
  refine vx_aload_n hC 0 rfl eX12_toss_0 ?_
  refine vx_gr hC 1 (ot_31 hO) lf_X12_9 rfl (or_31_1 hO) eX12_toss_1 ?_
  refine vx_iconst hC eX12_toss_4 ?_
  refine vx_iaload hC (ot_32 hO) (by omega) (by omega) eX12_toss_5 ?_
  refine vx_bipush hC (by decide) eX12_toss_6 ?_
  refine vx_icmp_ne hC (tgt := 14) (by omega) (by decide) eX12_toss_8 (fun c1 => ?_) (fun c1 => ?_)
  · refine vx_aload_n hC 0 rfl eX12_toss_14 ?_
    refine vx_gr hC 1 (ot_31 hO) lf_X12_9 rfl (or_31_1 hO) eX12_toss_15 ?_
    refine vx_bipush hC (by decide) eX12_toss_18 ?_
    refine vx_aload_n hC 0 rfl eX12_toss_20 ?_
    refine vx_gr hC 1 (ot_31 hO) lf_X12_9 rfl (or_31_1 hO) eX12_toss_21 ?_
    refine vx_iconst hC eX12_toss_24 ?_
    refine vx_iaload hC (ot_32 hO) (by omega) (by omega) eX12_toss_25 ?_
    refine vx_iadd hC eX12_toss_26 ?_
    refine vx_iload_n hC 1 rfl eX12_toss_27 ?_
    refine vx_if_eq hC (tgt := 35) (by omega) (by decide) eX12_toss_28 (fun c2 => ?_) (fun c2 => ?_)
    · refine vx_iconst hC eX12_toss_35 ?_
      refine vx_top2 (fun x3 hx3 => ?_)
      refine vx_iastore hC (ot_32 hO) (by omega) (by omega) eX12_toss_36 ?_
      refine vx_vi (fun v4 hv4 => ?_)
      obtain ⟨f5, hf5⟩ : ∃ f, f = fu (vi 32) x3 0 := ⟨_, rfl⟩
      have hv4_32 : v4 32 = f5 := by rw [hv4, hf5, xu_k]
      have hv4_33 : v4 33 = vi 33 := by rw [hv4, xu_c _ _ _ _ (by decide)]
      have hv4_31_3 : v4 31 3 = vi 31 3 := by rw [hv4, xu_c _ _ _ _ (by decide)]
      have hv4_31_22 : v4 31 22 = vi 31 22 := by rw [hv4, xu_c _ _ _ _ (by decide)]
      have hv4_44 : v4 44 = vi 44 := by rw [hv4, xu_c _ _ _ _ (by decide)]
      have frv4 : ∀ k : Nat, (k < 31 ∨ 44 < k) → v4 k = vi k := fun k hk => by rw [hv4, xu_c _ _ _ _ (by omega)]
      refine vx_aload_n hC 0 rfl eX12_toss_37 ?_
      refine vx_gr hC 1 (ot_31 hO) lf_X12_9 rfl (or_31_1 hO) eX12_toss_38 ?_
      refine vx_iconst hC eX12_toss_41 ?_
      refine vx_dup2 hC rfl rfl eX12_toss_42 ?_
      refine vx_iaload hC (ot_32 hO) (by omega) (by omega) eX12_toss_43 ?_
      refine vx_eqi (congrFun hv4_32 _) ?_
      refine vx_eqi (y := vi 32 2) (by subst_vars; rw [fu_n _ _ _ (by omega)]) ?_
      refine vx_iconst hC eX12_toss_44 ?_
      refine vx_iadd hC eX12_toss_45 ?_
      refine vx_top (fun x6 hx6 => ?_)
      refine vx_iastore hC (ot_32 hO) (by omega) (by omega) eX12_toss_46 ?_
      refine vx_vi (fun v7 hv7 => ?_)
      obtain ⟨f8, hf8⟩ : ∃ f, f = fu (f5) 2 x6 := ⟨_, rfl⟩
      have hv7_32 : v7 32 = f8 := by rw [hv7, hf8, xu_k, hv4_32]
      have hv7_33 : v7 33 = vi 33 := by rw [hv7, xu_c _ _ _ _ (by decide), hv4_33]
      have hv7_31_3 : v7 31 3 = vi 31 3 := by rw [hv7, xu_c _ _ _ _ (by decide), hv4_31_3]
      have hv7_31_22 : v7 31 22 = vi 31 22 := by rw [hv7, xu_c _ _ _ _ (by decide), hv4_31_22]
      have hv7_44 : v7 44 = vi 44 := by rw [hv7, xu_c _ _ _ _ (by decide), hv4_44]
      have frv7 : ∀ k : Nat, (k < 31 ∨ 44 < k) → v7 k = vi k := fun k hk => by rw [hv7, xu_c _ _ _ _ (by omega)]; exact frv4 k hk
      refine vx_aload_n hC 0 rfl eX12_toss_47 ?_
      refine vx_gr hC 1 (ot_31 hO) lf_X12_9 rfl (or_31_1 hO) eX12_toss_48 ?_
      refine vx_iconst hC eX12_toss_51 ?_
      refine vx_iaload hC (ot_32 hO) (by omega) (by omega) eX12_toss_52 ?_
      refine vx_eqi (congrFun hv7_32 _) ?_
      refine vx_eqi (y := vi 32 2 + 1) (by subst_vars; rw [fu_s]) ?_
      exact vx_iret hC hM rfl eX12_toss_53 (⟨_, rfl, by subst_vars; unfold sp_toss; (repeat (first | rw [if_pos (by omega)] | rw [if_neg (by omega)])); all_goals (first | rfl | omega), rfl, rfl, rfl, (by subst_vars; unfold sp_toss; (repeat (first | rw [if_pos (by omega)] | rw [if_neg (by omega)])); all_goals (first | rfl | exact hv7_32)), hv7_33, hv7_31_3, hv7_31_22, hv7_44, fun k hk => ⟨frv7 k hk, rfl⟩⟩)
    · refine vx_iconst hC eX12_toss_31 ?_
      obtain rfl : x = 1 := by omega
      refine vx_goto hC (tgt := 36) (by decide) eX12_toss_32 ?_
      refine vx_top2 (fun x9 hx9 => ?_)
      refine vx_iastore hC (ot_32 hO) (by omega) (by omega) eX12_toss_36 ?_
      refine vx_vi (fun v10 hv10 => ?_)
      obtain ⟨f11, hf11⟩ : ∃ f, f = fu (vi 32) x9 1 := ⟨_, rfl⟩
      have hv10_32 : v10 32 = f11 := by rw [hv10, hf11, xu_k]
      have hv10_33 : v10 33 = vi 33 := by rw [hv10, xu_c _ _ _ _ (by decide)]
      have hv10_31_3 : v10 31 3 = vi 31 3 := by rw [hv10, xu_c _ _ _ _ (by decide)]
      have hv10_31_22 : v10 31 22 = vi 31 22 := by rw [hv10, xu_c _ _ _ _ (by decide)]
      have hv10_44 : v10 44 = vi 44 := by rw [hv10, xu_c _ _ _ _ (by decide)]
      have frv10 : ∀ k : Nat, (k < 31 ∨ 44 < k) → v10 k = vi k := fun k hk => by rw [hv10, xu_c _ _ _ _ (by omega)]
      refine vx_aload_n hC 0 rfl eX12_toss_37 ?_
      refine vx_gr hC 1 (ot_31 hO) lf_X12_9 rfl (or_31_1 hO) eX12_toss_38 ?_
      refine vx_iconst hC eX12_toss_41 ?_
      refine vx_dup2 hC rfl rfl eX12_toss_42 ?_
      refine vx_iaload hC (ot_32 hO) (by omega) (by omega) eX12_toss_43 ?_
      refine vx_eqi (congrFun hv10_32 _) ?_
      refine vx_eqi (y := vi 32 2) (by subst_vars; rw [fu_n _ _ _ (by omega)]) ?_
      refine vx_iconst hC eX12_toss_44 ?_
      refine vx_iadd hC eX12_toss_45 ?_
      refine vx_top (fun x12 hx12 => ?_)
      refine vx_iastore hC (ot_32 hO) (by omega) (by omega) eX12_toss_46 ?_
      refine vx_vi (fun v13 hv13 => ?_)
      obtain ⟨f14, hf14⟩ : ∃ f, f = fu (f11) 2 x12 := ⟨_, rfl⟩
      have hv13_32 : v13 32 = f14 := by rw [hv13, hf14, xu_k, hv10_32]
      have hv13_33 : v13 33 = vi 33 := by rw [hv13, xu_c _ _ _ _ (by decide), hv10_33]
      have hv13_31_3 : v13 31 3 = vi 31 3 := by rw [hv13, xu_c _ _ _ _ (by decide), hv10_31_3]
      have hv13_31_22 : v13 31 22 = vi 31 22 := by rw [hv13, xu_c _ _ _ _ (by decide), hv10_31_22]
      have hv13_44 : v13 44 = vi 44 := by rw [hv13, xu_c _ _ _ _ (by decide), hv10_44]
      have frv13 : ∀ k : Nat, (k < 31 ∨ 44 < k) → v13 k = vi k := fun k hk => by rw [hv13, xu_c _ _ _ _ (by omega)]; exact frv10 k hk
      refine vx_aload_n hC 0 rfl eX12_toss_47 ?_
      refine vx_gr hC 1 (ot_31 hO) lf_X12_9 rfl (or_31_1 hO) eX12_toss_48 ?_
      refine vx_iconst hC eX12_toss_51 ?_
      refine vx_iaload hC (ot_32 hO) (by omega) (by omega) eX12_toss_52 ?_
      refine vx_eqi (congrFun hv13_32 _) ?_
      refine vx_eqi (y := vi 32 2 + 1) (by subst_vars; rw [fu_s]) ?_
      exact vx_iret hC hM rfl eX12_toss_53 (⟨_, rfl, by subst_vars; unfold sp_toss; (repeat (first | rw [if_pos (by omega)] | rw [if_neg (by omega)])); all_goals (first | rfl | omega), rfl, rfl, rfl, (by subst_vars; unfold sp_toss; (repeat (first | rw [if_pos (by omega)] | rw [if_neg (by omega)])); all_goals (first | rfl | exact hv13_32)), hv13_33, hv13_31_3, hv13_31_22, hv13_44, fun k hk => ⟨frv13 k hk, rfl⟩⟩)
  · refine vx_bipush hC (by decide) eX12_toss_11 ?_
    exact vx_iret hC hM rfl eX12_toss_13 (⟨_, rfl, by subst_vars; unfold sp_toss; (repeat (first | rw [if_pos (by omega)] | rw [if_neg (by omega)])); all_goals (first | rfl | omega), rfl, rfl, rfl, (by subst_vars; unfold sp_toss; (repeat (first | rw [if_pos (by omega)] | rw [if_neg (by omega)])); all_goals (rfl)), rfl, rfl, rfl, rfl, fun k hk => ⟨rfl, rfl⟩⟩)
def sp_clear (s : Int → Int) : Int × (Int → Int) := (s 2, fu s 2 0)
set_option maxHeartbeats 4000000 in
set_option maxRecDepth 100000 in
theorem kX12_clear (G : xg_T) (d : Nat) (n : Nat) (tau : Nat → Nat × Nat) (vi vl : Nat → Int → Int) (vr : Nat → Int → Option Nat) (hI : MI n tau vi vr)  : xm G yX12_clear cX12_clear 2 (some .int) (d + 1) 0 0 [xa_r 31] n tau vi vl vr (xp_i (fun z9 n1 t1 a1 b1 c1 => z9 = (sp_clear (vi 32)).1 ∧ mq ((sp_clear (vi 32)).2) (vi 33) (vi 31 3) (vi 31 22) (vi 44) n tau vi vl vr n1 t1 a1 b1 c1)) := by
  refine xm.of (lv := [(0, xa_r 31)]) (by decide) (Nat.le_of_ble_eq_true rfl) rfl (fun K hC hM hRm => ?_)
  obtain ⟨hO, ⟨⟨hr, h0, h1, h2, h3, h4, h5, h6, hp0, hrow, hwon, htape, htab⟩, h60⟩, him, hran, hz1, hz2⟩ := hI
  refine vx_aload_n hC 0 rfl eX12_clear_0 ?_
  refine vx_gr hC 1 (ot_31 hO) lf_X12_9 rfl (or_31_1 hO) eX12_clear_1 ?_
  refine vx_iconst hC eX12_clear_4 ?_
  refine vx_iaload hC (ot_32 hO) (by omega) (by omega) eX12_clear_5 ?_
  refine vx_top (fun x1 hx1 => ?_)
  refine vx_istore_n hC (lv1 := [(1, xa_i x1), (0, xa_r 31)]) (by decide) rfl eX12_clear_6 ?_
  refine vx_aload_n hC 1 rfl eX12_clear_7 ?_
  refine vx_gr hC 1 (ot_31 hO) lf_X12_9 rfl (or_31_1 hO) eX12_clear_8 ?_
  refine vx_iconst hC eX12_clear_11 ?_
  refine vx_iconst hC eX12_clear_12 ?_
  refine vx_iastore hC (ot_32 hO) (by omega) (by omega) eX12_clear_13 ?_
  refine vx_vi (fun v2 hv2 => ?_)
  obtain ⟨f3, hf3⟩ : ∃ f, f = fu (vi 32) 2 0 := ⟨_, rfl⟩
  have hv2_32 : v2 32 = f3 := by rw [hv2, hf3, xu_k]
  have hv2_33 : v2 33 = vi 33 := by rw [hv2, xu_c _ _ _ _ (by decide)]
  have hv2_31_3 : v2 31 3 = vi 31 3 := by rw [hv2, xu_c _ _ _ _ (by decide)]
  have hv2_31_22 : v2 31 22 = vi 31 22 := by rw [hv2, xu_c _ _ _ _ (by decide)]
  have hv2_44 : v2 44 = vi 44 := by rw [hv2, xu_c _ _ _ _ (by decide)]
  have frv2 : ∀ k : Nat, (k < 31 ∨ 44 < k) → v2 k = vi k := fun k hk => by rw [hv2, xu_c _ _ _ _ (by omega)]
  refine vx_iload_n hC 0 rfl eX12_clear_14 ?_
  exact vx_iret hC hM rfl eX12_clear_15 (⟨_, rfl, by subst_vars; unfold sp_clear; (repeat (first | rw [if_pos (by omega)] | rw [if_neg (by omega)])); all_goals (first | rfl | omega), rfl, rfl, rfl, (by subst_vars; unfold sp_clear; (repeat (first | rw [if_pos (by omega)] | rw [if_neg (by omega)])); all_goals (first | rfl | exact hv2_32)), hv2_33, hv2_31_3, hv2_31_22, hv2_44, fun k hk => ⟨frv2 k hk, rfl⟩⟩)
def sp_count (s : Int → Int) (ran x : Int) : Int := if x = 0 then s 0 else if x = 1 then s 1 else if x = 2 then s 2 else if x = 3 then s 3 else if x = 4 then ran else -1
set_option maxHeartbeats 4000000 in
set_option maxRecDepth 100000 in
theorem kX12_count (G : xg_T) (d : Nat) (n : Nat) (tau : Nat → Nat × Nat) (vi vl : Nat → Int → Int) (vr : Nat → Int → Option Nat) (hI : MI n tau vi vr) (x : Int) (hx : -2147483648 ≤ x ∧ x < 2147483648) : xm G yX12_count cX12_count 2 (some .int) (d + 1) 0 0 [xa_r 31, xa_i x] n tau vi vl vr (xp_i (fun z9 n1 t1 a1 b1 c1 => z9 = sp_count (vi 32) (vi 31 22) x ∧ mq (vi 32) (vi 33) (vi 31 3) (vi 31 22) (vi 44) n tau vi vl vr n1 t1 a1 b1 c1)) := by
  refine xm.of (lv := [(0, xa_r 31), (1, xa_i x)]) (by decide) (Nat.le_of_ble_eq_true rfl) rfl (fun K hC hM hRm => ?_)
  obtain ⟨hO, ⟨⟨hr, h0, h1, h2, h3, h4, h5, h6, hp0, hrow, hwon, htape, htab⟩, h60⟩, him, hran, hz1, hz2⟩ := hI
  refine vx_iload_n hC 1 rfl eX12_count_0 ?_
  rcases (show x = 0 ∨ x = 1 ∨ x = 2 ∨ x = 3 ∨ x = 4 ∨ (¬ x = 0 ∧ ¬ x = 1 ∧ ¬ x = 2 ∧ ¬ x = 3 ∧ ¬ x = 4) by omega) with c1 | c1 | c1 | c1 | c1 | c1
  · refine vx_tableIn hC (tgt := 36) (by omega) (by omega) (by rw [c1]; rfl) (by decide) eX12_count_1 ?_
    refine vx_aload_n hC 0 rfl eX12_count_36 ?_
    refine vx_gr hC 1 (ot_31 hO) lf_X12_9 rfl (or_31_1 hO) eX12_count_37 ?_
    refine vx_iconst hC eX12_count_40 ?_
    refine vx_iaload hC (ot_32 hO) (by omega) (by omega) eX12_count_41 ?_
    exact vx_iret hC hM rfl eX12_count_42 (⟨_, rfl, by subst_vars; unfold sp_count; (repeat (first | rw [if_pos (by omega)] | rw [if_neg (by omega)])); all_goals (first | rfl | omega), rfl, rfl, rfl, rfl, rfl, rfl, rfl, rfl, fun k hk => ⟨rfl, rfl⟩⟩)
  · refine vx_tableIn hC (tgt := 43) (by omega) (by omega) (by rw [c1]; rfl) (by decide) eX12_count_1 ?_
    refine vx_aload_n hC 0 rfl eX12_count_43 ?_
    refine vx_gr hC 1 (ot_31 hO) lf_X12_9 rfl (or_31_1 hO) eX12_count_44 ?_
    refine vx_iconst hC eX12_count_47 ?_
    refine vx_iaload hC (ot_32 hO) (by omega) (by omega) eX12_count_48 ?_
    exact vx_iret hC hM rfl eX12_count_49 (⟨_, rfl, by subst_vars; unfold sp_count; (repeat (first | rw [if_pos (by omega)] | rw [if_neg (by omega)])); all_goals (first | rfl | omega), rfl, rfl, rfl, rfl, rfl, rfl, rfl, rfl, fun k hk => ⟨rfl, rfl⟩⟩)
  · refine vx_tableIn hC (tgt := 50) (by omega) (by omega) (by rw [c1]; rfl) (by decide) eX12_count_1 ?_
    refine vx_aload_n hC 0 rfl eX12_count_50 ?_
    refine vx_gr hC 1 (ot_31 hO) lf_X12_9 rfl (or_31_1 hO) eX12_count_51 ?_
    refine vx_iconst hC eX12_count_54 ?_
    refine vx_iaload hC (ot_32 hO) (by omega) (by omega) eX12_count_55 ?_
    exact vx_iret hC hM rfl eX12_count_56 (⟨_, rfl, by subst_vars; unfold sp_count; (repeat (first | rw [if_pos (by omega)] | rw [if_neg (by omega)])); all_goals (first | rfl | omega), rfl, rfl, rfl, rfl, rfl, rfl, rfl, rfl, fun k hk => ⟨rfl, rfl⟩⟩)
  · refine vx_tableIn hC (tgt := 57) (by omega) (by omega) (by rw [c1]; rfl) (by decide) eX12_count_1 ?_
    refine vx_aload_n hC 0 rfl eX12_count_57 ?_
    refine vx_gr hC 1 (ot_31 hO) lf_X12_9 rfl (or_31_1 hO) eX12_count_58 ?_
    refine vx_iconst hC eX12_count_61 ?_
    refine vx_iaload hC (ot_32 hO) (by omega) (by omega) eX12_count_62 ?_
    exact vx_iret hC hM rfl eX12_count_63 (⟨_, rfl, by subst_vars; unfold sp_count; (repeat (first | rw [if_pos (by omega)] | rw [if_neg (by omega)])); all_goals (first | rfl | omega), rfl, rfl, rfl, rfl, rfl, rfl, rfl, rfl, fun k hk => ⟨rfl, rfl⟩⟩)
  · refine vx_tableIn hC (tgt := 64) (by omega) (by omega) (by rw [c1]; rfl) (by decide) eX12_count_1 ?_
    refine vx_aload_n hC 0 rfl eX12_count_64 ?_
    refine vx_gi hC 22 (ot_31 hO) lf_X12_219 rfl eX12_count_65 ?_
    exact vx_iret hC hM rfl eX12_count_68 (⟨_, rfl, by subst_vars; unfold sp_count; (repeat (first | rw [if_pos (by omega)] | rw [if_neg (by omega)])); all_goals (first | rfl | omega), rfl, rfl, rfl, rfl, rfl, rfl, rfl, rfl, fun k hk => ⟨rfl, rfl⟩⟩)
  · refine vx_tableOut hC (tgt := 69) (by omega) (by omega) (by decide) eX12_count_1 ?_
    refine vx_iconst hC eX12_count_69 ?_
    exact vx_iret hC hM rfl eX12_count_70 (⟨_, rfl, by subst_vars; unfold sp_count; (repeat (first | rw [if_pos (by omega)] | rw [if_neg (by omega)])); all_goals (first | rfl | omega), rfl, rfl, rfl, rfl, rfl, rfl, rfl, rfl, fun k hk => ⟨rfl, rfl⟩⟩)
def sp_trace (bod : Int → Int) (ran x : Int) : Int := if 0 ≤ x ∧ x < ran then bod x else -1
set_option maxHeartbeats 4000000 in
set_option maxRecDepth 100000 in
theorem kX12_trace (G : xg_T) (d : Nat) (n : Nat) (tau : Nat → Nat × Nat) (vi vl : Nat → Int → Int) (vr : Nat → Int → Option Nat) (hI : MI n tau vi vr) (x : Int) (hx : -2147483648 ≤ x ∧ x < 2147483648) : xm G yX12_trace cX12_trace 2 (some .int) (d + 2) 0 0 [xa_r 31, xa_i x] n tau vi vl vr (xp_i (fun z9 n1 t1 a1 b1 c1 => z9 = sp_trace (vi 44) (vi 31 22) x ∧ mq (vi 32) (vi 33) (vi 31 3) (vi 31 22) (vi 44) n tau vi vl vr n1 t1 a1 b1 c1)) := by
  refine xm.of (lv := [(0, xa_r 31), (1, xa_i x)]) (by decide) (Nat.le_of_ble_eq_true rfl) rfl (fun K hC hM hRm => ?_)
  obtain ⟨hO, ⟨⟨hr, h0, h1, h2, h3, h4, h5, h6, hp0, hrow, hwon, htape, htab⟩, h60⟩, him, hran, hz1, hz2⟩ := hI
  refine vx_iload_n hC 1 rfl eX12_trace_0 ?_
  refine vx_iconst hC eX12_trace_1 ?_
  refine vx_aload_n hC 0 rfl eX12_trace_2 ?_
  refine vx_gi hC 22 (ot_31 hO) lf_X12_219 rfl eX12_trace_3 ?_
  refine vx_bipush hC (by decide) eX12_trace_6 ?_
  refine vx_icmp_ge hC (tgt := 18) (by omega) (by decide) eX12_trace_8 (fun c1 => ?_) (fun c1 => ?_)
  · refine vx_bipush hC (by decide) eX12_trace_18 ?_
    refine vx_iconst hC eX12_trace_20 ?_
    refine vx_isub hC eX12_trace_21 ?_
    refine vx_callS_i hC (kX12_in G d _ _ _ _ _ _ _ _ (by omega) (by omega) (by omega)) ly_X12_57 rfl hRm (by omega) (Nat.le_of_ble_eq_true rfl) rfl eX12_trace_22 (fun x2 n9 t9 a9 b9 c9 hx2 => ?_)
    obtain ⟨hx2, rfl, rfl, rfl, rfl, rfl⟩ := hx2
    refine vx_if_eq hC (tgt := 37) (by omega) (by decide) eX12_trace_25 (fun c3 => ?_) (fun c3 => ?_)
    · refine vx_iconst hC eX12_trace_37 ?_
      exact vx_iret hC hM rfl eX12_trace_38 (⟨_, rfl, by subst_vars; unfold sp_trace; (repeat (first | rw [if_pos (by omega)] | rw [if_neg (by omega)])); all_goals (first | rfl | omega), rfl, rfl, rfl, rfl, rfl, rfl, rfl, rfl, fun k hk => ⟨rfl, rfl⟩⟩)
    · refine vx_aload_n hC 0 rfl eX12_trace_28 ?_
      refine vx_gr hC 21 (ot_31 hO) lf_X12_50 rfl (or_31_21 hO) eX12_trace_29 ?_
      refine vx_iload_n hC 1 rfl eX12_trace_32 ?_
      refine vx_iaload hC (ot_44 hO) (by omega) (by omega) eX12_trace_33 ?_
      refine vx_goto hC (tgt := 38) (by decide) eX12_trace_34 ?_
      exact vx_iret hC hM rfl eX12_trace_38 (⟨_, rfl, by subst_vars; unfold sp_trace; (repeat (first | rw [if_pos (by omega)] | rw [if_neg (by omega)])); all_goals (first | rfl | omega), rfl, rfl, rfl, rfl, rfl, rfl, rfl, rfl, fun k hk => ⟨rfl, rfl⟩⟩)
  · refine vx_aload_n hC 0 rfl eX12_trace_11 ?_
    refine vx_gi hC 22 (ot_31 hO) lf_X12_219 rfl eX12_trace_12 ?_
    refine vx_goto hC (tgt := 20) (by decide) eX12_trace_15 ?_
    refine vx_iconst hC eX12_trace_20 ?_
    refine vx_isub hC eX12_trace_21 ?_
    refine vx_callS_i hC (kX12_in G d _ _ _ _ _ _ _ _ (by omega) (by omega) (by omega)) ly_X12_57 rfl hRm (by omega) (Nat.le_of_ble_eq_true rfl) rfl eX12_trace_22 (fun x4 n9 t9 a9 b9 c9 hx4 => ?_)
    obtain ⟨hx4, rfl, rfl, rfl, rfl, rfl⟩ := hx4
    refine vx_if_eq hC (tgt := 37) (by omega) (by decide) eX12_trace_25 (fun c5 => ?_) (fun c5 => ?_)
    · refine vx_iconst hC eX12_trace_37 ?_
      exact vx_iret hC hM rfl eX12_trace_38 (⟨_, rfl, by subst_vars; unfold sp_trace; (repeat (first | rw [if_pos (by omega)] | rw [if_neg (by omega)])); all_goals (first | rfl | omega), rfl, rfl, rfl, rfl, rfl, rfl, rfl, rfl, fun k hk => ⟨rfl, rfl⟩⟩)
    · refine vx_aload_n hC 0 rfl eX12_trace_28 ?_
      refine vx_gr hC 21 (ot_31 hO) lf_X12_50 rfl (or_31_21 hO) eX12_trace_29 ?_
      refine vx_iload_n hC 1 rfl eX12_trace_32 ?_
      refine vx_iaload hC (ot_44 hO) (by omega) (by omega) eX12_trace_33 ?_
      refine vx_goto hC (tgt := 38) (by decide) eX12_trace_34 ?_
      exact vx_iret hC hM rfl eX12_trace_38 (⟨_, rfl, by subst_vars; unfold sp_trace; (repeat (first | rw [if_pos (by omega)] | rw [if_neg (by omega)])); all_goals (first | rfl | omega), rfl, rfl, rfl, rfl, rfl, rfl, rfl, rfl, fun k hk => ⟨rfl, rfl⟩⟩)
def mz_under (kind k : Int) : Prop := k = 0 ∨ k = kind ∨ (0 < k ∧ k < 4 ∧ kind = k + 3)
set_option maxHeartbeats 4000000 in
set_option maxRecDepth 100000 in
theorem kX12_isUnder (G : xg_T) (d : Nat) (n : Nat) (tau : Nat → Nat × Nat) (vi vl : Nat → Int → Int) (vr : Nat → Int → Option Nat) (x k : Int) (hx : -2147483648 ≤ x ∧ x < 2147483648) (hk : -2147483648 ≤ k ∧ k < 2147483648) : xm G yX12_isUnder cX12_isUnder 2 (some .boolean) (d + 1) 0 0 [xa_i x, xa_i k] n tau vi vl vr (xp_i (fun z9 n1 t1 a1 b1 c1 => ((z9 = 1 ∧ (k = 0 ∨ k = x ∨ (0 < k ∧ k < 4 ∧ x = k + 3))) ∨ (z9 = 0 ∧ ¬ (k = 0 ∨ k = x ∨ (0 < k ∧ k < 4 ∧ x = k + 3)))) ∧ xs_0 n tau vi vl vr n1 t1 a1 b1 c1)) := by
  refine xm.of (lv := [(0, xa_i x), (1, xa_i k)]) (by decide) (Nat.le_of_ble_eq_true rfl) rfl (fun K hC hM hRm => ?_)
  refine vx_iload_n hC 1 rfl eX12_isUnder_0 ?_
  refine vx_if_eq hC (tgt := 25) (by omega) (by decide) eX12_isUnder_1 (fun c1 => ?_) (fun c1 => ?_)
  · refine vx_iconst hC eX12_isUnder_25 ?_
    refine vx_goto hC (tgt := 30) (by decide) eX12_isUnder_26 ?_
    exact vx_iret hC hM (by decide) eX12_isUnder_30 (⟨_, rfl, by omega, xs_0.rf _ _ _ _ _⟩)
  · refine vx_iload_n hC 1 rfl eX12_isUnder_4 ?_
    refine vx_iload_n hC 0 rfl eX12_isUnder_5 ?_
    refine vx_icmp_eq hC (tgt := 25) (by omega) (by decide) eX12_isUnder_6 (fun c2 => ?_) (fun c2 => ?_)
    · refine vx_iconst hC eX12_isUnder_25 ?_
      refine vx_goto hC (tgt := 30) (by decide) eX12_isUnder_26 ?_
      exact vx_iret hC hM (by decide) eX12_isUnder_30 (⟨_, rfl, by omega, xs_0.rf _ _ _ _ _⟩)
    · refine vx_iload_n hC 1 rfl eX12_isUnder_9 ?_
      refine vx_if_le hC (tgt := 29) (by omega) (by decide) eX12_isUnder_10 (fun c3 => ?_) (fun c3 => ?_)
      · refine vx_iconst hC eX12_isUnder_29 ?_
        exact vx_iret hC hM (by decide) eX12_isUnder_30 (⟨_, rfl, by omega, xs_0.rf _ _ _ _ _⟩)
      · refine vx_iload_n hC 1 rfl eX12_isUnder_13 ?_
        refine vx_iconst hC eX12_isUnder_14 ?_
        refine vx_icmp_ge hC (tgt := 29) (by omega) (by decide) eX12_isUnder_15 (fun c4 => ?_) (fun c4 => ?_)
        · refine vx_iconst hC eX12_isUnder_29 ?_
          exact vx_iret hC hM (by decide) eX12_isUnder_30 (⟨_, rfl, by omega, xs_0.rf _ _ _ _ _⟩)
        · refine vx_iload_n hC 0 rfl eX12_isUnder_18 ?_
          refine vx_iload_n hC 1 rfl eX12_isUnder_19 ?_
          refine vx_iconst hC eX12_isUnder_20 ?_
          refine vx_iadd hC eX12_isUnder_21 ?_
          refine vx_icmp_ne hC (tgt := 29) (by omega) (by decide) eX12_isUnder_22 (fun c5 => ?_) (fun c5 => ?_)
          · refine vx_iconst hC eX12_isUnder_29 ?_
            exact vx_iret hC hM (by decide) eX12_isUnder_30 (⟨_, rfl, by omega, xs_0.rf _ _ _ _ _⟩)
          · refine vx_iconst hC eX12_isUnder_25 ?_
            refine vx_goto hC (tgt := 30) (by decide) eX12_isUnder_26 ?_
            exact vx_iret hC hM (by decide) eX12_isUnder_30 (⟨_, rfl, by omega, xs_0.rf _ _ _ _ _⟩)
def sp_as (s : Int → Int) (q k : Int) : Int := if q < 0 ∨ s 0 ≤ q ∨ k < 0 ∨ 6 < k then -1 else if k = 0 ∨ k = s (10 + q) ∨ (0 < k ∧ k < 4 ∧ s (10 + q) = k + 3) then s (14 + q) else -6
set_option maxHeartbeats 4000000 in
set_option maxRecDepth 100000 in
theorem kX12_as (G : xg_T) (d : Nat) (n : Nat) (tau : Nat → Nat × Nat) (vi vl : Nat → Int → Int) (vr : Nat → Int → Option Nat) (hI : MI n tau vi vr) (q k : Int) (hq : -2147483648 ≤ q ∧ q < 2147483648) (hk : -2147483648 ≤ k ∧ k < 2147483648) : xm G yX12_as cX12_as 3 (some .int) (d + 3) 0 0 [xa_r 31, xa_i q, xa_i k] n tau vi vl vr (xp_i (fun z9 n1 t1 a1 b1 c1 => z9 = sp_as (vi 32) q k ∧ mq (vi 32) (vi 33) (vi 31 3) (vi 31 22) (vi 44) n tau vi vl vr n1 t1 a1 b1 c1)) := by
  refine xm.of (lv := [(0, xa_r 31), (1, xa_i q), (2, xa_i k)]) (by decide) (Nat.le_of_ble_eq_true rfl) rfl (fun K hC hM hRm => ?_)
  obtain ⟨hO, ⟨⟨hr, h0, h1, h2, h3, h4, h5, h6, hp0, hrow, hwon, htape, htab⟩, h60⟩, him, hran, hz1, hz2⟩ := hI
  have g1 := hr (10 + q)
  have g2 := hr (14 + q)
  refine vx_aload_n hC 0 rfl eX12_as_0 ?_
  refine vx_iload_n hC 1 rfl eX12_as_1 ?_
  refine vx_callV_i hC (kX12_isPlayer G d _ _ _ _ _ hO (vi 32) rfl _ (by omega) (by omega)) ly_X12_140 (ot_31 hO) rfl rfl rfl hRm (by omega) (Nat.le_of_ble_eq_true rfl) rfl eX12_as_2 (fun x1 n9 t9 a9 b9 c9 hx1 => ?_)
  obtain ⟨hx1, rfl, rfl, rfl, rfl, rfl⟩ := hx1
  refine vx_if_eq hC (tgt := 18) (by omega) (by decide) eX12_as_5 (fun c2 => ?_) (fun c2 => ?_)
  · refine vx_iconst hC eX12_as_18 ?_
    exact vx_iret hC hM rfl eX12_as_19 (⟨_, rfl, by subst_vars; unfold sp_as; (repeat (first | rw [if_pos (by omega)] | rw [if_neg (by omega)])); all_goals (first | rfl | omega), rfl, rfl, rfl, rfl, rfl, rfl, rfl, rfl, fun k hk => ⟨rfl, rfl⟩⟩)
  · refine vx_iload_n hC 2 rfl eX12_as_8 ?_
    refine vx_iconst hC eX12_as_9 ?_
    refine vx_bipush hC (by decide) eX12_as_10 ?_
    refine vx_callS_i hC (kX12_in G (d + 1) _ _ _ _ _ _ _ _ (by omega) (by omega) (by omega)) ly_X12_57 rfl hRm (by omega) (Nat.le_of_ble_eq_true rfl) rfl eX12_as_12 (fun x3 n9 t9 a9 b9 c9 hx3 => ?_)
    obtain ⟨hx3, rfl, rfl, rfl, rfl, rfl⟩ := hx3
    refine vx_if_ne hC (tgt := 20) (by omega) (by decide) eX12_as_15 (fun c4 => ?_) (fun c4 => ?_)
    · refine vx_aload_n hC 0 rfl eX12_as_20 ?_
      refine vx_gr hC 1 (ot_31 hO) lf_X12_9 rfl (or_31_1 hO) eX12_as_21 ?_
      refine vx_bipush hC (by decide) eX12_as_24 ?_
      refine vx_iload_n hC 1 rfl eX12_as_26 ?_
      refine vx_iadd hC eX12_as_27 ?_
      refine vx_iaload hC (ot_32 hO) (by omega) (by omega) eX12_as_28 ?_
      refine vx_iload_n hC 2 rfl eX12_as_29 ?_
      refine vx_callS_i hC (kX12_isUnder G (d + 1) _ _ _ _ _ _ _ (by omega) (by omega)) ly_X12_231 rfl hRm (by omega) (Nat.le_of_ble_eq_true rfl) rfl eX12_as_30 (fun x5 n9 t9 a9 b9 c9 hx5 => ?_)
      obtain ⟨hx5, rfl, rfl, rfl, rfl, rfl⟩ := hx5
      refine vx_if_eq hC (tgt := 48) (by omega) (by decide) eX12_as_33 (fun c6 => ?_) (fun c6 => ?_)
      · refine vx_bipush hC (by decide) eX12_as_48 ?_
        exact vx_iret hC hM rfl eX12_as_50 (⟨_, rfl, by subst_vars; unfold sp_as; (repeat (first | rw [if_pos (by omega)] | rw [if_neg (by omega)])); all_goals (first | rfl | omega), rfl, rfl, rfl, rfl, rfl, rfl, rfl, rfl, fun k hk => ⟨rfl, rfl⟩⟩)
      · refine vx_aload_n hC 0 rfl eX12_as_36 ?_
        refine vx_gr hC 1 (ot_31 hO) lf_X12_9 rfl (or_31_1 hO) eX12_as_37 ?_
        refine vx_bipush hC (by decide) eX12_as_40 ?_
        refine vx_iload_n hC 1 rfl eX12_as_42 ?_
        refine vx_iadd hC eX12_as_43 ?_
        refine vx_iaload hC (ot_32 hO) (by omega) (by omega) eX12_as_44 ?_
        refine vx_goto hC (tgt := 50) (by decide) eX12_as_45 ?_
        exact vx_iret hC hM rfl eX12_as_50 (⟨_, rfl, by subst_vars; unfold sp_as; (repeat (first | rw [if_pos (by omega)] | rw [if_neg (by omega)])); all_goals (first | rfl | omega), rfl, rfl, rfl, rfl, rfl, rfl, rfl, rfl, fun k hk => ⟨rfl, rfl⟩⟩)
    · refine vx_iconst hC eX12_as_18 ?_
      exact vx_iret hC hM rfl eX12_as_19 (⟨_, rfl, by subst_vars; unfold sp_as; (repeat (first | rw [if_pos (by omega)] | rw [if_neg (by omega)])); all_goals (first | rfl | omega), rfl, rfl, rfl, rfl, rfl, rfl, rfl, rfl, fun k hk => ⟨rfl, rfl⟩⟩)
/-- a row whose first k places are another's -/
def fc (f g : Int → Int) (k : Int) : Int → Int := fun z => if 0 ≤ z ∧ z < k then f z else g z
theorem fc_0 (f g : Int → Int) : fc f g 0 = g := by funext z; unfold fc; rw [if_neg (by omega)]
theorem fc_s (f g : Int → Int) {k : Int} (h : 0 ≤ k) : fu (fc f g k) k (f k) = fc f g (k + 1) := by
  funext z; unfold fu fc
  by_cases e : z = k
  · subst e; rw [if_pos rfl, if_pos (by omega)]
  · rw [if_neg e]
    by_cases h2 : 0 ≤ z ∧ z < k
    · rw [if_pos h2, if_pos (by omega)]
    · rw [if_neg h2, if_neg (by omega)]
theorem fc_all {f g : Int → Int} (h1 : ms_O f) (h2 : ms_O g) : fc f g 876 = f := by
  funext z; unfold fc
  by_cases h : 0 ≤ z ∧ z < 876
  · rw [if_pos h]
  · rw [if_neg h, h1 z (by omega), h2 z (by omega)]
set_option maxHeartbeats 4000000 in
set_option maxRecDepth 100000 in
theorem kX12_image (G : xg_T) (d : Nat) (n : Nat) (tau : Nat → Nat × Nat) (vi vl : Nat → Int → Int) (vr : Nat → Int → Option Nat) (hI : MI n tau vi vr)  : xm G yX12_image cX12_image 2 (some .int) (d + 1) 0 0 [xa_r 31] n tau vi vl vr (xp_i (fun z9 n1 t1 a1 b1 c1 => z9 = vi 32 0 ∧ mq (vi 32) (vi 32) (1) (vi 31 22) (vi 44) n tau vi vl vr n1 t1 a1 b1 c1)) := by
  refine xm.of (lv := [(0, xa_r 31)]) (by decide) (Nat.le_of_ble_eq_true rfl) rfl (fun K hC hM hRm => ?_)
  obtain ⟨hO, ⟨⟨hr, h0, h1, h2, h3, h4, h5, h6, hp0, hrow, hwon, htape, htab⟩, h60⟩, him, hran, hz1, hz2⟩ := hI
  refine vx_iconst hC eX12_image_0 ?_
  refine vx_istore_n hC (lv1 := [(1, xa_i 0), (0, xa_r 31)]) (by decide) rfl eX12_image_1 ?_
  have LP2 : ∀ (j : Nat) (k : Int) (m2 : Nat → Int → Int) (hk : 0 ≤ k ∧ k ≤ 876) (e1 : m2 32 = vi 32) (e2 : m2 33 = fc (vi 32) (vi 33) k) (e3 : m2 31 3 = vi 31 3) (e4 : m2 31 22 = vi 31 22) (e5 : m2 44 = vi 44) (fr2 : ∀ q : Nat, q < 31 ∨ 44 < q → m2 q = vi q) (hj : 876 - k < (j : Int)), xv G K 2 (xk_Q G K (xp_i (fun z9 n1 t1 a1 b1 c1 => z9 = vi 32 0 ∧ mq (vi 32) (vi 32) (1) (vi 31 22) (vi 44) n tau vi vl vr n1 t1 a1 b1 c1)) 0 0) 0 0 n tau m2 vl vr 2 [(1, xa_i k), (0, xa_r 31)] [] := by
    intro j
    induction j with
    | zero => intro k m2 hk e1 e2 e3 e4 e5 fr2 hj; exfalso; omega
    | succ j ih =>
      intro k m2 hk e1 e2 e3 e4 e5 fr2 hj
      refine vx_iload_n hC 0 rfl eX12_image_2 ?_
      refine vx_sipush hC (by decide) eX12_image_3 ?_
      refine vx_icmp_ge hC (tgt := 27) (by omega) (by decide) eX12_image_6 (fun c1 => ?_) (fun c1 => ?_)
      · refine vx_aload_n hC 1 rfl eX12_image_27 ?_
        refine vx_iconst hC eX12_image_28 ?_
        refine vx_pi hC 3 (ot_31 hO) lp_X12_257 rfl (Or.inl rfl) (Or.inr ⟨rfl, by omega⟩) eX12_image_29 ?_
        refine vx_vi (fun v2 hv2 => ?_)
        have hv2_32 : v2 32 = vi 32 := by rw [hv2, xu_c _ _ _ _ (by decide), e1]
        have hv2_33 : v2 33 = fc (vi 32) (vi 33) k := by rw [hv2, xu_c _ _ _ _ (by decide), e2]
        have hv2_31_3 : v2 31 3 = 1 := by rw [hv2, xu_k, fu_s]
        have hv2_31_22 : v2 31 22 = vi 31 22 := by rw [hv2, xu_k, fu_n _ _ _ (by decide), e4]
        have hv2_44 : v2 44 = vi 44 := by rw [hv2, xu_c _ _ _ _ (by decide), e5]
        have frv2 : ∀ k : Nat, (k < 31 ∨ 44 < k) → v2 k = vi k := fun k hk => by rw [hv2, xu_c _ _ _ _ (by omega)]; exact fr2 k hk
        refine vx_aload_n hC 1 rfl eX12_image_32 ?_
        refine vx_gr hC 1 (ot_31 hO) lf_X12_9 rfl (or_31_1 hO) eX12_image_33 ?_
        refine vx_iconst hC eX12_image_36 ?_
        refine vx_iaload hC (ot_32 hO) (by omega) (by omega) eX12_image_37 ?_
        refine vx_eqi (congrFun hv2_32 _) ?_
        exact vx_iret hC hM rfl eX12_image_38 (⟨_, rfl, by subst_vars; rfl, rfl, rfl, rfl, hv2_32, (by rw [hv2_33, show k = 876 by omega]; exact fc_all hz1 hz2), hv2_31_3, hv2_31_22, hv2_44, fun k hk => ⟨frv2 k hk, rfl⟩⟩)
      · refine vx_aload_n hC 1 rfl eX12_image_9 ?_
        refine vx_gr hC 2 (ot_31 hO) lf_X12_15 rfl (or_31_2 hO) eX12_image_10 ?_
        refine vx_iload_n hC 0 rfl eX12_image_13 ?_
        refine vx_aload_n hC 1 rfl eX12_image_14 ?_
        refine vx_gr hC 1 (ot_31 hO) lf_X12_9 rfl (or_31_1 hO) eX12_image_15 ?_
        refine vx_iload_n hC 0 rfl eX12_image_18 ?_
        refine vx_iaload hC (ot_32 hO) (by omega) (by omega) eX12_image_19 ?_
        refine vx_eqi (congrFun e1 _) ?_
        refine vx_top (fun x3 hx3 => ?_)
        refine vx_iastore hC (ot_33 hO) (by omega) (by omega) eX12_image_20 ?_
        refine vx_vi (fun v4 hv4 => ?_)
        have hv4_32 : v4 32 = vi 32 := by rw [hv4, xu_c _ _ _ _ (by decide), e1]
        obtain ⟨f5, hf5⟩ : ∃ f, f = fu (fc (vi 32) (vi 33) k) k x3 := ⟨_, rfl⟩
        have hv4_33 : v4 33 = f5 := by rw [hv4, hf5, xu_k, e2]
        have hv4_31_3 : v4 31 3 = vi 31 3 := by rw [hv4, xu_c _ _ _ _ (by decide), e3]
        have hv4_31_22 : v4 31 22 = vi 31 22 := by rw [hv4, xu_c _ _ _ _ (by decide), e4]
        have hv4_44 : v4 44 = vi 44 := by rw [hv4, xu_c _ _ _ _ (by decide), e5]
        have frv4 : ∀ k : Nat, (k < 31 ∨ 44 < k) → v4 k = vi k := fun k hk => by rw [hv4, xu_c _ _ _ _ (by omega)]; exact fr2 k hk
        refine vx_iinc hC (lv1 := [(1, xa_i (k + 1)), (0, xa_r 31)]) 0 rfl (by decide) rfl eX12_image_21 ?_
        refine vx_goto hC (tgt := 2) (by decide) eX12_image_24 ?_
        exact ih (k + 1) v4 (by omega) hv4_32 (by rw [hv4_33]; subst_vars; exact fc_s _ _ hk.1) hv4_31_3 hv4_31_22 hv4_44 frv4 (by omega)
  exact LP2 877 0 vi (by omega) rfl (fc_0 _ _).symm rfl rfl rfl (fun _ _ => rfl) (by omega)
def sp_undo (s im : Int → Int) (has : Int) : Int × (Int → Int) := if has = 0 then (-3, s) else (im 0, im)
set_option maxHeartbeats 4000000 in
set_option maxRecDepth 100000 in
theorem kX12_undo (G : xg_T) (d : Nat) (n : Nat) (tau : Nat → Nat × Nat) (vi vl : Nat → Int → Int) (vr : Nat → Int → Option Nat) (hI : MI n tau vi vr)  : xm G yX12_undo cX12_undo 2 (some .int) (d + 1) 0 0 [xa_r 31] n tau vi vl vr (xp_i (fun z9 n1 t1 a1 b1 c1 => z9 = (sp_undo (vi 32) (vi 33) (vi 31 3)).1 ∧ mq ((sp_undo (vi 32) (vi 33) (vi 31 3)).2) (vi 33) (vi 31 3) (vi 31 22) (vi 44) n tau vi vl vr n1 t1 a1 b1 c1)) := by
  refine xm.of (lv := [(0, xa_r 31)]) (by decide) (Nat.le_of_ble_eq_true rfl) rfl (fun K hC hM hRm => ?_)
  obtain ⟨hO, ⟨⟨hr, h0, h1, h2, h3, h4, h5, h6, hp0, hrow, hwon, htape, htab⟩, h60⟩, him, hran, hz1, hz2⟩ := hI
  refine vx_aload_n hC 0 rfl eX12_undo_0 ?_
  refine vx_gi hC 3 (ot_31 hO) lf_X12_257 rfl eX12_undo_1 ?_
  refine vx_if_ne hC (tgt := 10) (by omega) (by decide) eX12_undo_4 (fun c1 => ?_) (fun c1 => ?_)
  · refine vx_iconst hC eX12_undo_10 ?_
    refine vx_istore_n hC (lv1 := [(1, xa_i 0), (0, xa_r 31)]) (by decide) rfl eX12_undo_11 ?_
    have LP12 : ∀ (j : Nat) (k : Int) (m2 : Nat → Int → Int) (hk : 0 ≤ k ∧ k ≤ 876) (e1 : m2 33 = vi 33) (e2 : m2 32 = fc (vi 33) (vi 32) k) (e3 : m2 31 3 = vi 31 3) (e4 : m2 31 22 = vi 31 22) (e5 : m2 44 = vi 44) (fr2 : ∀ q : Nat, q < 31 ∨ 44 < q → m2 q = vi q) (hj : 876 - k < (j : Int)), xv G K 2 (xk_Q G K (xp_i (fun z9 n1 t1 a1 b1 c1 => z9 = (sp_undo (vi 32) (vi 33) (vi 31 3)).1 ∧ mq ((sp_undo (vi 32) (vi 33) (vi 31 3)).2) (vi 33) (vi 31 3) (vi 31 22) (vi 44) n tau vi vl vr n1 t1 a1 b1 c1)) 0 0) 0 0 n tau m2 vl vr 12 [(1, xa_i k), (0, xa_r 31)] [] := by
      intro j
      induction j with
      | zero => intro k m2 hk e1 e2 e3 e4 e5 fr2 hj; exfalso; omega
      | succ j ih =>
        intro k m2 hk e1 e2 e3 e4 e5 fr2 hj
        refine vx_iload_n hC 0 rfl eX12_undo_12 ?_
        refine vx_sipush hC (by decide) eX12_undo_13 ?_
        refine vx_icmp_ge hC (tgt := 37) (by omega) (by decide) eX12_undo_16 (fun c2 => ?_) (fun c2 => ?_)
        · refine vx_aload_n hC 1 rfl eX12_undo_37 ?_
          refine vx_gr hC 1 (ot_31 hO) lf_X12_9 rfl (or_31_1 hO) eX12_undo_38 ?_
          refine vx_iconst hC eX12_undo_41 ?_
          refine vx_iaload hC (ot_32 hO) (by omega) (by omega) eX12_undo_42 ?_
          refine vx_eqi (congrFun e2 _) ?_
          refine vx_eqi (y := vi 33 0) (by subst_vars; unfold fc; rw [if_pos (by omega)]) ?_
          exact vx_iret hC hM rfl eX12_undo_43 (⟨_, rfl, by subst_vars; unfold sp_undo; (repeat (first | rw [if_pos (by omega)] | rw [if_neg (by omega)])); all_goals (first | rfl | omega) , rfl, rfl, rfl, (by unfold sp_undo; (repeat (first | rw [if_pos (by omega)] | rw [if_neg (by omega)])); all_goals (first | rfl | (rw [e2, show k = 876 by omega]; exact fc_all hz2 hz1))), e1, e3, e4, e5, fun k hk => ⟨fr2 k hk, rfl⟩⟩)
        · refine vx_aload_n hC 1 rfl eX12_undo_19 ?_
          refine vx_gr hC 1 (ot_31 hO) lf_X12_9 rfl (or_31_1 hO) eX12_undo_20 ?_
          refine vx_iload_n hC 0 rfl eX12_undo_23 ?_
          refine vx_aload_n hC 1 rfl eX12_undo_24 ?_
          refine vx_gr hC 2 (ot_31 hO) lf_X12_15 rfl (or_31_2 hO) eX12_undo_25 ?_
          refine vx_iload_n hC 0 rfl eX12_undo_28 ?_
          refine vx_iaload hC (ot_33 hO) (by omega) (by omega) eX12_undo_29 ?_
          refine vx_eqi (congrFun e1 _) ?_
          refine vx_top (fun x3 hx3 => ?_)
          refine vx_iastore hC (ot_32 hO) (by omega) (by omega) eX12_undo_30 ?_
          refine vx_vi (fun v4 hv4 => ?_)
          obtain ⟨f5, hf5⟩ : ∃ f, f = fu (fc (vi 33) (vi 32) k) k x3 := ⟨_, rfl⟩
          have hv4_32 : v4 32 = f5 := by rw [hv4, hf5, xu_k, e2]
          have hv4_33 : v4 33 = vi 33 := by rw [hv4, xu_c _ _ _ _ (by decide), e1]
          have hv4_31_3 : v4 31 3 = vi 31 3 := by rw [hv4, xu_c _ _ _ _ (by decide), e3]
          have hv4_31_22 : v4 31 22 = vi 31 22 := by rw [hv4, xu_c _ _ _ _ (by decide), e4]
          have hv4_44 : v4 44 = vi 44 := by rw [hv4, xu_c _ _ _ _ (by decide), e5]
          have frv4 : ∀ k : Nat, (k < 31 ∨ 44 < k) → v4 k = vi k := fun k hk => by rw [hv4, xu_c _ _ _ _ (by omega)]; exact fr2 k hk
          refine vx_iinc hC (lv1 := [(1, xa_i (k + 1)), (0, xa_r 31)]) 0 rfl (by decide) rfl eX12_undo_31 ?_
          refine vx_goto hC (tgt := 12) (by decide) eX12_undo_34 ?_
          exact ih (k + 1) v4 (by omega) hv4_33 (by rw [hv4_32]; subst_vars; exact fc_s _ _ hk.1) hv4_31_3 hv4_31_22 hv4_44 frv4 (by omega)
    exact LP12 877 0 vi (by omega) rfl (fc_0 _ _).symm rfl rfl rfl (fun _ _ => rfl) (by omega)
  · refine vx_bipush hC (by decide) eX12_undo_7 ?_
    exact vx_iret hC hM rfl eX12_undo_9 (⟨_, rfl, by subst_vars; unfold sp_undo; (repeat (first | rw [if_pos (by omega)] | rw [if_neg (by omega)])); all_goals (first | rfl | omega) , rfl, rfl, rfl, (by unfold sp_undo; (repeat (first | rw [if_pos (by omega)] | rw [if_neg (by omega)])); all_goals (first | rfl | (rw [rfl, show k = 876 by omega]; exact fc_all hz2 hz1))), rfl, rfl, rfl, rfl, fun k hk => ⟨rfl, rfl⟩⟩)
