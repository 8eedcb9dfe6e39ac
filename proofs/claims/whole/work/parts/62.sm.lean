theorem mmin_r {x a b : Int} (h : x = if b < a then b else a) : (x = b ∧ b < a) ∨ (x = a ∧ a ≤ b) := by rw [h]; split <;> omega
theorem mmax_r {x a b : Int} (h : x = if a < b then b else a) : (x = b ∧ a < b) ∨ (x = a ∧ b ≤ a) := by rw [h]; split <;> omega
theorem mabs_r {x a : Int} (h : x = if 0 ≤ a then a else 0 - a) : (x = a ∧ 0 ≤ a) ∨ (x = -a ∧ a < 0) := by rw [h]; split <;> omega
set_option maxHeartbeats 4000000 in
set_option maxRecDepth 100000 in
theorem kX11_isDigit (G : xg_T) (d : Nat) (n : Nat) (tau : Nat → Nat × Nat) (vi vl : Nat → Int → Int) (vr : Nat → Int → Option Nat) (x : Int) (hx : -2147483648 ≤ x ∧ x < 2147483648) : xm G yX11_isDigit cX11_isDigit 1 (some .boolean) (d + 1) 0 0 [xa_i x] n tau vi vl vr (xp_i (fun z9 n1 t1 a1 b1 c1 => ((z9 = 1 ∧ 0 ≤ x ∧ x ≤ 9) ∨ (z9 = 0 ∧ (x < 0 ∨ 9 < x))) ∧ xs_0 n tau vi vl vr n1 t1 a1 b1 c1)) := by
  refine xm.of (lv := [(0, xa_i x)]) (by decide) (Nat.le_of_ble_eq_true rfl) rfl (fun K hC hM hRm => ?_)
  refine vx_iload_n hC 0 rfl eX11_isDigit_0 ?_
  refine vx_if_lt hC (tgt := 14) (by omega) (by decide) eX11_isDigit_1 (fun c1 => ?_) (fun c1 => ?_)
  · refine vx_iconst hC eX11_isDigit_14 ?_
    exact vx_iret hC hM (by decide) eX11_isDigit_15 (⟨_, rfl, by omega, xs_0.rf _ _ _ _ _⟩)
  · refine vx_iload_n hC 0 rfl eX11_isDigit_4 ?_
    refine vx_bipush hC (by decide) eX11_isDigit_5 ?_
    refine vx_icmp_gt hC (tgt := 14) (by omega) (by decide) eX11_isDigit_7 (fun c2 => ?_) (fun c2 => ?_)
    · refine vx_iconst hC eX11_isDigit_14 ?_
      exact vx_iret hC hM (by decide) eX11_isDigit_15 (⟨_, rfl, by omega, xs_0.rf _ _ _ _ _⟩)
    · refine vx_iconst hC eX11_isDigit_10 ?_
      refine vx_goto hC (tgt := 15) (by decide) eX11_isDigit_11 ?_
      exact vx_iret hC hM (by decide) eX11_isDigit_15 (⟨_, rfl, by omega, xs_0.rf _ _ _ _ _⟩)
set_option maxHeartbeats 4000000 in
set_option maxRecDepth 100000 in
theorem kX11_isSpan (G : xg_T) (d : Nat) (n : Nat) (tau : Nat → Nat × Nat) (vi vl : Nat → Int → Int) (vr : Nat → Int → Option Nat) (x : Int) (hx : -2147483648 ≤ x ∧ x < 2147483648) : xm G yX11_isSpan cX11_isSpan 1 (some .boolean) (d + 1) 0 0 [xa_i x] n tau vi vl vr (xp_i (fun z9 n1 t1 a1 b1 c1 => ((z9 = 1 ∧ 0 ≤ x ∧ x ≤ 15) ∨ (z9 = 0 ∧ (x < 0 ∨ 15 < x))) ∧ xs_0 n tau vi vl vr n1 t1 a1 b1 c1)) := by
  refine xm.of (lv := [(0, xa_i x)]) (by decide) (Nat.le_of_ble_eq_true rfl) rfl (fun K hC hM hRm => ?_)
  refine vx_iload_n hC 0 rfl eX11_isSpan_0 ?_
  refine vx_if_lt hC (tgt := 14) (by omega) (by decide) eX11_isSpan_1 (fun c1 => ?_) (fun c1 => ?_)
  · refine vx_iconst hC eX11_isSpan_14 ?_
    exact vx_iret hC hM (by decide) eX11_isSpan_15 (⟨_, rfl, by omega, xs_0.rf _ _ _ _ _⟩)
  · refine vx_iload_n hC 0 rfl eX11_isSpan_4 ?_
    refine vx_bipush hC (by decide) eX11_isSpan_5 ?_
    refine vx_icmp_gt hC (tgt := 14) (by omega) (by decide) eX11_isSpan_7 (fun c2 => ?_) (fun c2 => ?_)
    · refine vx_iconst hC eX11_isSpan_14 ?_
      exact vx_iret hC hM (by decide) eX11_isSpan_15 (⟨_, rfl, by omega, xs_0.rf _ _ _ _ _⟩)
    · refine vx_iconst hC eX11_isSpan_10 ?_
      refine vx_goto hC (tgt := 15) (by decide) eX11_isSpan_11 ?_
      exact vx_iret hC hM (by decide) eX11_isSpan_15 (⟨_, rfl, by omega, xs_0.rf _ _ _ _ _⟩)
set_option maxHeartbeats 4000000 in
set_option maxRecDepth 100000 in
theorem kX11_isPart (G : xg_T) (d : Nat) (n : Nat) (tau : Nat → Nat × Nat) (vi vl : Nat → Int → Int) (vr : Nat → Int → Option Nat) (x : Int) (hx : -2147483648 ≤ x ∧ x < 2147483648) : xm G yX11_isPart cX11_isPart 1 (some .boolean) (d + 1) 0 0 [xa_i x] n tau vi vl vr (xp_i (fun z9 n1 t1 a1 b1 c1 => ((z9 = 1 ∧ 0 ≤ x ∧ x ≤ 1) ∨ (z9 = 0 ∧ (x < 0 ∨ 1 < x))) ∧ xs_0 n tau vi vl vr n1 t1 a1 b1 c1)) := by
  refine xm.of (lv := [(0, xa_i x)]) (by decide) (Nat.le_of_ble_eq_true rfl) rfl (fun K hC hM hRm => ?_)
  refine vx_iload_n hC 0 rfl eX11_isPart_0 ?_
  refine vx_if_eq hC (tgt := 9) (by omega) (by decide) eX11_isPart_1 (fun c1 => ?_) (fun c1 => ?_)
  · refine vx_iconst hC eX11_isPart_9 ?_
    refine vx_goto hC (tgt := 14) (by decide) eX11_isPart_10 ?_
    exact vx_iret hC hM (by decide) eX11_isPart_14 (⟨_, rfl, by omega, xs_0.rf _ _ _ _ _⟩)
  · refine vx_iload_n hC 0 rfl eX11_isPart_4 ?_
    refine vx_iconst hC eX11_isPart_5 ?_
    refine vx_icmp_ne hC (tgt := 13) (by omega) (by decide) eX11_isPart_6 (fun c2 => ?_) (fun c2 => ?_)
    · refine vx_iconst hC eX11_isPart_13 ?_
      exact vx_iret hC hM (by decide) eX11_isPart_14 (⟨_, rfl, by omega, xs_0.rf _ _ _ _ _⟩)
    · refine vx_iconst hC eX11_isPart_9 ?_
      refine vx_goto hC (tgt := 14) (by decide) eX11_isPart_10 ?_
      exact vx_iret hC hM (by decide) eX11_isPart_14 (⟨_, rfl, by omega, xs_0.rf _ _ _ _ _⟩)
set_option maxHeartbeats 4000000 in
set_option maxRecDepth 100000 in
theorem kX11_isTrioPurse (G : xg_T) (d : Nat) (n : Nat) (tau : Nat → Nat × Nat) (vi vl : Nat → Int → Int) (vr : Nat → Int → Option Nat) (x : Int) (hx : -2147483648 ≤ x ∧ x < 2147483648) : xm G yX11_isTrioPurse cX11_isTrioPurse 1 (some .boolean) (d + 1) 0 0 [xa_i x] n tau vi vl vr (xp_i (fun z9 n1 t1 a1 b1 c1 => ((z9 = 1 ∧ 1 ≤ x ∧ x ≤ 4) ∨ (z9 = 0 ∧ (x < 1 ∨ 4 < x))) ∧ xs_0 n tau vi vl vr n1 t1 a1 b1 c1)) := by
  refine xm.of (lv := [(0, xa_i x)]) (by decide) (Nat.le_of_ble_eq_true rfl) rfl (fun K hC hM hRm => ?_)
  refine vx_iload_n hC 0 rfl eX11_isTrioPurse_0 ?_
  refine vx_iconst hC eX11_isTrioPurse_1 ?_
  refine vx_icmp_lt hC (tgt := 14) (by omega) (by decide) eX11_isTrioPurse_2 (fun c1 => ?_) (fun c1 => ?_)
  · refine vx_iconst hC eX11_isTrioPurse_14 ?_
    exact vx_iret hC hM (by decide) eX11_isTrioPurse_15 (⟨_, rfl, by omega, xs_0.rf _ _ _ _ _⟩)
  · refine vx_iload_n hC 0 rfl eX11_isTrioPurse_5 ?_
    refine vx_iconst hC eX11_isTrioPurse_6 ?_
    refine vx_icmp_gt hC (tgt := 14) (by omega) (by decide) eX11_isTrioPurse_7 (fun c2 => ?_) (fun c2 => ?_)
    · refine vx_iconst hC eX11_isTrioPurse_14 ?_
      exact vx_iret hC hM (by decide) eX11_isTrioPurse_15 (⟨_, rfl, by omega, xs_0.rf _ _ _ _ _⟩)
    · refine vx_iconst hC eX11_isTrioPurse_10 ?_
      refine vx_goto hC (tgt := 15) (by decide) eX11_isTrioPurse_11 ?_
      exact vx_iret hC hM (by decide) eX11_isTrioPurse_15 (⟨_, rfl, by omega, xs_0.rf _ _ _ _ _⟩)
set_option maxHeartbeats 4000000 in
set_option maxRecDepth 100000 in
theorem kX6_playerAt (G : xg_T) (d : Nat) (n : Nat) (tau : Nat → Nat × Nat) (vi vl : Nat → Int → Int) (vr : Nat → Int → Option Nat) (hO : xo n tau vr) (s : Int → Int) (hS : rp_S 1 s n tau vi vr) (hV : ms_V s) (q : Int) (hq : -2147483648 ≤ q ∧ q < 2147483648) : xm G yX6_playerAt cX6_playerAt 2 (some (.object "LastPenny$Penny")) (d + 1) 0 0 [xa_r 1, xa_i q] n tau vi vl vr (xp_q (fun r9 n1 t1 a1 b1 c1 => ((r9 = none ∧ (q < 0 ∨ s 0 ≤ q)) ∨ (∃ k, r9 = some k ∧ (0 ≤ q ∧ q < s 0) ∧ rp_P s q k n tau vi)) ∧ xs_0 n tau vi vl vr n1 t1 a1 b1 c1)) := by
  refine xm.of (lv := [(0, xa_r 1), (1, xa_i q)]) (by decide) (Nat.le_of_ble_eq_true rfl) rfl (fun K hC hM hRm => ?_)
  obtain ⟨q1, q3, q7, q8, q9, q10, qt, qp, qr, qpl, qtb⟩ := id hS
  have hW : ms_W s := hV.1
  have h60 := hV.2
  obtain ⟨hr, h0, h1, h2, h3, h4, h5, h6, hp0, hrow, hwon, htape, htab⟩ := id hW
  refine vx_iload_n hC 1 rfl eX6_playerAt_0 ?_
  refine vx_if_lt hC (tgt := 26) (by omega) (by decide) eX6_playerAt_1 (fun c1 => ?_) (fun c1 => ?_)
  · refine vx_null hC eX6_playerAt_26 ?_
    exact vx_aret hC hM (by first | exact Or.inl ⟨_, rfl⟩ | exact Or.inr ⟨_, rfl⟩) eX6_playerAt_27 (⟨_, rfl, Or.inl ⟨rfl, by omega⟩, xs_0.rf _ _ _ _ _⟩)
  · refine vx_iload_n hC 1 rfl eX6_playerAt_4 ?_
    refine vx_aload_n hC 0 rfl eX6_playerAt_5 ?_
    refine vx_gi hC 7 (ot_1 hO) lf_X6_50 rfl eX6_playerAt_6 ?_
    refine vx_eqi q7 ?_
    refine vx_icmp_ge hC (tgt := 26) (by omega) (by decide) eX6_playerAt_9 (fun c2 => ?_) (fun c2 => ?_)
    · refine vx_null hC eX6_playerAt_26 ?_
      exact vx_aret hC hM (by first | exact Or.inl ⟨_, rfl⟩ | exact Or.inr ⟨_, rfl⟩) eX6_playerAt_27 (⟨_, rfl, Or.inl ⟨rfl, by omega⟩, xs_0.rf _ _ _ _ _⟩)
    · refine vx_iload_n hC 1 rfl eX6_playerAt_12 ?_
      refine vx_iconst hC eX6_playerAt_13 ?_
      refine vx_icmp_ge hC (tgt := 26) (by omega) (by decide) eX6_playerAt_14 (fun c3 => ?_) (fun c3 => ?_)
      · refine vx_null hC eX6_playerAt_26 ?_
        exact vx_aret hC hM (by first | exact Or.inl ⟨_, rfl⟩ | exact Or.inr ⟨_, rfl⟩) eX6_playerAt_27 (⟨_, rfl, Or.inl ⟨rfl, by omega⟩, xs_0.rf _ _ _ _ _⟩)
      · refine vx_aload_n hC 0 rfl eX6_playerAt_17 ?_
        refine vx_gr hC 4 (ot_1 hO) lf_X6_23 rfl (or_1_4 hO) eX6_playerAt_18 ?_
        refine vx_iload_n hC 1 rfl eX6_playerAt_21 ?_
        obtain ⟨kp, kp1, kp2⟩ := qpl q (by omega) (by omega)
        refine vx_aaload17 hC (ot_4 hO) (by omega) (by omega) (show vr 4 q = some kp from kp1) eX6_playerAt_22 ?_
        refine vx_goto hC (tgt := 27) (by decide) eX6_playerAt_23 ?_
        exact vx_aret hC hM (by first | exact Or.inl ⟨_, rfl⟩ | exact Or.inr ⟨_, rfl⟩) eX6_playerAt_27 (⟨_, rfl, Or.inr ⟨kp, rfl, by omega, kp2⟩, xs_0.rf _ _ _ _ _⟩)
set_option maxHeartbeats 4000000 in
set_option maxRecDepth 100000 in
theorem kX6_holding (G : xg_T) (d : Nat) (n : Nat) (tau : Nat → Nat × Nat) (vi vl : Nat → Int → Int) (vr : Nat → Int → Option Nat) (hO : xo n tau vr) (s : Int → Int) (hS : rp_S 1 s n tau vi vr) (hV : ms_V s)  : xm G yX6_holding cX6_holding 2 (some (.object "LastPenny$Table")) (d + 1) 0 0 [xa_r 1] n tau vi vl vr (xp_q (fun r9 n1 t1 a1 b1 c1 => ((r9 = none ∧ s 1 = 0) ∨ (∃ k, r9 = some k ∧ 1 ≤ s 1 ∧ rp_T s (s 1 - 1) k n tau vi vr)) ∧ xs_0 n tau vi vl vr n1 t1 a1 b1 c1)) := by
  refine xm.of (lv := [(0, xa_r 1)]) (by decide) (Nat.le_of_ble_eq_true rfl) rfl (fun K hC hM hRm => ?_)
  obtain ⟨q1, q3, q7, q8, q9, q10, qt, qp, qr, qpl, qtb⟩ := id hS
  have hW : ms_W s := hV.1
  have h60 := hV.2
  obtain ⟨hr, h0, h1, h2, h3, h4, h5, h6, hp0, hrow, hwon, htape, htab⟩ := id hW
  refine vx_aload_n hC 0 rfl eX6_holding_0 ?_
  refine vx_gi hC 3 (ot_1 hO) lf_X6_47 rfl eX6_holding_1 ?_
  refine vx_eqi q3 ?_
  refine vx_iconst hC eX6_holding_4 ?_
  refine vx_isub hC eX6_holding_5 ?_
  refine vx_top (fun x1 hx1 => ?_)
  refine vx_istore_n hC (lv1 := [(1, xa_i x1), (0, xa_r 1)]) (by decide) rfl eX6_holding_6 ?_
  refine vx_iload_n hC 0 rfl eX6_holding_7 ?_
  refine vx_if_lt hC (tgt := 25) (by omega) (by decide) eX6_holding_8 (fun c2 => ?_) (fun c2 => ?_)
  · refine vx_null hC eX6_holding_25 ?_
    exact vx_aret hC hM (by first | exact Or.inl ⟨_, rfl⟩ | exact Or.inr ⟨_, rfl⟩) eX6_holding_26 (⟨_, rfl, Or.inl ⟨rfl, by omega⟩, xs_0.rf _ _ _ _ _⟩)
  · refine vx_iload_n hC 0 rfl eX6_holding_11 ?_
    refine vx_iconst hC eX6_holding_12 ?_
    refine vx_icmp_ge hC (tgt := 25) (by omega) (by decide) eX6_holding_13 (fun c3 => ?_) (fun c3 => ?_)
    · refine vx_null hC eX6_holding_25 ?_
      exact vx_aret hC hM (by first | exact Or.inl ⟨_, rfl⟩ | exact Or.inr ⟨_, rfl⟩) eX6_holding_26 (⟨_, rfl, Or.inl ⟨rfl, by omega⟩, xs_0.rf _ _ _ _ _⟩)
    · refine vx_aload_n hC 1 rfl eX6_holding_16 ?_
      refine vx_gr hC 2 (ot_1 hO) lf_X6_17 rfl (or_1_2 hO) eX6_holding_17 ?_
      refine vx_iload_n hC 0 rfl eX6_holding_20 ?_
      obtain ⟨kt, kt1, kt2⟩ := qtb x1 (by omega) (by omega)
      refine vx_aaload18 hC (ot_3 hO) (by omega) (by omega) (show vr 3 x1 = some kt from kt1) eX6_holding_21 ?_
      refine vx_goto hC (tgt := 26) (by decide) eX6_holding_22 ?_
      exact vx_aret hC hM (by first | exact Or.inl ⟨_, rfl⟩ | exact Or.inr ⟨_, rfl⟩) eX6_holding_26 (⟨_, rfl, Or.inr ⟨kt, rfl, by omega, by rw [← hx1]; exact kt2⟩, xs_0.rf _ _ _ _ _⟩)
set_option maxHeartbeats 4000000 in
set_option maxRecDepth 100000 in
theorem kX6_limit (G : xg_T) (d : Nat) (n : Nat) (tau : Nat → Nat × Nat) (vi vl : Nat → Int → Int) (vr : Nat → Int → Option Nat) (hO : xo n tau vr) (s : Int → Int) (hS : rp_S 1 s n tau vi vr) (hV : ms_V s)  : xm G yX6_limit cX6_limit 2 (some .int) (d + 2) 0 0 [xa_r 1] n tau vi vl vr (xp_i (fun z9 n1 t1 a1 b1 c1 => z9 = ms_lim s ∧ xs_0 n tau vi vl vr n1 t1 a1 b1 c1)) := by
  refine xm.of (lv := [(0, xa_r 1)]) (by decide) (Nat.le_of_ble_eq_true rfl) rfl (fun K hC hM hRm => ?_)
  obtain ⟨q1, q3, q7, q8, q9, q10, qt, qp, qr, qpl, qtb⟩ := id hS
  have hW : ms_W s := hV.1
  have h60 := hV.2
  obtain ⟨hr, h0, h1, h2, h3, h4, h5, h6, hp0, hrow, hwon, htape, htab⟩ := id hW
  refine vx_aload_n hC 0 rfl eX6_limit_0 ?_
  refine vx_callV_q hC (kX6_holding G d _ _ _ _ _ hO s hS hV) ly_X6_62 (ot_1 hO) rfl rfl rfl hRm (by omega) (Nat.le_of_ble_eq_true rfl) rfl eX6_limit_1 (fun r1 n9 t9 a9 b9 c9 hr1 => ?_)
  obtain ⟨hr1, rfl, rfl, rfl, rfl, rfl⟩ := hr1
  rcases hr1 with ⟨rfl, hno⟩ | ⟨kt, rfl, hyes, hkt⟩
  · refine vx_astore_n hC (lv1 := [(1, xa_n), (0, xa_r 1)]) (by decide) rfl eX6_limit_4 ?_
    refine vx_aload_n hC 0 rfl eX6_limit_5 ?_
    refine vx_ifnonnull hC (tgt := 14) (by decide) eX6_limit_6 (fun k h => by cases h) (fun _ => ?_)
    refine vx_bipush hC (by decide) eX6_limit_9 ?_
    refine vx_goto hC (tgt := 18) (by decide) eX6_limit_11 ?_
    exact vx_iret hC hM rfl eX6_limit_18 (⟨_, rfl, by unfold ms_lim; rw [if_neg (by omega)]; first | (rw [if_pos (by omega)]) | (rw [if_neg (by omega), h4]), xs_0.rf _ _ _ _ _⟩)
  · obtain ⟨t1, t2, t3, kw, ke, kc, cl, t4, t5, t6, t7, t8, t9, t10, t11, t12, t13⟩ := id hkt
    refine vx_astore_n hC (lv1 := [(1, xa_r kt), (0, xa_r 1)]) (by decide) rfl eX6_limit_4 ?_
    refine vx_aload_n hC 0 rfl eX6_limit_5 ?_
    refine vx_ifnonnull hC (tgt := 14) (by decide) eX6_limit_6 (fun _ _ => ?_) (fun h => by cases h)
    refine vx_aload_n hC 0 rfl eX6_limit_14 ?_
    refine vx_gi hC 3 ⟨t1.2, t2⟩ lf_X6_66 rfl eX6_limit_15 ?_
    refine vx_eqi t3 ?_
    exact vx_iret hC hM rfl eX6_limit_18 (⟨_, rfl, by unfold ms_lim; rw [if_neg (by omega)]; first | (rw [if_pos (by omega)]) | (rw [if_neg (by omega), h4]), xs_0.rf _ _ _ _ _⟩)
set_option maxHeartbeats 4000000 in
set_option maxRecDepth 100000 in
theorem kX4_isOver (G : xg_T) (d : Nat) (n : Nat) (tau : Nat → Nat × Nat) (vi vl : Nat → Int → Int) (vr : Nat → Int → Option Nat) (k ci : Nat) (ht : k < n ∧ tau k = (ci, 0)) (hK : xp_K 4 ci) (g : Int) (h3 : vi k 3 = g) (hg : 0 ≤ g ∧ g ≤ 12) (q : Int) (hq : 0 ≤ q ∧ q ≤ 12) : xm G yX4_isOver cX4_isOver 2 (some .boolean) (d + 1) 0 0 [xa_r k, xa_i q] n tau vi vl vr (xp_i (fun z9 n1 t1 a1 b1 c1 => ((z9 = 1 ∧ (q ≤ 0 ∨ g ≤ q)) ∨ (z9 = 0 ∧ 0 < q ∧ q < g)) ∧ xs_0 n tau vi vl vr n1 t1 a1 b1 c1)) := by
  refine xm.of (lv := [(0, xa_r k), (1, xa_i q)]) (by decide) (Nat.le_of_ble_eq_true rfl) rfl (fun K hC hM hRm => ?_)
  refine vx_iload_n hC 1 rfl eX4_isOver_0 ?_
  refine vx_if_le hC (tgt := 12) (by omega) (by decide) eX4_isOver_1 (fun c1 => ?_) (fun c1 => ?_)
  · refine vx_iconst hC eX4_isOver_12 ?_
    refine vx_goto hC (tgt := 17) (by decide) eX4_isOver_13 ?_
    exact vx_iret hC hM (by decide) eX4_isOver_17 (⟨_, rfl, by omega, xs_0.rf _ _ _ _ _⟩)
  · refine vx_iload_n hC 1 rfl eX4_isOver_4 ?_
    refine vx_aload_n hC 0 rfl eX4_isOver_5 ?_
    refine vx_gi hC 3 ht (lf_X4_21 hK) rfl eX4_isOver_6 ?_
    refine vx_eqi h3 ?_
    refine vx_icmp_lt hC (tgt := 16) (by omega) (by decide) eX4_isOver_9 (fun c2 => ?_) (fun c2 => ?_)
    · refine vx_iconst hC eX4_isOver_16 ?_
      exact vx_iret hC hM (by decide) eX4_isOver_17 (⟨_, rfl, by omega, xs_0.rf _ _ _ _ _⟩)
    · refine vx_iconst hC eX4_isOver_12 ?_
      refine vx_goto hC (tgt := 17) (by decide) eX4_isOver_13 ?_
      exact vx_iret hC hM (by decide) eX4_isOver_17 (⟨_, rfl, by omega, xs_0.rf _ _ _ _ _⟩)
theorem lu_X11_112 {ci : Nat} (h : xp_K 4 ci) : ∃ C T N, vwCl[ci]? = some (C, T, N) ∧ xy_U RX11 112 C RX4 yX4_isOver yX4_isOver cX4_isOver 2 (some .boolean) 1 := by
  rcases h with rfl | rfl | rfl | rfl | rfl | rfl | rfl
  · exact ⟨_, _, _, rfl, lu_X11_112_4⟩
  · exact ⟨_, _, _, rfl, lu_X11_112_0⟩
  · exact ⟨_, _, _, rfl, lu_X11_112_9⟩
  · exact ⟨_, _, _, rfl, lu_X11_112_7⟩
  · exact ⟨_, _, _, rfl, lu_X11_112_3⟩
  · exact ⟨_, _, _, rfl, lu_X11_112_1⟩
  · exact ⟨_, _, _, rfl, lu_X11_112_10⟩
def mwf (kd v g q r : Int) : Int := if kd = 1 then mz_le q (g - q) else if kd = 2 then 1 + v % 3 else if kd = 3 then 1 + q % (v + 2) else if kd = 4 then (mz_le q (g - q) + 1) / 2 else if kd = 5 then (if q / 4 < 1 then 1 else mz_le (1 + v % 3) (q / 4)) else if kd = 6 then (if r = 0 then 1 + q % (v + 2) else r) else 1
set_option maxHeartbeats 4000000 in
set_option maxRecDepth 100000 in
theorem kX4_wish (G : xg_T) (d : Nat) (n : Nat) (tau : Nat → Nat × Nat) (vi vl : Nat → Int → Int) (vr : Nat → Int → Option Nat) (k ci : Nat) (ht : k < n ∧ tau k = (ci, 0)) (hK : xp_K 4 ci) (v g : Int) (h2 : vi k 2 = v) (h3 : vi k 3 = g) (hv : 0 ≤ v ∧ v ≤ 9) (hg : 2 ≤ g ∧ g ≤ 12) (q : Int) (hq : 0 ≤ q ∧ q ≤ g) (r : Int) (hr : 0 ≤ r ∧ r ≤ 9) : xm G yX4_wish cX4_wish 3 (some .int) (d + 1) 0 0 [xa_r k, xa_i q, xa_i r] n tau vi vl vr (xp_i (fun z9 n1 t1 a1 b1 c1 => z9 = 1 ∧ xs_0 n tau vi vl vr n1 t1 a1 b1 c1)) := by
  refine xm.of (lv := [(0, xa_r k), (1, xa_i q), (2, xa_i r)]) (by decide) (Nat.le_of_ble_eq_true rfl) rfl (fun K hC hM hRm => ?_)
  refine vx_iconst hC eX4_wish_0 ?_
  exact vx_iret hC hM rfl eX4_wish_1 (⟨_, rfl, by rfl, xs_0.rf _ _ _ _ _⟩)
set_option maxHeartbeats 4000000 in
set_option maxRecDepth 100000 in
theorem kX0_wish (G : xg_T) (d : Nat) (n : Nat) (tau : Nat → Nat × Nat) (vi vl : Nat → Int → Int) (vr : Nat → Int → Option Nat) (k ci : Nat) (ht : k < n ∧ tau k = (ci, 0)) (hK : xp_K 0 ci) (v g : Int) (h2 : vi k 2 = v) (h3 : vi k 3 = g) (hv : 0 ≤ v ∧ v ≤ 9) (hg : 2 ≤ g ∧ g ≤ 12) (q : Int) (hq : 0 ≤ q ∧ q ≤ g) (r : Int) (hr : 0 ≤ r ∧ r ≤ 9) : xm G yX0_wish cX0_wish 3 (some .int) (d + 2) 0 0 [xa_r k, xa_i q, xa_i r] n tau vi vl vr (xp_i (fun z9 n1 t1 a1 b1 c1 => z9 = mz_le q (g - q) ∧ xs_0 n tau vi vl vr n1 t1 a1 b1 c1)) := by
  refine xm.of (lv := [(0, xa_r k), (1, xa_i q), (2, xa_i r)]) (by decide) (Nat.le_of_ble_eq_true rfl) rfl (fun K hC hM hRm => ?_)
  refine vx_iload_n hC 1 rfl eX0_wish_0 ?_
  refine vx_aload_n hC 0 rfl eX0_wish_1 ?_
  refine vx_gi hC 3 ht (lf_X0_7 hK) rfl eX0_wish_2 ?_
  refine vx_eqi h3 ?_
  refine vx_iload_n hC 1 rfl eX0_wish_5 ?_
  refine vx_isub hC eX0_wish_6 ?_
  refine vx_mmin hC (by omega) ly_X0_13 hRm (by omega) (Nat.le_of_ble_eq_true rfl) eX0_wish_7 ?_
  refine vx_top (fun x1 hx1 => ?_)
  have rx1 := mmin_r hx1
  exact vx_iret hC hM rfl eX0_wish_10 (⟨_, rfl, by have z1 := mz_le_r q (g - q); omega, xs_0.rf _ _ _ _ _⟩)
set_option maxHeartbeats 4000000 in
set_option maxRecDepth 100000 in
theorem kX9_wish (G : xg_T) (d : Nat) (n : Nat) (tau : Nat → Nat × Nat) (vi vl : Nat → Int → Int) (vr : Nat → Int → Option Nat) (k ci : Nat) (ht : k < n ∧ tau k = (ci, 0)) (hK : xp_K 9 ci) (v g : Int) (h2 : vi k 2 = v) (h3 : vi k 3 = g) (hv : 0 ≤ v ∧ v ≤ 9) (hg : 2 ≤ g ∧ g ≤ 12) (q : Int) (hq : 0 ≤ q ∧ q ≤ g) (r : Int) (hr : 0 ≤ r ∧ r ≤ 9) : xm G yX9_wish cX9_wish 3 (some .int) (d + 1) 0 0 [xa_r k, xa_i q, xa_i r] n tau vi vl vr (xp_i (fun z9 n1 t1 a1 b1 c1 => z9 = 1 + v % 3 ∧ xs_0 n tau vi vl vr n1 t1 a1 b1 c1)) := by
  refine xm.of (lv := [(0, xa_r k), (1, xa_i q), (2, xa_i r)]) (by decide) (Nat.le_of_ble_eq_true rfl) rfl (fun K hC hM hRm => ?_)
  refine vx_iconst hC eX9_wish_0 ?_
  refine vx_aload_n hC 0 rfl eX9_wish_1 ?_
  refine vx_gi hC 2 ht (lf_X9_7 hK) rfl eX9_wish_2 ?_
  refine vx_eqi h2 ?_
  refine vx_iconst hC eX9_wish_5 ?_
  refine vx_irem hC (by omega) eX9_wish_6 ?_
  refine vx_iadd hC eX9_wish_7 ?_
  exact vx_iret hC hM rfl eX9_wish_8 (⟨_, rfl, by rfl, xs_0.rf _ _ _ _ _⟩)
set_option maxHeartbeats 4000000 in
set_option maxRecDepth 100000 in
theorem kX7_wish (G : xg_T) (d : Nat) (n : Nat) (tau : Nat → Nat × Nat) (vi vl : Nat → Int → Int) (vr : Nat → Int → Option Nat) (k ci : Nat) (ht : k < n ∧ tau k = (ci, 0)) (hK : xp_K 7 ci) (v g : Int) (h2 : vi k 2 = v) (h3 : vi k 3 = g) (hv : 0 ≤ v ∧ v ≤ 9) (hg : 2 ≤ g ∧ g ≤ 12) (q : Int) (hq : 0 ≤ q ∧ q ≤ g) (r : Int) (hr : 0 ≤ r ∧ r ≤ 9) : xm G yX7_wish cX7_wish 4 (some .int) (d + 2) 0 0 [xa_r k, xa_i q, xa_i r] n tau vi vl vr (xp_i (fun z9 n1 t1 a1 b1 c1 => z9 = 1 + q % (v + 2) ∧ xs_0 n tau vi vl vr n1 t1 a1 b1 c1)) := by
  refine xm.of (lv := [(0, xa_r k), (1, xa_i q), (2, xa_i r)]) (by decide) (Nat.le_of_ble_eq_true rfl) rfl (fun K hC hM hRm => ?_)
  refine vx_iconst hC eX7_wish_0 ?_
  refine vx_aload_n hC 0 rfl eX7_wish_1 ?_
  refine vx_gi hC 2 ht (lf_X7_7 hK) rfl eX7_wish_2 ?_
  refine vx_eqi h2 ?_
  refine vx_iconst hC eX7_wish_5 ?_
  refine vx_iadd hC eX7_wish_6 ?_
  refine vx_mmax hC (by omega) ly_X7_13 hRm (by omega) (Nat.le_of_ble_eq_true rfl) eX7_wish_7 ?_
  refine vx_top (fun x1 hx1 => ?_)
  have rx1 := mmax_r hx1
  refine vx_istore_n hC (lv1 := [(3, xa_i x1), (0, xa_r k), (1, xa_i q), (2, xa_i r)]) (by decide) rfl eX7_wish_10 ?_
  refine vx_iconst hC eX7_wish_11 ?_
  refine vx_iload_n hC 2 rfl eX7_wish_12 ?_
  refine vx_iload_n hC 0 rfl eX7_wish_13 ?_
  obtain rfl : x1 = v + 2 := by omega
  refine vx_irem hC (by omega) eX7_wish_14 ?_
  refine vx_iadd hC eX7_wish_15 ?_
  exact vx_iret hC hM rfl eX7_wish_16 (⟨_, rfl, by first | rfl | (rw [show v + 2 = _ from by omega]), xs_0.rf _ _ _ _ _⟩)
set_option maxHeartbeats 4000000 in
set_option maxRecDepth 100000 in
theorem kX3_wish (G : xg_T) (d : Nat) (n : Nat) (tau : Nat → Nat × Nat) (vi vl : Nat → Int → Int) (vr : Nat → Int → Option Nat) (k ci : Nat) (ht : k < n ∧ tau k = (ci, 0)) (hK : xp_K 3 ci) (v g : Int) (h2 : vi k 2 = v) (h3 : vi k 3 = g) (hv : 0 ≤ v ∧ v ≤ 9) (hg : 2 ≤ g ∧ g ≤ 12) (q : Int) (hq : 0 ≤ q ∧ q ≤ g) (r : Int) (hr : 0 ≤ r ∧ r ≤ 9) : xm G yX3_wish cX3_wish 3 (some .int) (d + 3) 0 0 [xa_r k, xa_i q, xa_i r] n tau vi vl vr (xp_i (fun z9 n1 t1 a1 b1 c1 => z9 = (mz_le q (g - q) + 1) / 2 ∧ xs_0 n tau vi vl vr n1 t1 a1 b1 c1)) := by
  refine xm.of (lv := [(0, xa_r k), (1, xa_i q), (2, xa_i r)]) (by decide) (Nat.le_of_ble_eq_true rfl) rfl (fun K hC hM hRm => ?_)
  have z1 := mz_le_r q (g - q)
  refine vx_aload_n hC 0 rfl eX3_wish_0 ?_
  refine vx_iload_n hC 1 rfl eX3_wish_1 ?_
  refine vx_iload_n hC 2 rfl eX3_wish_2 ?_
  refine vx_callSU_i hC (kX0_wish G d _ _ _ _ _ k ci ht (Or.inr hK) v g h2 h3 hv hg q hq r hr) ly_X3_7 ht ((congrArg (fun z => vwCl[z]?) (show ci = 3 from hK)).trans rfl) rfl hRm (by omega) (Nat.le_of_ble_eq_true rfl) rfl eX3_wish_3 (fun x1 n9 t9 a9 b9 c9 hx1 => ?_)
  obtain ⟨hx1, rfl, rfl, rfl, rfl, rfl⟩ := hx1
  refine vx_iconst hC eX3_wish_6 ?_
  refine vx_iadd hC eX3_wish_7 ?_
  refine vx_iconst hC eX3_wish_8 ?_
  refine vx_idiv hC (by omega) eX3_wish_9 ?_
  exact vx_iret hC hM rfl eX3_wish_10 (⟨_, rfl, by have z1 := mz_le_r q (g - q); omega, xs_0.rf _ _ _ _ _⟩)
set_option maxHeartbeats 4000000 in
set_option maxRecDepth 100000 in
theorem kX1_wish (G : xg_T) (d : Nat) (n : Nat) (tau : Nat → Nat × Nat) (vi vl : Nat → Int → Int) (vr : Nat → Int → Option Nat) (k ci : Nat) (ht : k < n ∧ tau k = (ci, 0)) (hK : xp_K 1 ci) (v g : Int) (h2 : vi k 2 = v) (h3 : vi k 3 = g) (hv : 0 ≤ v ∧ v ≤ 9) (hg : 2 ≤ g ∧ g ≤ 12) (q : Int) (hq : 0 ≤ q ∧ q ≤ g) (r : Int) (hr : 0 ≤ r ∧ r ≤ 9) : xm G yX1_wish cX1_wish 3 (some .int) (d + 2) 0 0 [xa_r k, xa_i q, xa_i r] n tau vi vl vr (xp_i (fun z9 n1 t1 a1 b1 c1 => z9 = (if q / 4 < 1 then 1 else mz_le (1 + v % 3) (q / 4)) ∧ xs_0 n tau vi vl vr n1 t1 a1 b1 c1)) := by
  refine xm.of (lv := [(0, xa_r k), (1, xa_i q), (2, xa_i r)]) (by decide) (Nat.le_of_ble_eq_true rfl) rfl (fun K hC hM hRm => ?_)
  refine vx_iconst hC eX1_wish_0 ?_
  refine vx_aload_n hC 0 rfl eX1_wish_1 ?_
  refine vx_iload_n hC 1 rfl eX1_wish_2 ?_
  refine vx_iload_n hC 2 rfl eX1_wish_3 ?_
  refine vx_callSU_i hC (kX9_wish G d _ _ _ _ _ k ci ht (Or.inr hK) v g h2 h3 hv hg q hq r hr) ly_X1_7 ht ((congrArg (fun z => vwCl[z]?) (show ci = 1 from hK)).trans rfl) rfl hRm (by omega) (Nat.le_of_ble_eq_true rfl) rfl eX1_wish_4 (fun x1 n9 t9 a9 b9 c9 hx1 => ?_)
  obtain ⟨hx1, rfl, rfl, rfl, rfl, rfl⟩ := hx1
  refine vx_iload_n hC 1 rfl eX1_wish_7 ?_
  refine vx_iconst hC eX1_wish_8 ?_
  refine vx_idiv hC (by omega) eX1_wish_9 ?_
  refine vx_mmin hC (by omega) ly_X1_11 hRm (by omega) (Nat.le_of_ble_eq_true rfl) eX1_wish_10 ?_
  refine vx_top (fun x2 hx2 => ?_)
  have rx2 := mmin_r hx2
  refine vx_mmax hC (by omega) ly_X1_16 hRm (by omega) (Nat.le_of_ble_eq_true rfl) eX1_wish_13 ?_
  refine vx_top (fun x3 hx3 => ?_)
  have rx3 := mmax_r hx3
  exact vx_iret hC hM rfl eX1_wish_16 (⟨_, rfl, by have z1 := mz_le_r (1 + v % 3) (q / 4); split <;> omega, xs_0.rf _ _ _ _ _⟩)
set_option maxHeartbeats 4000000 in
set_option maxRecDepth 100000 in
theorem kX10_wish (G : xg_T) (d : Nat) (n : Nat) (tau : Nat → Nat × Nat) (vi vl : Nat → Int → Int) (vr : Nat → Int → Option Nat) (k ci : Nat) (ht : k < n ∧ tau k = (ci, 0)) (hK : xp_K 10 ci) (v g : Int) (h2 : vi k 2 = v) (h3 : vi k 3 = g) (hv : 0 ≤ v ∧ v ≤ 9) (hg : 2 ≤ g ∧ g ≤ 12) (q : Int) (hq : 0 ≤ q ∧ q ≤ g) (r : Int) (hr : 0 ≤ r ∧ r ≤ 9) : xm G yX10_wish cX10_wish 3 (some .int) (d + 3) 0 0 [xa_r k, xa_i q, xa_i r] n tau vi vl vr (xp_i (fun z9 n1 t1 a1 b1 c1 => z9 = (if r = 0 then 1 + q % (v + 2) else r) ∧ xs_0 n tau vi vl vr n1 t1 a1 b1 c1)) := by
  refine xm.of (lv := [(0, xa_r k), (1, xa_i q), (2, xa_i r)]) (by decide) (Nat.le_of_ble_eq_true rfl) rfl (fun K hC hM hRm => ?_)
  refine vx_iload_n hC 2 rfl eX10_wish_0 ?_
  refine vx_if_eq hC (tgt := 8) (by omega) (by decide) eX10_wish_1 (fun c1 => ?_) (fun c1 => ?_)
  · refine vx_aload_n hC 0 rfl eX10_wish_8 ?_
    refine vx_iload_n hC 1 rfl eX10_wish_9 ?_
    refine vx_iload_n hC 2 rfl eX10_wish_10 ?_
    refine vx_callSU_i hC (kX7_wish G d _ _ _ _ _ k ci ht (Or.inr hK) v g h2 h3 hv hg q hq r hr) ly_X10_7 ht ((congrArg (fun z => vwCl[z]?) (show ci = 10 from hK)).trans rfl) rfl hRm (by omega) (Nat.le_of_ble_eq_true rfl) rfl eX10_wish_11 (fun x2 n9 t9 a9 b9 c9 hx2 => ?_)
    obtain ⟨hx2, rfl, rfl, rfl, rfl, rfl⟩ := hx2
    exact vx_iret hC hM rfl eX10_wish_14 (⟨_, rfl, by split <;> omega, xs_0.rf _ _ _ _ _⟩)
  · refine vx_iload_n hC 2 rfl eX10_wish_4 ?_
    refine vx_goto hC (tgt := 14) (by decide) eX10_wish_5 ?_
    exact vx_iret hC hM rfl eX10_wish_14 (⟨_, rfl, by split <;> omega, xs_0.rf _ _ _ _ _⟩)
section XV
variable {G : xg_T} {K : xk_T} {cc : ByteArray} {own : String} {nL : Nat} {Q : State → Prop} {cells slots n : Nat} {tau : Nat → Nat × Nat} {vi vl : Nat → Int → Int} {vr : Nat → Int → Option Nat} {pc pc1 : Nat} {lv : List (Nat × xa_T)} {st : List xa_T}
theorem vx_wish (hC : xk_C G K cc RX6 nL) {d1 mc1 ms1 k : Nat} {kd v g q r : Int} (ht : k < n ∧ tau k = (pn kd, 0)) (h2 : vi k 2 = v) (h3 : vi k 3 = g) (hkd : 0 ≤ kd ∧ kd ≤ 6) (hv : 0 ≤ v ∧ v ≤ 9) (hg : 2 ≤ g ∧ g ≤ 12) (hq : 0 ≤ q ∧ q ≤ g) (hr : 0 ≤ r ∧ r ≤ 9) (hRm : xk_Rm K d1 mc1 ms1) (hcs : 4 ≤ d1 ∧ cells ≤ mc1 ∧ slots ≤ ms1) (hw8 : (st.map xa_c).sum ≤ 8) (hd : xd_D cc pc (.invokevirtual 72) 3 pc1) (kk : xv G K nL Q cells slots n tau vi vl vr pc1 lv (xa_i (mwf kd v g q r) :: st)) : xv G K nL Q cells slots n tau vi vl vr pc lv (xa_i r :: xa_i q :: xa_r k :: st) := by
  rcases (show kd = 0 ∨ kd = 1 ∨ kd = 2 ∨ kd = 3 ∨ kd = 4 ∨ kd = 5 ∨ kd = 6 by omega) with hz | hz | hz | hz | hz | hz | hz
  · subst hz
    refine vx_callU_i hC (kX4_wish G 0 n tau vi vl vr k 4 ht (Or.inl rfl) v g h2 h3 hv hg q hq r hr) lu_X6_72_4 ht rfl rfl hRm (by omega) hw8 rfl hd (fun x n9 t9 a9 b9 c9 h => ?_)
    obtain ⟨hx, rfl, rfl, rfl, rfl, rfl⟩ := h
    rw [hx]
    exact kk
  · subst hz
    refine vx_callU_i hC (kX0_wish G 0 n tau vi vl vr k 0 ht (Or.inl rfl) v g h2 h3 hv hg q hq r hr) lu_X6_72_0 ht rfl rfl hRm (by omega) hw8 rfl hd (fun x n9 t9 a9 b9 c9 h => ?_)
    obtain ⟨hx, rfl, rfl, rfl, rfl, rfl⟩ := h
    rw [hx]
    exact kk
  · subst hz
    refine vx_callU_i hC (kX9_wish G 0 n tau vi vl vr k 9 ht (Or.inl rfl) v g h2 h3 hv hg q hq r hr) lu_X6_72_9 ht rfl rfl hRm (by omega) hw8 rfl hd (fun x n9 t9 a9 b9 c9 h => ?_)
    obtain ⟨hx, rfl, rfl, rfl, rfl, rfl⟩ := h
    rw [hx]
    exact kk
  · subst hz
    refine vx_callU_i hC (kX7_wish G 0 n tau vi vl vr k 7 ht (Or.inl rfl) v g h2 h3 hv hg q hq r hr) lu_X6_72_7 ht rfl rfl hRm (by omega) hw8 rfl hd (fun x n9 t9 a9 b9 c9 h => ?_)
    obtain ⟨hx, rfl, rfl, rfl, rfl, rfl⟩ := h
    rw [hx]
    exact kk
  · subst hz
    refine vx_callU_i hC (kX3_wish G 0 n tau vi vl vr k 3 ht rfl v g h2 h3 hv hg q hq r hr) lu_X6_72_3 ht rfl rfl hRm (by omega) hw8 rfl hd (fun x n9 t9 a9 b9 c9 h => ?_)
    obtain ⟨hx, rfl, rfl, rfl, rfl, rfl⟩ := h
    rw [hx]
    exact kk
  · subst hz
    refine vx_callU_i hC (kX1_wish G 0 n tau vi vl vr k 1 ht rfl v g h2 h3 hv hg q hq r hr) lu_X6_72_1 ht rfl rfl hRm (by omega) hw8 rfl hd (fun x n9 t9 a9 b9 c9 h => ?_)
    obtain ⟨hx, rfl, rfl, rfl, rfl, rfl⟩ := h
    rw [hx]
    exact kk
  · subst hz
    refine vx_callU_i hC (kX10_wish G 0 n tau vi vl vr k 10 ht rfl v g h2 h3 hv hg q hq r hr) lu_X6_72_10 ht rfl rfl hRm (by omega) hw8 rfl hd (fun x n9 t9 a9 b9 c9 h => ?_)
    obtain ⟨hx, rfl, rfl, rfl, rfl, rfl⟩ := h
    rw [hx]
    exact kk
end XV
set_option maxHeartbeats 4000000 in
set_option maxRecDepth 100000 in
theorem kX6_stake (G : xg_T) (d : Nat) (n : Nat) (tau : Nat → Nat × Nat) (vi vl : Nat → Int → Int) (vr : Nat → Int → Option Nat) (hO : xo n tau vr) (s : Int → Int) (hS : rp_S 1 s n tau vi vr) (hV : ms_V s) (p : Int) (hp : 0 ≤ p ∧ p < s 0) (kp : Nat) (hk : rp_P s p kp n tau vi) (q : Int) (hq : 0 ≤ q ∧ q ≤ s (18 + p)) : xm G yX6_stake cX6_stake 5 (some .int) (d + 4) 0 0 [xa_r 1, xa_r kp, xa_i q] n tau vi vl vr (xp_i (fun z9 n1 t1 a1 b1 c1 => z9 = ms_stake s p q ∧ xs_0 n tau vi vl vr n1 t1 a1 b1 c1)) := by
  refine xm.of (lv := [(0, xa_r 1), (1, xa_r kp), (2, xa_i q)]) (by decide) (Nat.le_of_ble_eq_true rfl) rfl (fun K hC hM hRm => ?_)
  obtain ⟨q1, q3, q7, q8, q9, q10, qt, qp, qr, qpl, qtb⟩ := id hS
  have hW : ms_W s := hV.1
  have h60 := hV.2
  obtain ⟨hr, h0, h1, h2, h3, h4, h5, h6, hp0, hrow, hwon, htape, htab⟩ := id hW
  obtain ⟨k1, k2, k3, k4, k5, k6⟩ := id hk
  obtain ⟨g1, g2, g3, g4⟩ := hp0 p hp.1 hp.2
  have g5 := hrow (26 + 4 * p + q % 4) (by omega) (by omega)
  have gl := ms_lim_r hW
  have z1 := mz_le_r q (s (18 + p) - q)
  have z2 := mz_le_r (mz_le q (s (18 + p) - q)) (ms_lim s)
  have z3 := mz_le_r (ms_wish s p q) (ms_most s p q)
  have z4 : ms_most s p q = mz_le (mz_le q (s (18 + p) - q)) (ms_lim s) := rfl
  refine vx_aload_n hC 1 rfl eX6_stake_0 ?_
  refine vx_iload_n hC 2 rfl eX6_stake_1 ?_
  refine vx_aload_n hC 0 rfl eX6_stake_2 ?_
  refine vx_gr hC 6 (ot_1 hO) lf_X6_31 rfl (or_1_6 hO) eX6_stake_3 ?_
  refine vx_aload_n hC 1 rfl eX6_stake_6 ?_
  refine vx_gi hC 1 ⟨k1.2, k2⟩ (lf_X6_69 (xp_pn _)) rfl eX6_stake_7 ?_
  refine vx_eqi k4 ?_
  refine vx_iconst hC eX6_stake_10 ?_
  refine vx_imul hC eX6_stake_11 ?_
  refine vx_iload_n hC 2 rfl eX6_stake_12 ?_
  refine vx_iconst hC eX6_stake_13 ?_
  refine vx_iand hC eX6_stake_14 ?_
  refine vx_eqi (and3 (by omega)) ?_
  refine vx_iadd hC eX6_stake_15 ?_
  refine vx_iaload hC (ot_6 hO) (by omega) (by omega) eX6_stake_16 ?_
  refine vx_eqi (y := s (26 + 4 * p + q % 4)) (by have g9 := qr (p * 4 + q % 4) (by omega) (by omega); rw [show 26 + 4 * p + q % 4 = 26 + (p * 4 + q % 4) by omega]; exact g9) ?_
  refine vx_wish hC ⟨k1.2, k2⟩ k5 k6 (by omega) (by omega) (by omega) (by omega) (by omega) hRm (by omega) (Nat.le_of_ble_eq_true rfl) eX6_stake_17 ?_
  refine vx_eqi (y := ms_wish s p q) rfl ?_
  have gw := ms_wish_r hW hp hq
  refine vx_istore_n hC (lv1 := [(3, xa_i (ms_wish s p q)), (0, xa_r 1), (1, xa_r kp), (2, xa_i q)]) (by decide) rfl eX6_stake_20 ?_
  refine vx_iload_n hC 3 rfl eX6_stake_21 ?_
  refine vx_aload_n hC 2 rfl eX6_stake_22 ?_
  refine vx_gi hC 3 ⟨k1.2, k2⟩ (lf_X6_76 (xp_pn _)) rfl eX6_stake_23 ?_
  refine vx_eqi k6 ?_
  refine vx_iload_n hC 3 rfl eX6_stake_26 ?_
  refine vx_isub hC eX6_stake_27 ?_
  refine vx_mmin hC (by omega) ly_X6_79 hRm (by omega) (Nat.le_of_ble_eq_true rfl) eX6_stake_28 ?_
  refine vx_top (fun x1 hx1 => ?_)
  have rx1 := mmin_r hx1
  refine vx_istore hC (lv1 := [(4, xa_i x1), (3, xa_i (ms_wish s p q)), (0, xa_r 1), (1, xa_r kp), (2, xa_i q)]) (by decide) rfl eX6_stake_31 ?_
  refine vx_iload_n hC 1 rfl eX6_stake_33 ?_
  refine vx_iload hC 0 rfl eX6_stake_34 ?_
  refine vx_mmin hC (by omega) ly_X6_79 hRm (by omega) (Nat.le_of_ble_eq_true rfl) eX6_stake_36 ?_
  refine vx_top (fun x2 hx2 => ?_)
  have rx2 := mmin_r hx2
  refine vx_aload_n hC 2 rfl eX6_stake_39 ?_
  refine vx_callV_i hC (kX6_limit G (d + 1) _ _ _ _ _ hO s hS hV) ly_X6_84 (ot_1 hO) rfl rfl rfl hRm (by omega) (Nat.le_of_ble_eq_true rfl) rfl eX6_stake_40 (fun x3 n9 t9 a9 b9 c9 hx3 => ?_)
  obtain ⟨hx3, rfl, rfl, rfl, rfl, rfl⟩ := hx3
  refine vx_mmin hC (by omega) ly_X6_79 hRm (by omega) (Nat.le_of_ble_eq_true rfl) eX6_stake_43 ?_
  refine vx_top (fun x4 hx4 => ?_)
  have rx4 := mmin_r hx4
  exact vx_iret hC hM rfl eX6_stake_46 (⟨_, rfl, by show _ = mz_le (ms_wish s p q) (ms_most s p q); omega, xs_0.rf _ _ _ _ _⟩)
set_option maxHeartbeats 4000000 in
set_option maxRecDepth 100000 in
theorem kX6_thrown (G : xg_T) (d : Nat) (n : Nat) (tau : Nat → Nat × Nat) (vi vl : Nat → Int → Int) (vr : Nat → Int → Option Nat) (hO : xo n tau vr) (s : Int → Int) (hS : rp_S 1 s n tau vi vr) (hV : ms_V s) (p : Int) (hp : 0 ≤ p ∧ p < s 0) (kp : Nat) (hk : rp_P s p kp n tau vi) (q : Int) (hq : 0 ≤ q ∧ q ≤ s (18 + p)) (w : Int) (hw : w = 0 ∨ w = 1) : xm G yX6_thrown cX6_thrown 5 (some .int) (d + 5) 0 0 [xa_r 1, xa_r kp, xa_i q, xa_i w] n tau vi vl vr (xp_i (fun z9 n1 t1 a1 b1 c1 => z9 = (if w = 0 then q - ms_stake s p q else q + ms_stake s p q) ∧ xs_0 n tau vi vl vr n1 t1 a1 b1 c1)) := by
  refine xm.of (lv := [(0, xa_r 1), (1, xa_r kp), (2, xa_i q), (3, xa_i w)]) (by decide) (Nat.le_of_ble_eq_true rfl) rfl (fun K hC hM hRm => ?_)
  obtain ⟨q1, q3, q7, q8, q9, q10, qt, qp, qr, qpl, qtb⟩ := id hS
  have hW : ms_W s := hV.1
  have h60 := hV.2
  obtain ⟨hr, h0, h1, h2, h3, h4, h5, h6, hp0, hrow, hwon, htape, htab⟩ := id hW
  obtain ⟨k1, k2, k3, k4, k5, k6⟩ := id hk
  obtain ⟨g1, g2, g3, g4⟩ := hp0 p hp.1 hp.2
  refine vx_aload_n hC 0 rfl eX6_thrown_0 ?_
  refine vx_aload_n hC 1 rfl eX6_thrown_1 ?_
  refine vx_iload_n hC 2 rfl eX6_thrown_2 ?_
  refine vx_callV_i hC (kX6_stake G d _ _ _ _ _ hO s hS hV p (by omega) kp hk q (by omega)) ly_X6_97 (ot_1 hO) rfl rfl rfl hRm (by omega) (Nat.le_of_ble_eq_true rfl) rfl eX6_thrown_3 (fun x1 n9 t9 a9 b9 c9 hx1 => ?_)
  obtain ⟨hx1, rfl, rfl, rfl, rfl, rfl⟩ := hx1
  refine vx_istore hC (lv1 := [(4, xa_i x1), (0, xa_r 1), (1, xa_r kp), (2, xa_i q), (3, xa_i w)]) (by decide) rfl eX6_thrown_6 ?_
  refine vx_iload_n hC 4 rfl eX6_thrown_8 ?_
  refine vx_if_eq hC (tgt := 19) (by omega) (by decide) eX6_thrown_9 (fun c2 => ?_) (fun c2 => ?_)
  · refine vx_iload_n hC 3 rfl eX6_thrown_19 ?_
    refine vx_iload hC 0 rfl eX6_thrown_20 ?_
    refine vx_isub hC eX6_thrown_22 ?_
    exact vx_iret hC hM rfl eX6_thrown_23 (⟨_, rfl, by split <;> omega, xs_0.rf _ _ _ _ _⟩)
  · refine vx_iload_n hC 3 rfl eX6_thrown_12 ?_
    refine vx_iload hC 0 rfl eX6_thrown_13 ?_
    refine vx_iadd hC eX6_thrown_15 ?_
    refine vx_goto hC (tgt := 23) (by decide) eX6_thrown_16 ?_
    exact vx_iret hC hM rfl eX6_thrown_23 (⟨_, rfl, by split <;> omega, xs_0.rf _ _ _ _ _⟩)
