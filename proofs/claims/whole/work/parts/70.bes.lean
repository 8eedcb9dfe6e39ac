set_option maxHeartbeats 4000000 in
set_option maxRecDepth 100000 in
theorem kX11_best (G : xg_T) (d : Nat) (n : Nat) (tau : Nat → Nat × Nat) (vi vl : Nat → Int → Int) (vr : Nat → Int → Option Nat) (hO : xo n tau vr) (s im : Int → Int) (has ran : Int) (bod : Int → Int) (hR : RCl s im has ran bod n tau vi vr) (hV : ms_V s) (q m : Int) (hq : -2147483648 ≤ q ∧ q < 2147483648) (hm : -2147483648 ≤ m ∧ m < 2147483648) : xm G yX11_best cX11_best 4 (some .int) (d + 6) 0 0 [xa_r 0, xa_i q, xa_i m] n tau vi vl vr (xp_i (fun z9 n1 t1 a1 b1 c1 => z9 = sp_best s q m ∧ cq (s) (im) (has) (ran) (bod) n tau vi vl n1 t1 a1 b1 c1)) := by
  refine xm.of (lv := [(0, xa_r 0), (1, xa_i q), (2, xa_i m)]) (by decide) (Nat.le_of_ble_eq_true rfl) rfl (fun K hC hM hRm => ?_)
  have hS : rp_S 1 s n tau vi vr := hR.1
  obtain ⟨q1, q3, q7, q8, q9, q10, qt, qp, qr, qpl, qtb⟩ := id hS
  have hW : ms_W s := hV.1
  have h60 := hV.2
  obtain ⟨hr, h0, h1, h2, h3, h4, h5, h6, hp0, hrow, hwon, htape, htab⟩ := id hW
  obtain ⟨-, R2, R3, R4, R5, R6, R7, R8, R9, R10⟩ := id hR
  refine vx_aload_n hC 0 rfl eX11_best_0 ?_
  refine vx_gr hC 0 (ot_0 hO) lf_X11_12 rfl (or_0_0 hO) eX11_best_1 ?_
  refine vx_iload_n hC 1 rfl eX11_best_4 ?_
  refine vx_callV_q hC (kX6_playerAt G (d + 4) _ _ _ _ _ hO s hS hV q (by omega)) ly_X11_93 (ot_1 hO) rfl rfl rfl hRm (by omega) (Nat.le_of_ble_eq_true rfl) rfl eX11_best_5 (fun r1 n9 t9 a9 b9 c9 hr1 => ?_)
  obtain ⟨hr1, rfl, rfl, rfl, rfl, rfl⟩ := hr1
  rcases hr1 with ⟨rfl, hno⟩ | ⟨kp, rfl, hyes, hkp⟩
  · refine vx_astore_n hC (lv1 := [(3, xa_n), (0, xa_r 0), (1, xa_i q), (2, xa_i m)]) (by decide) rfl eX11_best_8 ?_
    refine vx_aload_n hC 0 rfl eX11_best_9 ?_
    refine vx_ifnonnull hC (tgt := 15) (by decide) eX11_best_10 (fun k h => by cases h) (fun _ => ?_)
    refine vx_iconst hC eX11_best_13 ?_
    exact vx_iret hC hM rfl eX11_best_14 (⟨_, rfl, by unfold sp_best; (repeat (first | rw [if_pos (by omega)] | rw [if_neg (by omega)])); all_goals (first | rfl | (rw [hfs9]; simp only [])), cq_ro hO hR (fun k hk => rfl) (fun k hk => rfl)⟩)
  · obtain ⟨k1, k2, k3, k4, k5, k6⟩ := id hkp
    obtain ⟨g1, g2, g3, g4⟩ := hp0 q (by omega) (by omega)
    refine vx_astore_n hC (lv1 := [(3, xa_r kp), (0, xa_r 0), (1, xa_i q), (2, xa_i m)]) (by decide) rfl eX11_best_8 ?_
    refine vx_aload_n hC 0 rfl eX11_best_9 ?_
    refine vx_ifnonnull hC (tgt := 15) (by decide) eX11_best_10 (fun _ _ => ?_) (fun h => by cases h)
    refine vx_iload_n hC 3 rfl eX11_best_15 ?_
    refine vx_callS_i hC (kX11_isSpan G (d + 4) _ _ _ _ _ _ (by omega)) ly_X11_125 rfl hRm (by omega) (Nat.le_of_ble_eq_true rfl) rfl eX11_best_16 (fun x2 n9 t9 a9 b9 c9 hx2 => ?_)
    obtain ⟨hx2, rfl, rfl, rfl, rfl, rfl⟩ := hx2
    refine vx_if_ne hC (tgt := 25) (by omega) (by decide) eX11_best_19 (fun c3 => ?_) (fun c3 => ?_)
    · refine vx_aload_n hC 1 rfl eX11_best_25 ?_
      refine vx_gr hC 3 (ot_0 hO) lf_X11_24 rfl (or_0_3 hO) eX11_best_26 ?_
      refine vx_aload_n hC 1 rfl eX11_best_29 ?_
      refine vx_gr hC 0 (ot_0 hO) lf_X11_12 rfl (or_0_0 hO) eX11_best_30 ?_
      refine vx_aload_n hC 0 rfl eX11_best_33 ?_
      refine vx_callV_v hC (kX2_lookAtOdds G d _ _ _ _ _ hO s hS hV q (by omega) kp hkp) ly_X11_163 (ot_15 hO) rfl rfl rfl hRm (by omega) (Nat.le_of_ble_eq_true rfl) rfl eX11_best_34 (fun ng5 tg5 ag5 bg5 cg5 hg5 => ?_)
      obtain ⟨qg5_0, rfl, rfl, rfl, rfl, frg5⟩ := hg5
      have hg5_1_1 : ag5 1 1 = s 3 := (congrFun (frg5 1 (by omega)) _).trans q1
      have hg5_1_3 : ag5 1 3 = s 1 := (congrFun (frg5 1 (by omega)) _).trans q3
      have hg5_1_7 : ag5 1 7 = s 0 := (congrFun (frg5 1 (by omega)) _).trans q7
      have hg5_1_8 : ag5 1 8 = s 5 := (congrFun (frg5 1 (by omega)) _).trans q8
      have hg5_1_9 : ag5 1 9 = s 2 := (congrFun (frg5 1 (by omega)) _).trans q9
      have hg5_1_10 : ag5 1 10 = wb s (s 2).toNat := (congrFun (frg5 1 (by omega)) _).trans q10
      have hg5_2 : ag5 2 = vi 2 := (frg5 2 (by omega))
      have hg5_5 : ag5 5 = vi 5 := (frg5 5 (by omega))
      have hg5_6 : ag5 6 = vi 6 := (frg5 6 (by omega))
      have hg5_kp_0 : ag5 kp 0 = s (10 + q) := (congrFun (frg5 kp (by omega)) _).trans k3
      have hg5_kp_1 : ag5 kp 1 = q := (congrFun (frg5 kp (by omega)) _).trans k4
      have hg5_kp_2 : ag5 kp 2 = s (14 + q) := (congrFun (frg5 kp (by omega)) _).trans k5
      have hg5_kp_3 : ag5 kp 3 = s (18 + q) := (congrFun (frg5 kp (by omega)) _).trans k6
      have frvig5 : ∀ k : Nat, (k < 7 ∨ (8 ≤ k ∧ k < 14) ∨ 30 ≤ k) → ag5 k = vi k := fun k hk => (frg5 k (by omega))
      refine vx_aload_n hC 1 rfl eX11_best_37 ?_
      refine vx_gr hC 3 (ot_0 hO) lf_X11_24 rfl (or_0_3 hO) eX11_best_38 ?_
      refine vx_aload_n hC 0 rfl eX11_best_41 ?_
      refine vx_gi hC 3 ⟨k1.2, k2⟩ (lf_X11_105 (xp_pn _)) rfl eX11_best_42 ?_
      refine vx_eqi hg5_kp_3 ?_
      refine vx_iload_n hC 3 rfl eX11_best_45 ?_
      refine vx_aload_n hC 1 rfl eX11_best_46 ?_
      refine vx_gr hC 0 (ot_0 hO) lf_X11_12 rfl (or_0_0 hO) eX11_best_47 ?_
      refine vx_callV_i hC (kX6_limit G (d + 3) _ _ _ _ _ hO s (hS.fr (fun k hk => frvig5 k (by omega)) (Nat.le_refl _) (fun _ _ => rfl) (fun _ _ => rfl)) hV) ly_X11_72 (ot_1 hO) rfl rfl rfl hRm (by omega) (Nat.le_of_ble_eq_true rfl) rfl eX11_best_50 (fun x6 n9 t9 a9 b9 c9 hx6 => ?_)
      obtain ⟨hx6, rfl, rfl, rfl, rfl, rfl⟩ := hx6
      have hlr := ms_lim_r hW
      rw [← hx6] at hlr
      refine vx_callV_v hC (kX2_search G (d + 3) _ _ _ _ _ hO (ms_odds s q) (s (18 + q)) m x6 (by omega) (by omega) (by omega) (ms_od_r s q) qg5_0) ly_X11_166 (ot_15 hO) rfl rfl rfl hRm (by omega) (Nat.le_of_ble_eq_true rfl) rfl eX11_best_53 (fun ng8 tg8 ag8 bg8 cg8 hg8 => ?_)
      obtain ⟨qg8_0, qg8_1, qg8_2, rfl, rfl, rfl, frg8⟩ := hg8
      have hg8_1_1 : ag8 1 1 = s 3 := (congrFun (frg8 1 (by omega)).1 _).trans hg5_1_1
      have hg8_1_3 : ag8 1 3 = s 1 := (congrFun (frg8 1 (by omega)).1 _).trans hg5_1_3
      have hg8_1_7 : ag8 1 7 = s 0 := (congrFun (frg8 1 (by omega)).1 _).trans hg5_1_7
      have hg8_1_8 : ag8 1 8 = s 5 := (congrFun (frg8 1 (by omega)).1 _).trans hg5_1_8
      have hg8_1_9 : ag8 1 9 = s 2 := (congrFun (frg8 1 (by omega)).1 _).trans hg5_1_9
      have hg8_1_10 : ag8 1 10 = wb s (s 2).toNat := (congrFun (frg8 1 (by omega)).1 _).trans hg5_1_10
      have hg8_2 : ag8 2 = vi 2 := (frg8 2 (by omega)).1.trans hg5_2
      have hg8_5 : ag8 5 = vi 5 := (frg8 5 (by omega)).1.trans hg5_5
      have hg8_6 : ag8 6 = vi 6 := (frg8 6 (by omega)).1.trans hg5_6
      have hg8_kp_0 : ag8 kp 0 = s (10 + q) := (congrFun (frg8 kp (by omega)).1 _).trans hg5_kp_0
      have hg8_kp_1 : ag8 kp 1 = q := (congrFun (frg8 kp (by omega)).1 _).trans hg5_kp_1
      have hg8_kp_2 : ag8 kp 2 = s (14 + q) := (congrFun (frg8 kp (by omega)).1 _).trans hg5_kp_2
      have hg8_kp_3 : ag8 kp 3 = s (18 + q) := (congrFun (frg8 kp (by omega)).1 _).trans hg5_kp_3
      have hg8_21 : ag8 21 = ag5 21 := (frg8 21 (by omega)).1
      have frvig8 : ∀ k : Nat, (k < 7 ∨ (8 ≤ k ∧ k < 14) ∨ 30 ≤ k) → ag8 k = vi k := fun k hk => (frg8 k (by omega)).1.trans (frvig5 k hk)
      have frvlg8 : ∀ k : Nat, (k < 7 ∨ (8 ≤ k ∧ k < 14) ∨ 30 ≤ k) → bg8 k = vl k := fun k hk => (frg8 k (by omega)).2
      have ht10 := ten_le (t := (m).toNat) (by omega)
      have hk9 : 0 ≤ bs_n (ms_odds s q) (s (18 + q)) x6 m.toNat (bs_0 (s (18 + q))) (s (22 + q)) ∧ bs_n (ms_odds s q) (s (18 + q)) x6 m.toNat (bs_0 (s (18 + q))) (s (22 + q)) ≤ (10 : Int) ^ m.toNat := bs_ok_n (od := ms_odds s q) (g := s (18 + q)) (lim := x6) (ms_od_r s q) (by omega) m.toNat (s (22 + q)) (by omega) (by omega)
      refine vx_aload_n hC 1 rfl eX11_best_56 ?_
      refine vx_gr hC 3 (ot_0 hO) lf_X11_24 rfl (or_0_3 hO) eX11_best_57 ?_
      refine vx_gr hC 4 (ot_15 hO) lf_X11_170 rfl (or_15_4 hO) eX11_best_60 ?_
      refine vx_aload_n hC 1 rfl eX11_best_63 ?_
      refine vx_gr hC 0 (ot_0 hO) lf_X11_12 rfl (or_0_0 hO) eX11_best_64 ?_
      refine vx_gr hC 5 (ot_1 hO) lf_X11_87 rfl (or_1_5 hO) eX11_best_67 ?_
      refine vx_iload_n hC 2 rfl eX11_best_70 ?_
      refine vx_iaload hC (ot_5 hO) (by omega) (by omega) eX11_best_71 ?_
      refine vx_eqi (congrFun hg8_5 _) ?_
      refine vx_eqi (y := s (22 + q)) (by first | exact qp q (by omega) (by omega) | (rw [frvig8 5 (by omega)]; exact qp q (by omega) (by omega))) ?_
      refine vx_iaload hC (ot_18 hO) (by omega) (by omega) eX11_best_72 ?_
      have hfs9 := qg8_2 (s (22 + q)) (by omega) (by omega)
      exact vx_iret hC hM rfl eX11_best_73 (⟨_, rfl, by unfold sp_best; (repeat (first | rw [if_pos (by omega)] | rw [if_neg (by omega)])); all_goals (first | rfl | (rw [hfs9]; simp only [hx6])), cq_ro hO hR (fun k hk => frvig8 k hk) (fun k hk => frvlg8 k (by omega))⟩)
    · refine vx_bipush hC (by decide) eX11_best_22 ?_
      exact vx_iret hC hM rfl eX11_best_24 (⟨_, rfl, by unfold sp_best; (repeat (first | rw [if_pos (by omega)] | rw [if_neg (by omega)])); all_goals (first | rfl | (rw [hfs9]; simp only [])), cq_ro hO hR (fun k hk => rfl) (fun k hk => rfl)⟩)
set_option maxHeartbeats 4000000 in
set_option maxRecDepth 100000 in
theorem kX11_bestChance (G : xg_T) (d : Nat) (n : Nat) (tau : Nat → Nat × Nat) (vi vl : Nat → Int → Int) (vr : Nat → Int → Option Nat) (hO : xo n tau vr) (s im : Int → Int) (has ran : Int) (bod : Int → Int) (hR : RCl s im has ran bod n tau vi vr) (hV : ms_V s) (q m pt : Int) (hq : -2147483648 ≤ q ∧ q < 2147483648) (hm : -2147483648 ≤ m ∧ m < 2147483648) (hpt : -2147483648 ≤ pt ∧ pt < 2147483648) : xm G yX11_bestChance cX11_bestChance 5 (some .long) (d + 6) 0 0 [xa_r 0, xa_i q, xa_i m, xa_i pt] n tau vi vl vr (xp_l (fun z9 n1 t1 a1 b1 c1 => z9 = sp_bestC s q m pt ∧ cq (s) (im) (has) (ran) (bod) n tau vi vl n1 t1 a1 b1 c1)) := by
  refine xm.of (lv := [(0, xa_r 0), (1, xa_i q), (2, xa_i m), (3, xa_i pt)]) (by decide) (Nat.le_of_ble_eq_true rfl) rfl (fun K hC hM hRm => ?_)
  have hS : rp_S 1 s n tau vi vr := hR.1
  obtain ⟨q1, q3, q7, q8, q9, q10, qt, qp, qr, qpl, qtb⟩ := id hS
  have hW : ms_W s := hV.1
  have h60 := hV.2
  obtain ⟨hr, h0, h1, h2, h3, h4, h5, h6, hp0, hrow, hwon, htape, htab⟩ := id hW
  obtain ⟨-, R2, R3, R4, R5, R6, R7, R8, R9, R10⟩ := id hR
  refine vx_aload_n hC 0 rfl eX11_bestChance_0 ?_
  refine vx_gr hC 0 (ot_0 hO) lf_X11_12 rfl (or_0_0 hO) eX11_bestChance_1 ?_
  refine vx_iload_n hC 1 rfl eX11_bestChance_4 ?_
  refine vx_callV_q hC (kX6_playerAt G (d + 4) _ _ _ _ _ hO s hS hV q (by omega)) ly_X11_93 (ot_1 hO) rfl rfl rfl hRm (by omega) (Nat.le_of_ble_eq_true rfl) rfl eX11_bestChance_5 (fun r1 n9 t9 a9 b9 c9 hr1 => ?_)
  obtain ⟨hr1, rfl, rfl, rfl, rfl, rfl⟩ := hr1
  rcases hr1 with ⟨rfl, hno⟩ | ⟨kp, rfl, hyes, hkp⟩
  · refine vx_astore hC (lv1 := [(4, xa_n), (0, xa_r 0), (1, xa_i q), (2, xa_i m), (3, xa_i pt)]) (by decide) rfl eX11_bestChance_8 ?_
    refine vx_aload hC 0 rfl eX11_bestChance_10 ?_
    refine vx_ifnull hC (tgt := 29) (by decide) eX11_bestChance_12 (fun _ => ?_) (fun k h => by cases h)
    refine vx_ldc2 hC (-9223372036854775808) wd_680 eX11_bestChance_29 ?_
    exact vx_lret hC hM eX11_bestChance_32 (⟨_, rfl, by unfold sp_bestC; first | (rw [if_pos (by unfold ask; omega)]; unfold bs_f; simp only []; done) | (rw [if_neg (by unfold ask; omega)]; rfl), cq_ro hO hR (fun k hk => rfl) (fun k hk => rfl)⟩)
  · obtain ⟨k1, k2, k3, k4, k5, k6⟩ := id hkp
    obtain ⟨g1, g2, g3, g4⟩ := hp0 q (by omega) (by omega)
    refine vx_astore hC (lv1 := [(4, xa_r kp), (0, xa_r 0), (1, xa_i q), (2, xa_i m), (3, xa_i pt)]) (by decide) rfl eX11_bestChance_8 ?_
    refine vx_aload hC 0 rfl eX11_bestChance_10 ?_
    refine vx_ifnull hC (tgt := 29) (by decide) eX11_bestChance_12 (fun h => by cases h) (fun _ _ => ?_)
    refine vx_iload_n hC 3 rfl eX11_bestChance_15 ?_
    refine vx_callS_i hC (kX11_isSpan G (d + 4) _ _ _ _ _ _ (by omega)) ly_X11_125 rfl hRm (by omega) (Nat.le_of_ble_eq_true rfl) rfl eX11_bestChance_16 (fun x2 n9 t9 a9 b9 c9 hx2 => ?_)
    obtain ⟨hx2, rfl, rfl, rfl, rfl, rfl⟩ := hx2
    refine vx_if_eq hC (tgt := 29) (by omega) (by decide) eX11_bestChance_19 (fun c3 => ?_) (fun c3 => ?_)
    · refine vx_ldc2 hC (-9223372036854775808) wd_680 eX11_bestChance_29 ?_
      exact vx_lret hC hM eX11_bestChance_32 (⟨_, rfl, by unfold sp_bestC; first | (rw [if_pos (by unfold ask; omega)]; unfold bs_f; simp only []; done) | (rw [if_neg (by unfold ask; omega)]; rfl), cq_ro hO hR (fun k hk => rfl) (fun k hk => rfl)⟩)
    · refine vx_iload_n hC 4 rfl eX11_bestChance_22 ?_
      refine vx_callS_i hC (kX11_isPart G (d + 4) _ _ _ _ _ _ (by omega)) ly_X11_128 rfl hRm (by omega) (Nat.le_of_ble_eq_true rfl) rfl eX11_bestChance_23 (fun x4 n9 t9 a9 b9 c9 hx4 => ?_)
      obtain ⟨hx4, rfl, rfl, rfl, rfl, rfl⟩ := hx4
      refine vx_if_ne hC (tgt := 33) (by omega) (by decide) eX11_bestChance_26 (fun c5 => ?_) (fun c5 => ?_)
      · refine vx_aload_n hC 1 rfl eX11_bestChance_33 ?_
        refine vx_gr hC 3 (ot_0 hO) lf_X11_24 rfl (or_0_3 hO) eX11_bestChance_34 ?_
        refine vx_aload_n hC 1 rfl eX11_bestChance_37 ?_
        refine vx_gr hC 0 (ot_0 hO) lf_X11_12 rfl (or_0_0 hO) eX11_bestChance_38 ?_
        refine vx_aload hC 0 rfl eX11_bestChance_41 ?_
        refine vx_callV_v hC (kX2_lookAtOdds G d _ _ _ _ _ hO s hS hV q (by omega) kp hkp) ly_X11_163 (ot_15 hO) rfl rfl rfl hRm (by omega) (Nat.le_of_ble_eq_true rfl) rfl eX11_bestChance_43 (fun ng7 tg7 ag7 bg7 cg7 hg7 => ?_)
        obtain ⟨qg7_0, rfl, rfl, rfl, rfl, frg7⟩ := hg7
        have hg7_1_1 : ag7 1 1 = s 3 := (congrFun (frg7 1 (by omega)) _).trans q1
        have hg7_1_3 : ag7 1 3 = s 1 := (congrFun (frg7 1 (by omega)) _).trans q3
        have hg7_1_7 : ag7 1 7 = s 0 := (congrFun (frg7 1 (by omega)) _).trans q7
        have hg7_1_8 : ag7 1 8 = s 5 := (congrFun (frg7 1 (by omega)) _).trans q8
        have hg7_1_9 : ag7 1 9 = s 2 := (congrFun (frg7 1 (by omega)) _).trans q9
        have hg7_1_10 : ag7 1 10 = wb s (s 2).toNat := (congrFun (frg7 1 (by omega)) _).trans q10
        have hg7_2 : ag7 2 = vi 2 := (frg7 2 (by omega))
        have hg7_5 : ag7 5 = vi 5 := (frg7 5 (by omega))
        have hg7_6 : ag7 6 = vi 6 := (frg7 6 (by omega))
        have hg7_kp_0 : ag7 kp 0 = s (10 + q) := (congrFun (frg7 kp (by omega)) _).trans k3
        have hg7_kp_1 : ag7 kp 1 = q := (congrFun (frg7 kp (by omega)) _).trans k4
        have hg7_kp_2 : ag7 kp 2 = s (14 + q) := (congrFun (frg7 kp (by omega)) _).trans k5
        have hg7_kp_3 : ag7 kp 3 = s (18 + q) := (congrFun (frg7 kp (by omega)) _).trans k6
        have frvig7 : ∀ k : Nat, (k < 7 ∨ (8 ≤ k ∧ k < 14) ∨ 30 ≤ k) → ag7 k = vi k := fun k hk => (frg7 k (by omega))
        refine vx_aload_n hC 1 rfl eX11_bestChance_46 ?_
        refine vx_gr hC 3 (ot_0 hO) lf_X11_24 rfl (or_0_3 hO) eX11_bestChance_47 ?_
        refine vx_aload hC 0 rfl eX11_bestChance_50 ?_
        refine vx_gi hC 3 ⟨k1.2, k2⟩ (lf_X11_105 (xp_pn _)) rfl eX11_bestChance_52 ?_
        refine vx_eqi hg7_kp_3 ?_
        refine vx_iload_n hC 3 rfl eX11_bestChance_55 ?_
        refine vx_aload_n hC 1 rfl eX11_bestChance_56 ?_
        refine vx_gr hC 0 (ot_0 hO) lf_X11_12 rfl (or_0_0 hO) eX11_bestChance_57 ?_
        refine vx_callV_i hC (kX6_limit G (d + 3) _ _ _ _ _ hO s (hS.fr (fun k hk => frvig7 k (by omega)) (Nat.le_refl _) (fun _ _ => rfl) (fun _ _ => rfl)) hV) ly_X11_72 (ot_1 hO) rfl rfl rfl hRm (by omega) (Nat.le_of_ble_eq_true rfl) rfl eX11_bestChance_60 (fun x8 n9 t9 a9 b9 c9 hx8 => ?_)
        obtain ⟨hx8, rfl, rfl, rfl, rfl, rfl⟩ := hx8
        have hlr := ms_lim_r hW
        rw [← hx8] at hlr
        refine vx_callV_v hC (kX2_search G (d + 3) _ _ _ _ _ hO (ms_odds s q) (s (18 + q)) m x8 (by omega) (by omega) (by omega) (ms_od_r s q) qg7_0) ly_X11_166 (ot_15 hO) rfl rfl rfl hRm (by omega) (Nat.le_of_ble_eq_true rfl) rfl eX11_bestChance_63 (fun ng10 tg10 ag10 bg10 cg10 hg10 => ?_)
        obtain ⟨qg10_0, qg10_1, qg10_2, rfl, rfl, rfl, frg10⟩ := hg10
        have hg10_1_1 : ag10 1 1 = s 3 := (congrFun (frg10 1 (by omega)).1 _).trans hg7_1_1
        have hg10_1_3 : ag10 1 3 = s 1 := (congrFun (frg10 1 (by omega)).1 _).trans hg7_1_3
        have hg10_1_7 : ag10 1 7 = s 0 := (congrFun (frg10 1 (by omega)).1 _).trans hg7_1_7
        have hg10_1_8 : ag10 1 8 = s 5 := (congrFun (frg10 1 (by omega)).1 _).trans hg7_1_8
        have hg10_1_9 : ag10 1 9 = s 2 := (congrFun (frg10 1 (by omega)).1 _).trans hg7_1_9
        have hg10_1_10 : ag10 1 10 = wb s (s 2).toNat := (congrFun (frg10 1 (by omega)).1 _).trans hg7_1_10
        have hg10_2 : ag10 2 = vi 2 := (frg10 2 (by omega)).1.trans hg7_2
        have hg10_5 : ag10 5 = vi 5 := (frg10 5 (by omega)).1.trans hg7_5
        have hg10_6 : ag10 6 = vi 6 := (frg10 6 (by omega)).1.trans hg7_6
        have hg10_kp_0 : ag10 kp 0 = s (10 + q) := (congrFun (frg10 kp (by omega)).1 _).trans hg7_kp_0
        have hg10_kp_1 : ag10 kp 1 = q := (congrFun (frg10 kp (by omega)).1 _).trans hg7_kp_1
        have hg10_kp_2 : ag10 kp 2 = s (14 + q) := (congrFun (frg10 kp (by omega)).1 _).trans hg7_kp_2
        have hg10_kp_3 : ag10 kp 3 = s (18 + q) := (congrFun (frg10 kp (by omega)).1 _).trans hg7_kp_3
        have hg10_21 : ag10 21 = ag7 21 := (frg10 21 (by omega)).1
        have frvig10 : ∀ k : Nat, (k < 7 ∨ (8 ≤ k ∧ k < 14) ∨ 30 ≤ k) → ag10 k = vi k := fun k hk => (frg10 k (by omega)).1.trans (frvig7 k hk)
        have frvlg10 : ∀ k : Nat, (k < 7 ∨ (8 ≤ k ∧ k < 14) ∨ 30 ≤ k) → bg10 k = vl k := fun k hk => (frg10 k (by omega)).2
        have ht10 := ten_le (t := (m).toNat) (by omega)
        have hk11 : 0 ≤ bs_n (ms_odds s q) (s (18 + q)) x8 m.toNat (bs_0 (s (18 + q))) (s (22 + q)) ∧ bs_n (ms_odds s q) (s (18 + q)) x8 m.toNat (bs_0 (s (18 + q))) (s (22 + q)) ≤ (10 : Int) ^ m.toNat := bs_ok_n (od := ms_odds s q) (g := s (18 + q)) (lim := x8) (ms_od_r s q) (by omega) m.toNat (s (22 + q)) (by omega) (by omega)
        refine vx_aload_n hC 1 rfl eX11_bestChance_66 ?_
        refine vx_gr hC 3 (ot_0 hO) lf_X11_24 rfl (or_0_3 hO) eX11_bestChance_67 ?_
        refine vx_gr hC 0 (ot_15 hO) lf_X11_137 rfl (or_15_0 hO) eX11_bestChance_70 ?_
        refine vx_aload_n hC 1 rfl eX11_bestChance_73 ?_
        refine vx_gr hC 0 (ot_0 hO) lf_X11_12 rfl (or_0_0 hO) eX11_bestChance_74 ?_
        refine vx_gr hC 5 (ot_1 hO) lf_X11_87 rfl (or_1_5 hO) eX11_bestChance_77 ?_
        refine vx_iload_n hC 2 rfl eX11_bestChance_80 ?_
        refine vx_iaload hC (ot_5 hO) (by omega) (by omega) eX11_bestChance_81 ?_
        refine vx_eqi (congrFun hg10_5 _) ?_
        refine vx_eqi (y := s (22 + q)) (by first | exact qp q (by omega) (by omega) | (rw [frvig10 5 (by omega)]; exact qp q (by omega) (by omega))) ?_
        refine vx_laload hC (ot_16 hO) (by omega) (by omega) eX11_bestChance_82 ?_
        refine vx_eql (qg10_0 _ (by omega) (by omega)) ?_
        refine vx_aload_n hC 1 rfl eX11_bestChance_83 ?_
        refine vx_gr hC 3 (ot_0 hO) lf_X11_24 rfl (or_0_3 hO) eX11_bestChance_84 ?_
        refine vx_gl hC 2 (ot_15 hO) lf_X11_141 rfl eX11_bestChance_87 ?_
        refine vx_eql qg10_1 ?_
        refine vx_iload_n hC 4 rfl eX11_bestChance_90 ?_
        refine vx_callS_l hC (kX11_lowest G (d + 3) _ _ _ _ _ _ _ _ (by omega) (by omega) (by omega)) ly_X11_145 rfl hRm (by omega) (Nat.le_of_ble_eq_true rfl) rfl eX11_bestChance_91 (fun x12 n9 t9 a9 b9 c9 hx12 => ?_)
        obtain ⟨hx12, rfl, rfl, rfl, rfl, rfl⟩ := hx12
        exact vx_lret hC hM eX11_bestChance_94 (⟨_, rfl, by unfold sp_bestC; first | (rw [if_pos (by unfold ask; omega)]; unfold bs_f; simp only [hx8, hx12]; done) | (rw [if_neg (by unfold ask; omega)]; rfl), cq_ro hO hR (fun k hk => frvig10 k hk) (fun k hk => frvlg10 k (by omega))⟩)
      · refine vx_ldc2 hC (-9223372036854775808) wd_680 eX11_bestChance_29 ?_
        exact vx_lret hC hM eX11_bestChance_32 (⟨_, rfl, by unfold sp_bestC; first | (rw [if_pos (by unfold ask; omega)]; unfold bs_f; simp only []; done) | (rw [if_neg (by unfold ask; omega)]; rfl), cq_ro hO hR (fun k hk => rfl) (fun k hk => rfl)⟩)
set_option maxHeartbeats 4000000 in
set_option maxRecDepth 100000 in
theorem kX11_loses (G : xg_T) (d : Nat) (n : Nat) (tau : Nat → Nat × Nat) (vi vl : Nat → Int → Int) (vr : Nat → Int → Option Nat) (hO : xo n tau vr) (s im : Int → Int) (has ran : Int) (bod : Int → Int) (hR : RCl s im has ran bod n tau vi vr) (hV : ms_V s) (q m pt : Int) (hq : -2147483648 ≤ q ∧ q < 2147483648) (hm : -2147483648 ≤ m ∧ m < 2147483648) (hpt : -2147483648 ≤ pt ∧ pt < 2147483648) : xm G yX11_loses cX11_loses 7 (some .long) (d + 6) 0 0 [xa_r 0, xa_i q, xa_i m, xa_i pt] n tau vi vl vr (xp_l (fun z9 n1 t1 a1 b1 c1 => z9 = sp_loses s q m pt ∧ cq (s) (im) (has) (ran) (bod) n tau vi vl n1 t1 a1 b1 c1)) := by
  refine xm.of (lv := [(0, xa_r 0), (1, xa_i q), (2, xa_i m), (3, xa_i pt)]) (by decide) (Nat.le_of_ble_eq_true rfl) rfl (fun K hC hM hRm => ?_)
  have hS : rp_S 1 s n tau vi vr := hR.1
  obtain ⟨q1, q3, q7, q8, q9, q10, qt, qp, qr, qpl, qtb⟩ := id hS
  have hW : ms_W s := hV.1
  have h60 := hV.2
  obtain ⟨hr, h0, h1, h2, h3, h4, h5, h6, hp0, hrow, hwon, htape, htab⟩ := id hW
  obtain ⟨-, R2, R3, R4, R5, R6, R7, R8, R9, R10⟩ := id hR
  refine vx_aload_n hC 0 rfl eX11_loses_0 ?_
  refine vx_gr hC 0 (ot_0 hO) lf_X11_12 rfl (or_0_0 hO) eX11_loses_1 ?_
  refine vx_iload_n hC 1 rfl eX11_loses_4 ?_
  refine vx_callV_q hC (kX6_playerAt G (d + 4) _ _ _ _ _ hO s hS hV q (by omega)) ly_X11_93 (ot_1 hO) rfl rfl rfl hRm (by omega) (Nat.le_of_ble_eq_true rfl) rfl eX11_loses_5 (fun r1 n9 t9 a9 b9 c9 hr1 => ?_)
  obtain ⟨hr1, rfl, rfl, rfl, rfl, rfl⟩ := hr1
  rcases hr1 with ⟨rfl, hno⟩ | ⟨kp, rfl, hyes, hkp⟩
  · refine vx_astore hC (lv1 := [(4, xa_n), (0, xa_r 0), (1, xa_i q), (2, xa_i m), (3, xa_i pt)]) (by decide) rfl eX11_loses_8 ?_
    refine vx_aload hC 0 rfl eX11_loses_10 ?_
    refine vx_ifnull hC (tgt := 29) (by decide) eX11_loses_12 (fun _ => ?_) (fun k h => by cases h)
    refine vx_ldc2 hC (-9223372036854775808) wd_680 eX11_loses_29 ?_
    exact vx_lret hC hM eX11_loses_32 (⟨_, rfl, by unfold sp_loses; first | (rw [if_pos (by unfold ask; omega)]; unfold bs_f; simp only []; done) | (rw [if_neg (by unfold ask; omega)]; rfl), cq_ro hO hR (fun k hk => rfl) (fun k hk => rfl)⟩)
  · obtain ⟨k1, k2, k3, k4, k5, k6⟩ := id hkp
    obtain ⟨g1, g2, g3, g4⟩ := hp0 q (by omega) (by omega)
    refine vx_astore hC (lv1 := [(4, xa_r kp), (0, xa_r 0), (1, xa_i q), (2, xa_i m), (3, xa_i pt)]) (by decide) rfl eX11_loses_8 ?_
    refine vx_aload hC 0 rfl eX11_loses_10 ?_
    refine vx_ifnull hC (tgt := 29) (by decide) eX11_loses_12 (fun h => by cases h) (fun _ _ => ?_)
    refine vx_iload_n hC 3 rfl eX11_loses_15 ?_
    refine vx_callS_i hC (kX11_isSpan G (d + 4) _ _ _ _ _ _ (by omega)) ly_X11_125 rfl hRm (by omega) (Nat.le_of_ble_eq_true rfl) rfl eX11_loses_16 (fun x2 n9 t9 a9 b9 c9 hx2 => ?_)
    obtain ⟨hx2, rfl, rfl, rfl, rfl, rfl⟩ := hx2
    refine vx_if_eq hC (tgt := 29) (by omega) (by decide) eX11_loses_19 (fun c3 => ?_) (fun c3 => ?_)
    · refine vx_ldc2 hC (-9223372036854775808) wd_680 eX11_loses_29 ?_
      exact vx_lret hC hM eX11_loses_32 (⟨_, rfl, by unfold sp_loses; first | (rw [if_pos (by unfold ask; omega)]; unfold bs_f; simp only []; done) | (rw [if_neg (by unfold ask; omega)]; rfl), cq_ro hO hR (fun k hk => rfl) (fun k hk => rfl)⟩)
    · refine vx_iload_n hC 4 rfl eX11_loses_22 ?_
      refine vx_callS_i hC (kX11_isPart G (d + 4) _ _ _ _ _ _ (by omega)) ly_X11_128 rfl hRm (by omega) (Nat.le_of_ble_eq_true rfl) rfl eX11_loses_23 (fun x4 n9 t9 a9 b9 c9 hx4 => ?_)
      obtain ⟨hx4, rfl, rfl, rfl, rfl, rfl⟩ := hx4
      refine vx_if_ne hC (tgt := 33) (by omega) (by decide) eX11_loses_26 (fun c5 => ?_) (fun c5 => ?_)
      · refine vx_aload_n hC 1 rfl eX11_loses_33 ?_
        refine vx_gr hC 3 (ot_0 hO) lf_X11_24 rfl (or_0_3 hO) eX11_loses_34 ?_
        refine vx_aload_n hC 1 rfl eX11_loses_37 ?_
        refine vx_gr hC 0 (ot_0 hO) lf_X11_12 rfl (or_0_0 hO) eX11_loses_38 ?_
        refine vx_aload hC 0 rfl eX11_loses_41 ?_
        refine vx_callV_v hC (kX2_lookAtOdds G d _ _ _ _ _ hO s hS hV q (by omega) kp hkp) ly_X11_163 (ot_15 hO) rfl rfl rfl hRm (by omega) (Nat.le_of_ble_eq_true rfl) rfl eX11_loses_43 (fun ng7 tg7 ag7 bg7 cg7 hg7 => ?_)
        obtain ⟨qg7_0, rfl, rfl, rfl, rfl, frg7⟩ := hg7
        have hg7_1_1 : ag7 1 1 = s 3 := (congrFun (frg7 1 (by omega)) _).trans q1
        have hg7_1_3 : ag7 1 3 = s 1 := (congrFun (frg7 1 (by omega)) _).trans q3
        have hg7_1_7 : ag7 1 7 = s 0 := (congrFun (frg7 1 (by omega)) _).trans q7
        have hg7_1_8 : ag7 1 8 = s 5 := (congrFun (frg7 1 (by omega)) _).trans q8
        have hg7_1_9 : ag7 1 9 = s 2 := (congrFun (frg7 1 (by omega)) _).trans q9
        have hg7_1_10 : ag7 1 10 = wb s (s 2).toNat := (congrFun (frg7 1 (by omega)) _).trans q10
        have hg7_2 : ag7 2 = vi 2 := (frg7 2 (by omega))
        have hg7_5 : ag7 5 = vi 5 := (frg7 5 (by omega))
        have hg7_6 : ag7 6 = vi 6 := (frg7 6 (by omega))
        have hg7_kp_0 : ag7 kp 0 = s (10 + q) := (congrFun (frg7 kp (by omega)) _).trans k3
        have hg7_kp_1 : ag7 kp 1 = q := (congrFun (frg7 kp (by omega)) _).trans k4
        have hg7_kp_2 : ag7 kp 2 = s (14 + q) := (congrFun (frg7 kp (by omega)) _).trans k5
        have hg7_kp_3 : ag7 kp 3 = s (18 + q) := (congrFun (frg7 kp (by omega)) _).trans k6
        have frvig7 : ∀ k : Nat, (k < 7 ∨ (8 ≤ k ∧ k < 14) ∨ 30 ≤ k) → ag7 k = vi k := fun k hk => (frg7 k (by omega))
        refine vx_aload_n hC 1 rfl eX11_loses_46 ?_
        refine vx_gr hC 3 (ot_0 hO) lf_X11_24 rfl (or_0_3 hO) eX11_loses_47 ?_
        refine vx_aload hC 0 rfl eX11_loses_50 ?_
        refine vx_gi hC 3 ⟨k1.2, k2⟩ (lf_X11_105 (xp_pn _)) rfl eX11_loses_52 ?_
        refine vx_eqi hg7_kp_3 ?_
        refine vx_iload_n hC 3 rfl eX11_loses_55 ?_
        refine vx_aload_n hC 1 rfl eX11_loses_56 ?_
        refine vx_gr hC 0 (ot_0 hO) lf_X11_12 rfl (or_0_0 hO) eX11_loses_57 ?_
        refine vx_callV_i hC (kX6_limit G (d + 3) _ _ _ _ _ hO s (hS.fr (fun k hk => frvig7 k (by omega)) (Nat.le_refl _) (fun _ _ => rfl) (fun _ _ => rfl)) hV) ly_X11_72 (ot_1 hO) rfl rfl rfl hRm (by omega) (Nat.le_of_ble_eq_true rfl) rfl eX11_loses_60 (fun x8 n9 t9 a9 b9 c9 hx8 => ?_)
        obtain ⟨hx8, rfl, rfl, rfl, rfl, rfl⟩ := hx8
        have hlr := ms_lim_r hW
        rw [← hx8] at hlr
        refine vx_callV_v hC (kX2_search G (d + 3) _ _ _ _ _ hO (ms_odds s q) (s (18 + q)) m x8 (by omega) (by omega) (by omega) (ms_od_r s q) qg7_0) ly_X11_166 (ot_15 hO) rfl rfl rfl hRm (by omega) (Nat.le_of_ble_eq_true rfl) rfl eX11_loses_63 (fun ng10 tg10 ag10 bg10 cg10 hg10 => ?_)
        obtain ⟨qg10_0, qg10_1, qg10_2, rfl, rfl, rfl, frg10⟩ := hg10
        have hg10_1_1 : ag10 1 1 = s 3 := (congrFun (frg10 1 (by omega)).1 _).trans hg7_1_1
        have hg10_1_3 : ag10 1 3 = s 1 := (congrFun (frg10 1 (by omega)).1 _).trans hg7_1_3
        have hg10_1_7 : ag10 1 7 = s 0 := (congrFun (frg10 1 (by omega)).1 _).trans hg7_1_7
        have hg10_1_8 : ag10 1 8 = s 5 := (congrFun (frg10 1 (by omega)).1 _).trans hg7_1_8
        have hg10_1_9 : ag10 1 9 = s 2 := (congrFun (frg10 1 (by omega)).1 _).trans hg7_1_9
        have hg10_1_10 : ag10 1 10 = wb s (s 2).toNat := (congrFun (frg10 1 (by omega)).1 _).trans hg7_1_10
        have hg10_2 : ag10 2 = vi 2 := (frg10 2 (by omega)).1.trans hg7_2
        have hg10_5 : ag10 5 = vi 5 := (frg10 5 (by omega)).1.trans hg7_5
        have hg10_6 : ag10 6 = vi 6 := (frg10 6 (by omega)).1.trans hg7_6
        have hg10_kp_0 : ag10 kp 0 = s (10 + q) := (congrFun (frg10 kp (by omega)).1 _).trans hg7_kp_0
        have hg10_kp_1 : ag10 kp 1 = q := (congrFun (frg10 kp (by omega)).1 _).trans hg7_kp_1
        have hg10_kp_2 : ag10 kp 2 = s (14 + q) := (congrFun (frg10 kp (by omega)).1 _).trans hg7_kp_2
        have hg10_kp_3 : ag10 kp 3 = s (18 + q) := (congrFun (frg10 kp (by omega)).1 _).trans hg7_kp_3
        have hg10_21 : ag10 21 = ag7 21 := (frg10 21 (by omega)).1
        have frvig10 : ∀ k : Nat, (k < 7 ∨ (8 ≤ k ∧ k < 14) ∨ 30 ≤ k) → ag10 k = vi k := fun k hk => (frg10 k (by omega)).1.trans (frvig7 k hk)
        have frvlg10 : ∀ k : Nat, (k < 7 ∨ (8 ≤ k ∧ k < 14) ∨ 30 ≤ k) → bg10 k = vl k := fun k hk => (frg10 k (by omega)).2
        have ht10 := ten_le (t := (m).toNat) (by omega)
        have hk11 : 0 ≤ bs_n (ms_odds s q) (s (18 + q)) x8 m.toNat (bs_0 (s (18 + q))) (s (22 + q)) ∧ bs_n (ms_odds s q) (s (18 + q)) x8 m.toNat (bs_0 (s (18 + q))) (s (22 + q)) ≤ (10 : Int) ^ m.toNat := bs_ok_n (od := ms_odds s q) (g := s (18 + q)) (lim := x8) (ms_od_r s q) (by omega) m.toNat (s (22 + q)) (by omega) (by omega)
        refine vx_aload_n hC 1 rfl eX11_loses_66 ?_
        refine vx_gr hC 3 (ot_0 hO) lf_X11_24 rfl (or_0_3 hO) eX11_loses_67 ?_
        refine vx_gr hC 0 (ot_15 hO) lf_X11_137 rfl (or_15_0 hO) eX11_loses_70 ?_
        refine vx_aload_n hC 1 rfl eX11_loses_73 ?_
        refine vx_gr hC 0 (ot_0 hO) lf_X11_12 rfl (or_0_0 hO) eX11_loses_74 ?_
        refine vx_gr hC 5 (ot_1 hO) lf_X11_87 rfl (or_1_5 hO) eX11_loses_77 ?_
        refine vx_iload_n hC 2 rfl eX11_loses_80 ?_
        refine vx_iaload hC (ot_5 hO) (by omega) (by omega) eX11_loses_81 ?_
        refine vx_eqi (congrFun hg10_5 _) ?_
        refine vx_eqi (y := s (22 + q)) (by first | exact qp q (by omega) (by omega) | (rw [frvig10 5 (by omega)]; exact qp q (by omega) (by omega))) ?_
        refine vx_laload hC (ot_16 hO) (by omega) (by omega) eX11_loses_82 ?_
        refine vx_eql (qg10_0 _ (by omega) (by omega)) ?_
        have hle := th_le_bs hW (p := q) (by omega) m
        unfold bs_f at hle
        rw [← hx8] at hle
        refine vx_topl (fun x12 hx12 => ?_)
        refine vx_lstore hC (lv1 := [(5, xa_l x12), (4, xa_r kp), (0, xa_r 0), (1, xa_i q), (2, xa_i m), (3, xa_i pt)]) (by decide) rfl eX11_loses_83 ?_
        refine vx_aload_n hC 2 rfl eX11_loses_85 ?_
        refine vx_gr hC 3 (ot_0 hO) lf_X11_24 rfl (or_0_3 hO) eX11_loses_86 ?_
        refine vx_aload_n hC 2 rfl eX11_loses_89 ?_
        refine vx_gr hC 0 (ot_0 hO) lf_X11_12 rfl (or_0_0 hO) eX11_loses_90 ?_
        refine vx_aload hC 1 rfl eX11_loses_93 ?_
        refine vx_iload_n hC 4 rfl eX11_loses_95 ?_
        refine vx_callV_v hC (kX2_spread G d _ _ _ _ _ hO s (hS.fr (fun k hk => frvig10 k (by omega)) (Nat.le_refl _) (fun _ _ => rfl) (fun _ _ => rfl)) hV q (by omega) kp (hkp.fr (fun k hk => frvig10 k (by omega)) (Nat.le_refl _) (fun _ _ => rfl)) m (by omega)) ly_X11_133 (ot_15 hO) rfl rfl rfl hRm (by omega) (Nat.le_of_ble_eq_true rfl) rfl eX11_loses_96 (fun ng14 tg14 ag14 bg14 cg14 hg14 => ?_)
        obtain ⟨qg14_0, qg14_1, qg14_2, rfl, rfl, rfl, frg14⟩ := hg14
        have hg14_1_1 : ag14 1 1 = s 3 := (congrFun (frg14 1 (by omega)).1 _).trans hg10_1_1
        have hg14_1_3 : ag14 1 3 = s 1 := (congrFun (frg14 1 (by omega)).1 _).trans hg10_1_3
        have hg14_1_7 : ag14 1 7 = s 0 := (congrFun (frg14 1 (by omega)).1 _).trans hg10_1_7
        have hg14_1_8 : ag14 1 8 = s 5 := (congrFun (frg14 1 (by omega)).1 _).trans hg10_1_8
        have hg14_1_9 : ag14 1 9 = s 2 := (congrFun (frg14 1 (by omega)).1 _).trans hg10_1_9
        have hg14_1_10 : ag14 1 10 = wb s (s 2).toNat := (congrFun (frg14 1 (by omega)).1 _).trans hg10_1_10
        have hg14_2 : ag14 2 = vi 2 := (frg14 2 (by omega)).1.trans hg10_2
        have hg14_5 : ag14 5 = vi 5 := (frg14 5 (by omega)).1.trans hg10_5
        have hg14_6 : ag14 6 = vi 6 := (frg14 6 (by omega)).1.trans hg10_6
        have qg14_2b : bg14 15 2 = (10 : Int) ^ m.toNat := by first | exact qg14_2 | rw [qg14_2, qg10_1] | (rw [qg14_2]; exact qg10_1)
        have hg14_kp_0 : ag14 kp 0 = s (10 + q) := (congrFun (frg14 kp (by omega)).1 _).trans hg10_kp_0
        have hg14_kp_1 : ag14 kp 1 = q := (congrFun (frg14 kp (by omega)).1 _).trans hg10_kp_1
        have hg14_kp_2 : ag14 kp 2 = s (14 + q) := (congrFun (frg14 kp (by omega)).1 _).trans hg10_kp_2
        have hg14_kp_3 : ag14 kp 3 = s (18 + q) := (congrFun (frg14 kp (by omega)).1 _).trans hg10_kp_3
        have hg14_21 : ag14 21 = ag7 21 := (frg14 21 (by omega)).1.trans hg10_21
        have frvig14 : ∀ k : Nat, (k < 7 ∨ (8 ≤ k ∧ k < 14) ∨ 30 ≤ k) → ag14 k = vi k := fun k hk => (frg14 k (by omega)).1.trans (frvig10 k hk)
        have frvlg14 : ∀ k : Nat, (k < 7 ∨ (8 ≤ k ∧ k < 14) ∨ 30 ≤ k) → bg14 k = vl k := fun k hk => (frg14 k (by omega)).2.trans (frvlg10 k hk)
        have hth : th_ok (m).toNat (th_all s q m) := by have := th_ok_n hW (p := q) (by omega) (m).toNat 0 _ (th_ok_0 s q); rwa [Nat.zero_add] at this
        have htr := th_ok_r (by omega) hth
        have ht10 := ten_le (t := (m).toNat) (by omega)
        refine vx_lload hC 0 rfl eX11_loses_99 ?_
        refine vx_aload_n hC 2 rfl eX11_loses_101 ?_
        refine vx_gr hC 3 (ot_0 hO) lf_X11_24 rfl (or_0_3 hO) eX11_loses_102 ?_
        refine vx_gr hC 0 (ot_15 hO) lf_X11_137 rfl (or_15_0 hO) eX11_loses_105 ?_
        refine vx_aload hC 1 rfl eX11_loses_108 ?_
        refine vx_gi hC 3 ⟨k1.2, k2⟩ (lf_X11_105 (xp_pn _)) rfl eX11_loses_110 ?_
        refine vx_eqi hg14_kp_3 ?_
        refine vx_laload hC (ot_16 hO) (by omega) (by omega) eX11_loses_113 ?_
        refine vx_eql (qg14_0 _ (by omega) (by omega)) ?_
        have hg9 := htr.1 (s (18 + q)) (by omega) (by omega)
        refine vx_lsub hC eX11_loses_114 ?_
        refine vx_aload_n hC 2 rfl eX11_loses_115 ?_
        refine vx_gr hC 3 (ot_0 hO) lf_X11_24 rfl (or_0_3 hO) eX11_loses_116 ?_
        refine vx_gl hC 2 (ot_15 hO) lf_X11_141 rfl eX11_loses_119 ?_
        refine vx_eql qg14_2b ?_
        refine vx_iload_n hC 5 rfl eX11_loses_122 ?_
        refine vx_callS_l hC (kX11_lowest G (d + 3) _ _ _ _ _ _ _ _ (by omega) (by omega) (by omega)) ly_X11_145 rfl hRm (by omega) (Nat.le_of_ble_eq_true rfl) rfl eX11_loses_123 (fun x15 n9 t9 a9 b9 c9 hx15 => ?_)
        obtain ⟨hx15, rfl, rfl, rfl, rfl, rfl⟩ := hx15
        exact vx_lret hC hM eX11_loses_126 (⟨_, rfl, by unfold sp_loses; first | (rw [if_pos (by unfold ask; omega)]; unfold bs_f; simp only [hx8, hx12, hx15]; done) | (rw [if_neg (by unfold ask; omega)]; rfl), cq_ro hO hR (fun k hk => frvig14 k hk) (fun k hk => frvlg14 k (by omega))⟩)
      · refine vx_ldc2 hC (-9223372036854775808) wd_680 eX11_loses_29 ?_
        exact vx_lret hC hM eX11_loses_32 (⟨_, rfl, by unfold sp_loses; first | (rw [if_pos (by unfold ask; omega)]; unfold bs_f; simp only []; done) | (rw [if_neg (by unfold ask; omega)]; rfl), cq_ro hO hR (fun k hk => rfl) (fun k hk => rfl)⟩)
theorem bs_m_69 {g : Int} (hg : g ≤ 12) (q : Int) : bs_m g 6 q = bs_m g 99 q := by
  have g8 := mz_le_r q (g - q)
  have g9 := mz_le_r (mz_le q (g - q)) 6
  have g7 := mz_le_r (mz_le q (g - q)) 99
  unfold bs_m
  omega
theorem bs_f_69 (od : Int → Int → Int) {g : Int} (hg : g ≤ 12) (n u : Int) : bs_f od g 6 n u = bs_f od g 99 n u := by
  have e : bs_1 od g 6 = bs_1 od g 99 := by funext f q; unfold bs_1 bs_q; rw [bs_m_69 hg]
  have e2 : ∀ (c : Nat) (f : Int → Int), bs_n od g 6 c f = bs_n od g 99 c f := by
    intro c
    induction c with
    | zero => intro f; rfl
    | succ c ih => intro f; rw [bs_n, bs_n, ih, e]
  unfold bs_f
  rw [e2]
theorem rm_run_s (V : Int → Int) (b : Int) (c : Nat) (k : Int) : rm_run V b (c + 1) k = if V k = b then k else rm_run V b c (k + 1) := by rw [rm_run]
set_option maxHeartbeats 4000000 in
set_option maxRecDepth 100000 in
theorem kX11_room (G : xg_T) (d : Nat) (n : Nat) (tau : Nat → Nat × Nat) (vi vl : Nat → Int → Int) (vr : Nat → Int → Option Nat) (hO : xo n tau vr) (s im : Int → Int) (has ran : Int) (bod : Int → Int) (hR : RCl s im has ran bod n tau vi vr) (hV : ms_V s) (q m : Int) (hq : -2147483648 ≤ q ∧ q < 2147483648) (hm : -2147483648 ≤ m ∧ m < 2147483648) : xm G yX11_room cX11_room 8 (some .int) (d + 6) 0 0 [xa_r 0, xa_i q, xa_i m] n tau vi vl vr (xp_i (fun z9 n1 t1 a1 b1 c1 => z9 = sp_room s q m ∧ cq (s) (im) (has) (ran) (bod) n tau vi vl n1 t1 a1 b1 c1)) := by
  refine xm.of (lv := [(0, xa_r 0), (1, xa_i q), (2, xa_i m)]) (by decide) (Nat.le_of_ble_eq_true rfl) rfl (fun K hC hM hRm => ?_)
  have hS : rp_S 1 s n tau vi vr := hR.1
  obtain ⟨q1, q3, q7, q8, q9, q10, qt, qp, qr, qpl, qtb⟩ := id hS
  have hW : ms_W s := hV.1
  have h60 := hV.2
  obtain ⟨hr, h0, h1, h2, h3, h4, h5, h6, hp0, hrow, hwon, htape, htab⟩ := id hW
  obtain ⟨-, R2, R3, R4, R5, R6, R7, R8, R9, R10⟩ := id hR
  refine vx_aload_n hC 0 rfl eX11_room_0 ?_
  refine vx_gr hC 0 (ot_0 hO) lf_X11_12 rfl (or_0_0 hO) eX11_room_1 ?_
  refine vx_iload_n hC 1 rfl eX11_room_4 ?_
  refine vx_callV_q hC (kX6_playerAt G (d + 4) _ _ _ _ _ hO s hS hV q (by omega)) ly_X11_93 (ot_1 hO) rfl rfl rfl hRm (by omega) (Nat.le_of_ble_eq_true rfl) rfl eX11_room_5 (fun r1 n9 t9 a9 b9 c9 hr1 => ?_)
  obtain ⟨hr1, rfl, rfl, rfl, rfl, rfl⟩ := hr1
  rcases hr1 with ⟨rfl, hno⟩ | ⟨kp, rfl, hyes, hkp⟩
  · refine vx_astore_n hC (lv1 := [(3, xa_n), (0, xa_r 0), (1, xa_i q), (2, xa_i m)]) (by decide) rfl eX11_room_8 ?_
    refine vx_aload_n hC 0 rfl eX11_room_9 ?_
    refine vx_ifnonnull hC (tgt := 15) (by decide) eX11_room_10 (fun k h => by cases h) (fun _ => ?_)
    refine vx_iconst hC eX11_room_13 ?_
    exact vx_iret hC hM rfl eX11_room_14 (⟨_, rfl, by unfold sp_room; (repeat (first | rw [if_pos (by omega)] | rw [if_neg (by omega)])), cq_ro hO hR (fun k hk => rfl) (fun k hk => rfl)⟩)
  · obtain ⟨k1, k2, k3, k4, k5, k6⟩ := id hkp
    obtain ⟨g1, g2, g3, g4⟩ := hp0 q (by omega) (by omega)
    refine vx_astore_n hC (lv1 := [(3, xa_r kp), (0, xa_r 0), (1, xa_i q), (2, xa_i m)]) (by decide) rfl eX11_room_8 ?_
    refine vx_aload_n hC 0 rfl eX11_room_9 ?_
    refine vx_ifnonnull hC (tgt := 15) (by decide) eX11_room_10 (fun _ _ => ?_) (fun h => by cases h)
    refine vx_iload_n hC 3 rfl eX11_room_15 ?_
    refine vx_callS_i hC (kX11_isSpan G (d + 4) _ _ _ _ _ _ (by omega)) ly_X11_125 rfl hRm (by omega) (Nat.le_of_ble_eq_true rfl) rfl eX11_room_16 (fun x2 n9 t9 a9 b9 c9 hx2 => ?_)
    obtain ⟨hx2, rfl, rfl, rfl, rfl, rfl⟩ := hx2
    refine vx_if_ne hC (tgt := 25) (by omega) (by decide) eX11_room_19 (fun c3 => ?_) (fun c3 => ?_)
    · refine vx_aload_n hC 1 rfl eX11_room_25 ?_
      refine vx_gr hC 0 (ot_0 hO) lf_X11_12 rfl (or_0_0 hO) eX11_room_26 ?_
      refine vx_gr hC 5 (ot_1 hO) lf_X11_87 rfl (or_1_5 hO) eX11_room_29 ?_
      refine vx_iload_n hC 2 rfl eX11_room_32 ?_
      refine vx_iaload hC (ot_5 hO) (by omega) (by omega) eX11_room_33 ?_
      refine vx_eqi (y := s (22 + q)) (by first | exact qp q (by omega) (by omega) | (rw [id]; exact qp q (by omega) (by omega))) ?_
      refine vx_istore hC (lv1 := [(4, xa_i (s (22 + q))), (3, xa_r kp), (0, xa_r 0), (1, xa_i q), (2, xa_i m)]) (by decide) rfl eX11_room_34 ?_
      refine vx_aload_n hC 2 rfl eX11_room_36 ?_
      refine vx_gr hC 3 (ot_0 hO) lf_X11_24 rfl (or_0_3 hO) eX11_room_37 ?_
      refine vx_aload_n hC 2 rfl eX11_room_40 ?_
      refine vx_gr hC 0 (ot_0 hO) lf_X11_12 rfl (or_0_0 hO) eX11_room_41 ?_
      refine vx_aload_n hC 1 rfl eX11_room_44 ?_
      refine vx_callV_v hC (kX2_lookAtOdds G d _ _ _ _ _ hO s hS hV q (by omega) kp hkp) ly_X11_163 (ot_15 hO) rfl rfl rfl hRm (by omega) (Nat.le_of_ble_eq_true rfl) rfl eX11_room_45 (fun ng5 tg5 ag5 bg5 cg5 hg5 => ?_)
      obtain ⟨qg5_0, rfl, rfl, rfl, rfl, frg5⟩ := hg5
      have hg5_1_1 : ag5 1 1 = s 3 := (congrFun (frg5 1 (by omega)) _).trans q1
      have hg5_1_3 : ag5 1 3 = s 1 := (congrFun (frg5 1 (by omega)) _).trans q3
      have hg5_1_7 : ag5 1 7 = s 0 := (congrFun (frg5 1 (by omega)) _).trans q7
      have hg5_1_8 : ag5 1 8 = s 5 := (congrFun (frg5 1 (by omega)) _).trans q8
      have hg5_1_9 : ag5 1 9 = s 2 := (congrFun (frg5 1 (by omega)) _).trans q9
      have hg5_1_10 : ag5 1 10 = wb s (s 2).toNat := (congrFun (frg5 1 (by omega)) _).trans q10
      have hg5_2 : ag5 2 = vi 2 := (frg5 2 (by omega))
      have hg5_5 : ag5 5 = vi 5 := (frg5 5 (by omega))
      have hg5_6 : ag5 6 = vi 6 := (frg5 6 (by omega))
      have hg5_kp_0 : ag5 kp 0 = s (10 + q) := (congrFun (frg5 kp (by omega)) _).trans k3
      have hg5_kp_1 : ag5 kp 1 = q := (congrFun (frg5 kp (by omega)) _).trans k4
      have hg5_kp_2 : ag5 kp 2 = s (14 + q) := (congrFun (frg5 kp (by omega)) _).trans k5
      have hg5_kp_3 : ag5 kp 3 = s (18 + q) := (congrFun (frg5 kp (by omega)) _).trans k6
      have frvig5 : ∀ k : Nat, (k < 7 ∨ (8 ≤ k ∧ k < 14) ∨ 30 ≤ k) → ag5 k = vi k := fun k hk => (frg5 k (by omega))
      refine vx_aload_n hC 2 rfl eX11_room_48 ?_
      refine vx_gr hC 3 (ot_0 hO) lf_X11_24 rfl (or_0_3 hO) eX11_room_49 ?_
      refine vx_aload_n hC 1 rfl eX11_room_52 ?_
      refine vx_gi hC 3 ⟨k1.2, k2⟩ (lf_X11_105 (xp_pn _)) rfl eX11_room_53 ?_
      refine vx_eqi hg5_kp_3 ?_
      refine vx_iload_n hC 4 rfl eX11_room_56 ?_
      refine vx_bipush hC (by decide) eX11_room_57 ?_
      refine vx_callV_v hC (kX2_search G (d + 3) _ _ _ _ _ hO (ms_odds s q) (s (18 + q)) m 99 (by omega) (by omega) (by omega) (ms_od_r s q) qg5_0) ly_X11_166 (ot_15 hO) rfl rfl rfl hRm (by omega) (Nat.le_of_ble_eq_true rfl) rfl eX11_room_59 (fun ng7 tg7 ag7 bg7 cg7 hg7 => ?_)
      obtain ⟨qg7_0, qg7_1, qg7_2, rfl, rfl, rfl, frg7⟩ := hg7
      have hg7_1_1 : ag7 1 1 = s 3 := (congrFun (frg7 1 (by omega)).1 _).trans hg5_1_1
      have hg7_1_3 : ag7 1 3 = s 1 := (congrFun (frg7 1 (by omega)).1 _).trans hg5_1_3
      have hg7_1_7 : ag7 1 7 = s 0 := (congrFun (frg7 1 (by omega)).1 _).trans hg5_1_7
      have hg7_1_8 : ag7 1 8 = s 5 := (congrFun (frg7 1 (by omega)).1 _).trans hg5_1_8
      have hg7_1_9 : ag7 1 9 = s 2 := (congrFun (frg7 1 (by omega)).1 _).trans hg5_1_9
      have hg7_1_10 : ag7 1 10 = wb s (s 2).toNat := (congrFun (frg7 1 (by omega)).1 _).trans hg5_1_10
      have hg7_2 : ag7 2 = vi 2 := (frg7 2 (by omega)).1.trans hg5_2
      have hg7_5 : ag7 5 = vi 5 := (frg7 5 (by omega)).1.trans hg5_5
      have hg7_6 : ag7 6 = vi 6 := (frg7 6 (by omega)).1.trans hg5_6
      have hg7_kp_0 : ag7 kp 0 = s (10 + q) := (congrFun (frg7 kp (by omega)).1 _).trans hg5_kp_0
      have hg7_kp_1 : ag7 kp 1 = q := (congrFun (frg7 kp (by omega)).1 _).trans hg5_kp_1
      have hg7_kp_2 : ag7 kp 2 = s (14 + q) := (congrFun (frg7 kp (by omega)).1 _).trans hg5_kp_2
      have hg7_kp_3 : ag7 kp 3 = s (18 + q) := (congrFun (frg7 kp (by omega)).1 _).trans hg5_kp_3
      have hg7_21 : ag7 21 = ag5 21 := (frg7 21 (by omega)).1
      have frvig7 : ∀ k : Nat, (k < 7 ∨ (8 ≤ k ∧ k < 14) ∨ 30 ≤ k) → ag7 k = vi k := fun k hk => (frg7 k (by omega)).1.trans (frvig5 k hk)
      have frvlg7 : ∀ k : Nat, (k < 7 ∨ (8 ≤ k ∧ k < 14) ∨ 30 ≤ k) → bg7 k = vl k := fun k hk => (frg7 k (by omega)).2
      have ht10 := ten_le (t := (m).toNat) (by omega)
      have hk8 : 0 ≤ bs_n (ms_odds s q) (s (18 + q)) 99 m.toNat (bs_0 (s (18 + q))) (s (22 + q)) ∧ bs_n (ms_odds s q) (s (18 + q)) 99 m.toNat (bs_0 (s (18 + q))) (s (22 + q)) ≤ (10 : Int) ^ m.toNat := bs_ok_n (od := ms_odds s q) (g := s (18 + q)) (lim := 99) (ms_od_r s q) (by omega) m.toNat (s (22 + q)) (by omega) (by omega)
      refine vx_aload_n hC 2 rfl eX11_room_62 ?_
      refine vx_gr hC 3 (ot_0 hO) lf_X11_24 rfl (or_0_3 hO) eX11_room_63 ?_
      refine vx_gr hC 0 (ot_15 hO) lf_X11_137 rfl (or_15_0 hO) eX11_room_66 ?_
      refine vx_iload hC 0 rfl eX11_room_69 ?_
      refine vx_laload hC (ot_16 hO) (by omega) (by omega) eX11_room_71 ?_
      refine vx_eql (qg7_0 _ (by omega) (by omega)) ?_
      refine vx_topl (fun x9 hx9 => ?_)
      refine vx_lstore hC (lv1 := [(5, xa_l x9), (4, xa_i (s (22 + q))), (3, xa_r kp), (0, xa_r 0), (1, xa_i q), (2, xa_i m)]) (by decide) rfl eX11_room_72 ?_
      refine vx_iconst hC eX11_room_74 ?_
      refine vx_istore hC (lv1 := [(7, xa_i 1), (5, xa_l x9), (4, xa_i (s (22 + q))), (3, xa_r kp), (0, xa_r 0), (1, xa_i q), (2, xa_i m)]) (by decide) rfl eX11_room_75 ?_
      have LP77 : ∀ (j : Nat) (cz : Nat) (kk : Int) (m1 : Nat → Int → Int) (m2 : Nat → Int → Int) (hcq : kk + (cz : Int) = 6 ∧ 1 ≤ kk) (hrm : rm_run (rm_V s q m) x9 (cz + 1) kk = rm_run (rm_V s q m) x9 6 1) (e21 : m1 21 = ag5 21) (fo : ∀ k : Nat, (k < 7 ∨ (8 ≤ k ∧ k < 14) ∨ 30 ≤ k) → m1 k = vi k) (fol : ∀ k : Nat, (k < 7 ∨ (8 ≤ k ∧ k < 14) ∨ 30 ≤ k) → m2 k = vl k) (hj : (cz : Int) < (j : Int)), xv G K 8 (xk_Q G K (xp_i (fun z9 n1 t1 a1 b1 c1 => z9 = sp_room s q m ∧ cq (s) (im) (has) (ran) (bod) n tau vi vl n1 t1 a1 b1 c1)) 0 0) 0 0 n tau m1 m2 vr 77 [(7, xa_i kk), (5, xa_l x9), (4, xa_i (s (22 + q))), (3, xa_r kp), (0, xa_r 0), (1, xa_i q), (2, xa_i m)] [] := by
        intro j
        induction j with
        | zero => intro cz kk m1 m2 hcq hrm e21 fo fol hj; exfalso; omega
        | succ j ih =>
          intro cz kk m1 m2 hcq hrm e21 fo fol hj
          refine vx_iload hC 0 rfl eX11_room_77 ?_
          refine vx_bipush hC (by decide) eX11_room_79 ?_
          refine vx_icmp_ge hC (tgt := 123) (by omega) (by decide) eX11_room_81 (fun c10 => ?_) (fun c10 => ?_)
          · refine vx_bipush hC (by decide) eX11_room_123 ?_
            exact vx_iret hC hM rfl eX11_room_125 (⟨_, rfl, by unfold sp_room; rw [if_neg (by omega), if_neg (by omega), show rm_V s q m 99 = x9 from hx9.symm, ← hrm, show cz = 0 by omega, rm_run, show kk = 6 by omega, if_pos (show rm_V s q m 6 = x9 from by rw [hx9]; exact bs_f_69 _ (by omega) _ _)], cq_ro hO hR (fun k hk => fo k hk) (fun k hk => fol k (by omega))⟩)
          · obtain ⟨cz1, rfl⟩ : ∃ cz1, cz = cz1 + 1 := ⟨cz - 1, by omega⟩
            refine vx_aload_n hC 4 rfl eX11_room_84 ?_
            refine vx_gr hC 3 (ot_0 hO) lf_X11_24 rfl (or_0_3 hO) eX11_room_85 ?_
            refine vx_aload_n hC 3 rfl eX11_room_88 ?_
            refine vx_gi hC 3 ⟨k1.2, k2⟩ (lf_X11_105 (xp_pn _)) rfl eX11_room_89 ?_
            refine vx_eqi (show m1 kp 3 = _ from (congrFun (fo kp (by omega)) _).trans k6) ?_
            refine vx_iload_n hC 6 rfl eX11_room_92 ?_
            refine vx_iload hC 0 rfl eX11_room_93 ?_
            refine vx_callV_v hC (kX2_search G (d + 3) _ _ _ _ _ hO (ms_odds s q) (s (18 + q)) m kk (by omega) (by omega) (by omega) (ms_od_r s q) (fun a b c1 c2 c3 c4 c5 => by rw [e21]; exact qg5_0 a b c1 c2 c3 c4 c5)) ly_X11_166 (ot_15 hO) rfl rfl rfl hRm (by omega) (Nat.le_of_ble_eq_true rfl) rfl eX11_room_95 (fun ng12 tg12 ag12 bg12 cg12 hg12 => ?_)
            obtain ⟨qg12_0, qg12_1, qg12_2, rfl, rfl, rfl, frg12⟩ := hg12
            have hg12_1_1 : ag12 1 1 = s 3 := (congrFun (frg12 1 (by omega)).1 _).trans (show m1 1 1 = _ from (congrFun (fo 1 (by omega)) _).trans q1)
            have hg12_1_3 : ag12 1 3 = s 1 := (congrFun (frg12 1 (by omega)).1 _).trans (show m1 1 3 = _ from (congrFun (fo 1 (by omega)) _).trans q3)
            have hg12_1_7 : ag12 1 7 = s 0 := (congrFun (frg12 1 (by omega)).1 _).trans (show m1 1 7 = _ from (congrFun (fo 1 (by omega)) _).trans q7)
            have hg12_1_8 : ag12 1 8 = s 5 := (congrFun (frg12 1 (by omega)).1 _).trans (show m1 1 8 = _ from (congrFun (fo 1 (by omega)) _).trans q8)
            have hg12_1_9 : ag12 1 9 = s 2 := (congrFun (frg12 1 (by omega)).1 _).trans (show m1 1 9 = _ from (congrFun (fo 1 (by omega)) _).trans q9)
            have hg12_1_10 : ag12 1 10 = wb s (s 2).toNat := (congrFun (frg12 1 (by omega)).1 _).trans (show m1 1 10 = _ from (congrFun (fo 1 (by omega)) _).trans q10)
            have hg12_2 : ag12 2 = vi 2 := (frg12 2 (by omega)).1.trans (fo 2 (by omega))
            have hg12_5 : ag12 5 = vi 5 := (frg12 5 (by omega)).1.trans (fo 5 (by omega))
            have hg12_6 : ag12 6 = vi 6 := (frg12 6 (by omega)).1.trans (fo 6 (by omega))
            have hg12_kp_0 : ag12 kp 0 = s (10 + q) := (congrFun (frg12 kp (by omega)).1 _).trans (show m1 kp 0 = _ from (congrFun (fo kp (by omega)) _).trans k3)
            have hg12_kp_1 : ag12 kp 1 = q := (congrFun (frg12 kp (by omega)).1 _).trans (show m1 kp 1 = _ from (congrFun (fo kp (by omega)) _).trans k4)
            have hg12_kp_2 : ag12 kp 2 = s (14 + q) := (congrFun (frg12 kp (by omega)).1 _).trans (show m1 kp 2 = _ from (congrFun (fo kp (by omega)) _).trans k5)
            have hg12_kp_3 : ag12 kp 3 = s (18 + q) := (congrFun (frg12 kp (by omega)).1 _).trans (show m1 kp 3 = _ from (congrFun (fo kp (by omega)) _).trans k6)
            have hg12_21 : ag12 21 = ag5 21 := (frg12 21 (by omega)).1.trans e21
            have frvig12 : ∀ k : Nat, (k < 7 ∨ (8 ≤ k ∧ k < 14) ∨ 30 ≤ k) → ag12 k = vi k := fun k hk => (frg12 k (by omega)).1.trans (fo k hk)
            have frvlg12 : ∀ k : Nat, (k < 7 ∨ (8 ≤ k ∧ k < 14) ∨ 30 ≤ k) → bg12 k = vl k := fun k hk => (frg12 k (by omega)).2.trans (fol k hk)
            have ht10 := ten_le (t := (m).toNat) (by omega)
            have hk13 : 0 ≤ bs_n (ms_odds s q) (s (18 + q)) kk m.toNat (bs_0 (s (18 + q))) (s (22 + q)) ∧ bs_n (ms_odds s q) (s (18 + q)) kk m.toNat (bs_0 (s (18 + q))) (s (22 + q)) ≤ (10 : Int) ^ m.toNat := bs_ok_n (od := ms_odds s q) (g := s (18 + q)) (lim := kk) (ms_od_r s q) (by omega) m.toNat (s (22 + q)) (by omega) (by omega)
            refine vx_aload_n hC 4 rfl eX11_room_98 ?_
            refine vx_gr hC 3 (ot_0 hO) lf_X11_24 rfl (or_0_3 hO) eX11_room_99 ?_
            refine vx_gr hC 0 (ot_15 hO) lf_X11_137 rfl (or_15_0 hO) eX11_room_102 ?_
            refine vx_iload hC 2 rfl eX11_room_105 ?_
            refine vx_laload hC (ot_16 hO) (by omega) (by omega) eX11_room_107 ?_
            refine vx_eql (qg12_0 _ (by omega) (by omega)) ?_
            refine vx_lload hC 1 rfl eX11_room_108 ?_
            refine vx_lcmp hC (by omega) eX11_room_110 ?_
            refine vx_if_ne hC (tgt := 117) (by omega) (by decide) eX11_room_111 (fun c14 => ?_) (fun c14 => ?_)
            · refine vx_iinc hC (lv1 := [(7, xa_i (kk + 1)), (5, xa_l x9), (4, xa_i (s (22 + q))), (3, xa_r kp), (0, xa_r 0), (1, xa_i q), (2, xa_i m)]) 0 rfl (by decide) rfl eX11_room_117 ?_
              refine vx_goto hC (tgt := 77) (by decide) eX11_room_120 ?_
              exact ih cz1 (kk + 1) ag12 bg12 (by omega) (by rw [← hrm, rm_run_s (rm_V s q m) _ (cz1 + 1) kk, if_neg (by rw [show rm_V s q m kk = bs_n (ms_odds s q) (s (18 + q)) kk m.toNat (bs_0 (s (18 + q))) (s (22 + q)) from rfl]; omega)]) hg12_21 frvig12 frvlg12 (by omega)
            · refine vx_iload hC 0 rfl eX11_room_114 ?_
              exact vx_iret hC hM rfl eX11_room_116 (⟨_, rfl, by unfold sp_room; rw [if_neg (by omega), if_neg (by omega), show rm_V s q m 99 = x9 from hx9.symm, ← hrm, rm_run, if_pos (show rm_V s q m kk = x9 from by show bs_n (ms_odds s q) (s (18 + q)) kk m.toNat (bs_0 (s (18 + q))) (s (22 + q)) = x9; omega)], cq_ro hO hR (fun k hk => frvig12 k hk) (fun k hk => frvlg12 k (by omega))⟩)
      exact LP77 7 5 1 ag7 bg7 (by omega) rfl hg7_21 frvig7 frvlg7 (by omega)
    · refine vx_bipush hC (by decide) eX11_room_22 ?_
      exact vx_iret hC hM rfl eX11_room_24 (⟨_, rfl, by unfold sp_room; (repeat (first | rw [if_pos (by omega)] | rw [if_neg (by omega)])), cq_ro hO hR (fun k hk => rfl) (fun k hk => rfl)⟩)
