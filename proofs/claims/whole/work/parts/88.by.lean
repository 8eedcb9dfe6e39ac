set_option maxHeartbeats 4000000 in
set_option maxRecDepth 100000 in
theorem kX11_by (G : xg_T) (d : Nat) (n : Nat) (tau : Nat → Nat × Nat) (vi vl : Nat → Int → Int) (vr : Nat → Int → Option Nat) (hO : xo n tau vr) (s im : Int → Int) (has ran : Int) (bod : Int → Int) (hR : RCl s im has ran bod n tau vi vr) (hV : ms_V s) (q x : Int) (hq : -2147483648 ≤ q ∧ q < 2147483648) (hx : -2147483648 ≤ x ∧ x < 2147483648) : xm G yX11_by cX11_by 11 (some .int) (d + 6) 0 0 [xa_r 0, xa_i q, xa_i x] n tau vi vl vr (xp_i (fun z9 n1 t1 a1 b1 c1 => z9 = sp_by s q x ∧ cq (s) (im) (has) (ran) (bod) n tau vi vl n1 t1 a1 b1 c1)) := by
  refine xm.of (lv := [(0, xa_r 0), (1, xa_i q), (2, xa_i x)]) (by decide) (Nat.le_of_ble_eq_true rfl) rfl (fun K hC hM hRm => ?_)
  have hS : rp_S 1 s n tau vi vr := hR.1
  obtain ⟨q1, q3, q7, q8, q9, q10, qt, qp, qr, qpl, qtb⟩ := id hS
  have hW : ms_W s := hV.1
  have h60 := hV.2
  obtain ⟨hr, h0, h1, h2, h3, h4, h5, h6, hp0, hrow, hwon, htape, htab⟩ := id hW
  obtain ⟨-, R2, R3, R4, R5, R6, R7, R8, R9, R10⟩ := id hR
  refine vx_aload_n hC 0 rfl eX11_by_0 ?_
  refine vx_gr hC 0 (ot_0 hO) lf_X11_12 rfl (or_0_0 hO) eX11_by_1 ?_
  refine vx_iload_n hC 1 rfl eX11_by_4 ?_
  refine vx_callV_q hC (kX6_playerAt G (d + 4) _ _ _ _ _ hO s hS hV q (by omega)) ly_X11_93 (ot_1 hO) rfl rfl rfl hRm (by omega) (Nat.le_of_ble_eq_true rfl) rfl eX11_by_5 (fun r1 n9 t9 a9 b9 c9 hr1 => ?_)
  obtain ⟨hr1, rfl, rfl, rfl, rfl, rfl⟩ := hr1
  rcases hr1 with ⟨rfl, hno⟩ | ⟨kp, rfl, hyes, hkp⟩
  · refine vx_astore_n hC (lv1 := [(3, xa_n), (0, xa_r 0), (1, xa_i q), (2, xa_i x)]) (by decide) rfl eX11_by_8 ?_
    refine vx_aload_n hC 0 rfl eX11_by_9 ?_
    refine vx_ifnull hC (tgt := 22) (by decide) eX11_by_10 (fun _ => ?_) (fun k h => by cases h)
    refine vx_iconst hC eX11_by_22 ?_
    exact vx_iret hC hM rfl eX11_by_23 (⟨_, rfl, by first | (unfold sp_by; (repeat (first | rw [if_pos (by omega)] | rw [if_neg (by omega)])); done) | (unfold sp_by; (repeat (first | rw [if_pos (by omega)] | rw [if_neg (by omega)])); all_goals (rw [hall])), cq_ro hO hR (fun k hk => rfl) (fun k hk => rfl)⟩)
  · obtain ⟨k1, k2, k3, k4, k5, k6⟩ := id hkp
    obtain ⟨g1, g2, g3, g4⟩ := hp0 q (by omega) (by omega)
    refine vx_astore_n hC (lv1 := [(3, xa_r kp), (0, xa_r 0), (1, xa_i q), (2, xa_i x)]) (by decide) rfl eX11_by_8 ?_
    refine vx_aload_n hC 0 rfl eX11_by_9 ?_
    refine vx_ifnull hC (tgt := 22) (by decide) eX11_by_10 (fun h => by cases h) (fun _ _ => ?_)
    refine vx_iload_n hC 3 rfl eX11_by_13 ?_
    refine vx_if_lt hC (tgt := 22) (by omega) (by decide) eX11_by_14 (fun c2 => ?_) (fun c2 => ?_)
    · refine vx_iconst hC eX11_by_22 ?_
      exact vx_iret hC hM rfl eX11_by_23 (⟨_, rfl, by first | (unfold sp_by; (repeat (first | rw [if_pos (by omega)] | rw [if_neg (by omega)])); done) | (unfold sp_by; (repeat (first | rw [if_pos (by omega)] | rw [if_neg (by omega)])); all_goals (rw [hall])), cq_ro hO hR (fun k hk => rfl) (fun k hk => rfl)⟩)
    · refine vx_iload_n hC 3 rfl eX11_by_17 ?_
      refine vx_iconst hC eX11_by_18 ?_
      refine vx_icmp_le hC (tgt := 24) (by omega) (by decide) eX11_by_19 (fun c3 => ?_) (fun c3 => ?_)
      · refine vx_aload_n hC 1 rfl eX11_by_24 ?_
        refine vx_gr hC 0 (ot_0 hO) lf_X11_12 rfl (or_0_0 hO) eX11_by_25 ?_
        refine vx_gr hC 5 (ot_1 hO) lf_X11_87 rfl (or_1_5 hO) eX11_by_28 ?_
        refine vx_iload_n hC 2 rfl eX11_by_31 ?_
        refine vx_iaload hC (ot_5 hO) (by omega) (by omega) eX11_by_32 ?_
        refine vx_eqi (y := s (22 + q)) (by first | exact qp q (by omega) (by omega) | (rw [id]; exact qp q (by omega) (by omega))) ?_
        refine vx_istore hC (lv1 := [(4, xa_i (s (22 + q))), (3, xa_r kp), (0, xa_r 0), (1, xa_i q), (2, xa_i x)]) (by decide) rfl eX11_by_33 ?_
        refine vx_iload hC 0 rfl eX11_by_35 ?_
        refine vx_istore hC (lv1 := [(5, xa_i (s (22 + q))), (4, xa_i (s (22 + q))), (3, xa_r kp), (0, xa_r 0), (1, xa_i q), (2, xa_i x)]) (by decide) rfl eX11_by_37 ?_
        refine vx_iconst hC eX11_by_39 ?_
        refine vx_istore hC (lv1 := [(6, xa_i 0), (5, xa_i (s (22 + q))), (4, xa_i (s (22 + q))), (3, xa_r kp), (0, xa_r 0), (1, xa_i q), (2, xa_i x)]) (by decide) rfl eX11_by_40 ?_
        refine vx_iload hC 2 rfl eX11_by_42 ?_
        refine vx_istore hC (lv1 := [(7, xa_i (s (22 + q))), (6, xa_i 0), (5, xa_i (s (22 + q))), (4, xa_i (s (22 + q))), (3, xa_r kp), (0, xa_r 0), (1, xa_i q), (2, xa_i x)]) (by decide) rfl eX11_by_44 ?_
        refine vx_iload hC 3 rfl eX11_by_46 ?_
        refine vx_istore hC (lv1 := [(8, xa_i (s (22 + q))), (7, xa_i (s (22 + q))), (6, xa_i 0), (5, xa_i (s (22 + q))), (4, xa_i (s (22 + q))), (3, xa_r kp), (0, xa_r 0), (1, xa_i q), (2, xa_i x)]) (by decide) rfl eX11_by_48 ?_
        refine vx_iconst hC eX11_by_50 ?_
        refine vx_istore hC (lv1 := [(9, xa_i 0), (8, xa_i (s (22 + q))), (7, xa_i (s (22 + q))), (6, xa_i 0), (5, xa_i (s (22 + q))), (4, xa_i (s (22 + q))), (3, xa_r kp), (0, xa_r 0), (1, xa_i q), (2, xa_i x)]) (by decide) rfl eX11_by_51 ?_
        refine vx_iconst hC eX11_by_53 ?_
        refine vx_istore hC (lv1 := [(10, xa_i 0), (9, xa_i 0), (8, xa_i (s (22 + q))), (7, xa_i (s (22 + q))), (6, xa_i 0), (5, xa_i (s (22 + q))), (4, xa_i (s (22 + q))), (3, xa_r kp), (0, xa_r 0), (1, xa_i q), (2, xa_i x)]) (by decide) rfl eX11_by_54 ?_
        have LP56 : ∀ (j : Nat) (c : Nat) (k : Int) (pu : Int) (top : Int) (low : Int) (back : Int) (hc : k + (c : Int) = s 2 ∧ 0 ≤ k) (hpu : 0 ≤ pu ∧ pu ≤ s (18 + q)) (hbk : 0 ≤ back ∧ back ≤ k) (htl : 0 ≤ top ∧ top ≤ 12 ∧ 0 ≤ low ∧ low ≤ 12) (hres : by_run s q (s (22 + q)) c k (pu, k, top, low, back) = by_all s q) (hj : (c : Int) < (j : Int)), xv G K 11 (xk_Q G K (xp_i (fun z9 n1 t1 a1 b1 c1 => z9 = sp_by s q x ∧ cq (s) (im) (has) (ran) (bod) n tau vi vl n1 t1 a1 b1 c1)) 0 0) 0 0 n tau vi vl vr 56 [(10, xa_i k), (9, xa_i back), (8, xa_i low), (7, xa_i top), (6, xa_i k), (5, xa_i pu), (4, xa_i (s (22 + q))), (3, xa_r kp), (0, xa_r 0), (1, xa_i q), (2, xa_i x)] [] := by
          intro j
          induction j with
          | zero => intro c k pu top low back hc hpu hbk htl hres hj; exfalso; omega
          | succ j ih =>
            intro c k pu top low back hc hpu hbk htl hres hj
            refine vx_iload hC 0 rfl eX11_by_56 ?_
            refine vx_aload_n hC 8 rfl eX11_by_58 ?_
            refine vx_gr hC 0 (ot_0 hO) lf_X11_12 rfl (or_0_0 hO) eX11_by_59 ?_
            refine vx_gi hC 9 (ot_1 hO) lf_X11_187 rfl eX11_by_62 ?_
            refine vx_eqi q9 ?_
            refine vx_icmp_ge hC (tgt := 141) (by omega) (by decide) eX11_by_65 (fun c4 => ?_) (fun c4 => ?_)
            · have hall : by_all s q = (pu, k, top, low, back) := by rw [← hres]; first | (rw [show c = 0 by omega]; rfl) | (rw [by_run, if_pos (by omega)])
              refine vx_iload_n hC 10 rfl eX11_by_141 ?_
              rcases (show x = 0 ∨ x = 1 ∨ x = 2 ∨ x = 3 ∨ (¬ x = 0 ∧ ¬ x = 1 ∧ ¬ x = 2 ∧ ¬ x = 3) by omega) with c5 | c5 | c5 | c5 | c5
              · refine vx_tableIn hC (tgt := 172) (by omega) (by omega) (by rw [c5]; rfl) (by decide) eX11_by_142 ?_
                refine vx_iload hC 5 rfl eX11_by_172 ?_
                exact vx_iret hC hM rfl eX11_by_174 (⟨_, rfl, by first | (unfold sp_by; (repeat (first | rw [if_pos (by omega)] | rw [if_neg (by omega)])); done) | (unfold sp_by; (repeat (first | rw [if_pos (by omega)] | rw [if_neg (by omega)])); all_goals (rw [hall])), cq_ro hO hR (fun k hk => rfl) (fun k hk => rfl)⟩)
              · refine vx_tableIn hC (tgt := 175) (by omega) (by omega) (by rw [c5]; rfl) (by decide) eX11_by_142 ?_
                refine vx_iload hC 4 rfl eX11_by_175 ?_
                exact vx_iret hC hM rfl eX11_by_177 (⟨_, rfl, by first | (unfold sp_by; (repeat (first | rw [if_pos (by omega)] | rw [if_neg (by omega)])); done) | (unfold sp_by; (repeat (first | rw [if_pos (by omega)] | rw [if_neg (by omega)])); all_goals (rw [hall])), cq_ro hO hR (fun k hk => rfl) (fun k hk => rfl)⟩)
              · refine vx_tableIn hC (tgt := 178) (by omega) (by omega) (by rw [c5]; rfl) (by decide) eX11_by_142 ?_
                refine vx_iload hC 3 rfl eX11_by_178 ?_
                exact vx_iret hC hM rfl eX11_by_180 (⟨_, rfl, by first | (unfold sp_by; (repeat (first | rw [if_pos (by omega)] | rw [if_neg (by omega)])); done) | (unfold sp_by; (repeat (first | rw [if_pos (by omega)] | rw [if_neg (by omega)])); all_goals (rw [hall])), cq_ro hO hR (fun k hk => rfl) (fun k hk => rfl)⟩)
              · refine vx_tableIn hC (tgt := 181) (by omega) (by omega) (by rw [c5]; rfl) (by decide) eX11_by_142 ?_
                refine vx_iload hC 2 rfl eX11_by_181 ?_
                exact vx_iret hC hM rfl eX11_by_183 (⟨_, rfl, by first | (unfold sp_by; (repeat (first | rw [if_pos (by omega)] | rw [if_neg (by omega)])); done) | (unfold sp_by; (repeat (first | rw [if_pos (by omega)] | rw [if_neg (by omega)])); all_goals (rw [hall])), cq_ro hO hR (fun k hk => rfl) (fun k hk => rfl)⟩)
              · refine vx_tableOut hC (tgt := 184) (by omega) (by omega) (by decide) eX11_by_142 ?_
                refine vx_iload hC 1 rfl eX11_by_184 ?_
                exact vx_iret hC hM rfl eX11_by_186 (⟨_, rfl, by first | (unfold sp_by; (repeat (first | rw [if_pos (by omega)] | rw [if_neg (by omega)])); done) | (unfold sp_by; (repeat (first | rw [if_pos (by omega)] | rw [if_neg (by omega)])); all_goals (rw [hall])), cq_ro hO hR (fun k hk => rfl) (fun k hk => rfl)⟩)
            · obtain ⟨c1, rfl⟩ : ∃ c1, c = c1 + 1 := ⟨c - 1, by omega⟩
              refine vx_aload_n hC 7 rfl eX11_by_68 ?_
              refine vx_iload hC 5 rfl eX11_by_69 ?_
              obtain ⟨C9, T9, N9, hc9, hu9⟩ := lu_X11_112 (xp_pn (s (10 + q)))
              refine vx_callU_i hC (kX4_isOver G (d + 4) _ _ _ _ _ kp _ ⟨k1.2, k2⟩ (xp_pn _) (s (18 + q)) k6 (by omega) pu (by omega)) hu9 ⟨k1.2, k2⟩ hc9 rfl hRm (by omega) (Nat.le_of_ble_eq_true rfl) rfl eX11_by_71 (fun x6 n9 t9 a9 b9 c9 hx6 => ?_)
              obtain ⟨hx6, rfl, rfl, rfl, rfl, rfl⟩ := hx6
              refine vx_if_ne hC (tgt := 141) (by omega) (by decide) eX11_by_74 (fun c7 => ?_) (fun c7 => ?_)
              · have hall : by_all s q = (pu, k, top, low, back) := by rw [← hres]; first | (rw [show c = 0 by omega]; rfl) | (rw [by_run, if_pos (by omega)])
                refine vx_iload_n hC 10 rfl eX11_by_141 ?_
                rcases (show x = 0 ∨ x = 1 ∨ x = 2 ∨ x = 3 ∨ (¬ x = 0 ∧ ¬ x = 1 ∧ ¬ x = 2 ∧ ¬ x = 3) by omega) with c8 | c8 | c8 | c8 | c8
                · refine vx_tableIn hC (tgt := 172) (by omega) (by omega) (by rw [c8]; rfl) (by decide) eX11_by_142 ?_
                  refine vx_iload hC 5 rfl eX11_by_172 ?_
                  exact vx_iret hC hM rfl eX11_by_174 (⟨_, rfl, by first | (unfold sp_by; (repeat (first | rw [if_pos (by omega)] | rw [if_neg (by omega)])); done) | (unfold sp_by; (repeat (first | rw [if_pos (by omega)] | rw [if_neg (by omega)])); all_goals (rw [hall])), cq_ro hO hR (fun k hk => rfl) (fun k hk => rfl)⟩)
                · refine vx_tableIn hC (tgt := 175) (by omega) (by omega) (by rw [c8]; rfl) (by decide) eX11_by_142 ?_
                  refine vx_iload hC 4 rfl eX11_by_175 ?_
                  exact vx_iret hC hM rfl eX11_by_177 (⟨_, rfl, by first | (unfold sp_by; (repeat (first | rw [if_pos (by omega)] | rw [if_neg (by omega)])); done) | (unfold sp_by; (repeat (first | rw [if_pos (by omega)] | rw [if_neg (by omega)])); all_goals (rw [hall])), cq_ro hO hR (fun k hk => rfl) (fun k hk => rfl)⟩)
                · refine vx_tableIn hC (tgt := 178) (by omega) (by omega) (by rw [c8]; rfl) (by decide) eX11_by_142 ?_
                  refine vx_iload hC 3 rfl eX11_by_178 ?_
                  exact vx_iret hC hM rfl eX11_by_180 (⟨_, rfl, by first | (unfold sp_by; (repeat (first | rw [if_pos (by omega)] | rw [if_neg (by omega)])); done) | (unfold sp_by; (repeat (first | rw [if_pos (by omega)] | rw [if_neg (by omega)])); all_goals (rw [hall])), cq_ro hO hR (fun k hk => rfl) (fun k hk => rfl)⟩)
                · refine vx_tableIn hC (tgt := 181) (by omega) (by omega) (by rw [c8]; rfl) (by decide) eX11_by_142 ?_
                  refine vx_iload hC 2 rfl eX11_by_181 ?_
                  exact vx_iret hC hM rfl eX11_by_183 (⟨_, rfl, by first | (unfold sp_by; (repeat (first | rw [if_pos (by omega)] | rw [if_neg (by omega)])); done) | (unfold sp_by; (repeat (first | rw [if_pos (by omega)] | rw [if_neg (by omega)])); all_goals (rw [hall])), cq_ro hO hR (fun k hk => rfl) (fun k hk => rfl)⟩)
                · refine vx_tableOut hC (tgt := 184) (by omega) (by omega) (by decide) eX11_by_142 ?_
                  refine vx_iload hC 1 rfl eX11_by_184 ?_
                  exact vx_iret hC hM rfl eX11_by_186 (⟨_, rfl, by first | (unfold sp_by; (repeat (first | rw [if_pos (by omega)] | rw [if_neg (by omega)])); done) | (unfold sp_by; (repeat (first | rw [if_pos (by omega)] | rw [if_neg (by omega)])); all_goals (rw [hall])), cq_ro hO hR (fun k hk => rfl) (fun k hk => rfl)⟩)
              · have hso := ms_stake_r hW (p := q) (q := pu) (by omega) (by omega)
                have hwk := hwon (42 + k) (by omega) (by omega)
                refine vx_aload_n hC 8 rfl eX11_by_77 ?_
                refine vx_gr hC 0 (ot_0 hO) lf_X11_12 rfl (or_0_0 hO) eX11_by_78 ?_
                refine vx_aload_n hC 7 rfl eX11_by_81 ?_
                refine vx_iload hC 5 rfl eX11_by_82 ?_
                refine vx_aload_n hC 8 rfl eX11_by_84 ?_
                refine vx_gr hC 0 (ot_0 hO) lf_X11_12 rfl (or_0_0 hO) eX11_by_85 ?_
                refine vx_iload hC 0 rfl eX11_by_88 ?_
                refine vx_callV_i hC (kX6_isWon G (d + 4) _ _ _ _ _ hO s hS hV k (by omega)) ly_X11_197 (ot_1 hO) rfl rfl rfl hRm (by omega) (Nat.le_of_ble_eq_true rfl) rfl eX11_by_90 (fun x9 n9 t9 a9 b9 c9 hx9 => ?_)
                obtain ⟨hx9, rfl, rfl, rfl, rfl, rfl⟩ := hx9
                refine vx_callV_i hC (kX6_thrown G d _ _ _ _ _ hO s hS hV q (by omega) kp hkp pu (by omega) x9 (by omega)) ly_X11_121 (ot_1 hO) rfl rfl rfl hRm (by omega) (Nat.le_of_ble_eq_true rfl) rfl eX11_by_93 (fun x10 n9 t9 a9 b9 c9 hx10 => ?_)
                obtain ⟨hx10, rfl, rfl, rfl, rfl, rfl⟩ := hx10
                refine vx_istore hC (lv1 := [(5, xa_i x10), (10, xa_i k), (9, xa_i back), (8, xa_i low), (7, xa_i top), (6, xa_i k), (4, xa_i (s (22 + q))), (3, xa_r kp), (0, xa_r 0), (1, xa_i q), (2, xa_i x)]) (by decide) rfl eX11_by_96 ?_
                have hU : x10 = (if s (42 + k) = 1 then pu + ms_stake s q pu else pu - ms_stake s q pu) := by rw [hx10, hx9]; split <;> split <;> first | rfl | omega
                have hu9 : 0 ≤ x10 ∧ x10 ≤ s (18 + q) := by rw [hU]; split <;> omega
                refine vx_iinc hC (lv1 := [(6, xa_i (k + 1)), (5, xa_i x10), (10, xa_i k), (9, xa_i back), (8, xa_i low), (7, xa_i top), (4, xa_i (s (22 + q))), (3, xa_r kp), (0, xa_r 0), (1, xa_i q), (2, xa_i x)]) 5 rfl (by decide) rfl eX11_by_98 ?_
                refine vx_iload hC 5 rfl eX11_by_101 ?_
                refine vx_iload hC 1 rfl eX11_by_103 ?_
                refine vx_mmax hC (by omega) ly_X11_200 hRm (by omega) (Nat.le_of_ble_eq_true rfl) eX11_by_105 ?_
                refine vx_top (fun x11 hx11 => ?_)
                have rx11 := mmax_r hx11
                refine vx_istore hC (lv1 := [(7, xa_i x11), (6, xa_i (k + 1)), (5, xa_i x10), (10, xa_i k), (9, xa_i back), (8, xa_i low), (4, xa_i (s (22 + q))), (3, xa_r kp), (0, xa_r 0), (1, xa_i q), (2, xa_i x)]) (by decide) rfl eX11_by_108 ?_
                refine vx_iload hC 5 rfl eX11_by_110 ?_
                refine vx_iload hC 2 rfl eX11_by_112 ?_
                refine vx_mmin hC (by omega) ly_X11_206 hRm (by omega) (Nat.le_of_ble_eq_true rfl) eX11_by_114 ?_
                refine vx_top (fun x12 hx12 => ?_)
                have rx12 := mmin_r hx12
                refine vx_istore hC (lv1 := [(8, xa_i x12), (7, xa_i x11), (6, xa_i (k + 1)), (5, xa_i x10), (10, xa_i k), (9, xa_i back), (4, xa_i (s (22 + q))), (3, xa_r kp), (0, xa_r 0), (1, xa_i q), (2, xa_i x)]) (by decide) rfl eX11_by_117 ?_
                refine vx_iload hC 3 rfl eX11_by_119 ?_
                refine vx_iload hC 6 rfl eX11_by_121 ?_
                refine vx_icmp_ne hC (tgt := 131) (by omega) (by decide) eX11_by_123 (fun c13 => ?_) (fun c13 => ?_)
                · refine vx_iload hC 5 rfl eX11_by_131 ?_
                  refine vx_istore hC (lv1 := [(9, xa_i back), (8, xa_i x12), (7, xa_i x11), (6, xa_i (k + 1)), (5, xa_i x10), (10, xa_i k), (4, xa_i (s (22 + q))), (3, xa_r kp), (0, xa_r 0), (1, xa_i q), (2, xa_i x)]) (by decide) rfl eX11_by_133 ?_
                  refine vx_iinc hC (lv1 := [(10, xa_i (k + 1)), (9, xa_i back), (8, xa_i x12), (7, xa_i x11), (6, xa_i (k + 1)), (5, xa_i x10), (4, xa_i (s (22 + q))), (3, xa_r kp), (0, xa_r 0), (1, xa_i q), (2, xa_i x)]) 5 rfl (by decide) rfl eX11_by_135 ?_
                  refine vx_goto hC (tgt := 56) (by decide) eX11_by_138 ?_
                  exact ih c1 (k + 1) x10 x11 x12 back (by omega) hu9 (by omega) (by omega) (by rw [← hres, by_run, if_neg (by omega)]; congr 1; unfold by_1; rw [← hU]; refine Prod.ext rfl (Prod.ext rfl (Prod.ext ?_ (Prod.ext ?_ ?_))) <;> dsimp only <;> split <;> omega) (by omega)
                · refine vx_iload hC 2 rfl eX11_by_126 ?_
                  refine vx_goto hC (tgt := 133) (by decide) eX11_by_128 ?_
                  refine vx_istore hC (lv1 := [(9, xa_i (k + 1)), (8, xa_i x12), (7, xa_i x11), (6, xa_i (k + 1)), (5, xa_i x10), (10, xa_i k), (4, xa_i (s (22 + q))), (3, xa_r kp), (0, xa_r 0), (1, xa_i q), (2, xa_i x)]) (by decide) rfl eX11_by_133 ?_
                  refine vx_iinc hC (lv1 := [(10, xa_i (k + 1)), (9, xa_i (k + 1)), (8, xa_i x12), (7, xa_i x11), (6, xa_i (k + 1)), (5, xa_i x10), (4, xa_i (s (22 + q))), (3, xa_r kp), (0, xa_r 0), (1, xa_i q), (2, xa_i x)]) 5 rfl (by decide) rfl eX11_by_135 ?_
                  refine vx_goto hC (tgt := 56) (by decide) eX11_by_138 ?_
                  exact ih c1 (k + 1) x10 x11 x12 (k + 1) (by omega) hu9 (by omega) (by omega) (by rw [← hres, by_run, if_neg (by omega)]; congr 1; unfold by_1; rw [← hU]; refine Prod.ext rfl (Prod.ext rfl (Prod.ext ?_ (Prod.ext ?_ ?_))) <;> dsimp only <;> split <;> omega) (by omega)
        exact LP56 25 (s 2).toNat 0 (s (22 + q)) (s (22 + q)) (s (22 + q)) 0 (by omega) (by omega) (by omega) (by omega) (by unfold by_all; rfl) (by omega)
      · refine vx_iconst hC eX11_by_22 ?_
        exact vx_iret hC hM rfl eX11_by_23 (⟨_, rfl, by first | (unfold sp_by; (repeat (first | rw [if_pos (by omega)] | rw [if_neg (by omega)])); done) | (unfold sp_by; (repeat (first | rw [if_pos (by omega)] | rw [if_neg (by omega)])); all_goals (rw [hall])), cq_ro hO hR (fun k hk => rfl) (fun k hk => rfl)⟩)
