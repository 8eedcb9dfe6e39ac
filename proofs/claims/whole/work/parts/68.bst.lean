set_option maxHeartbeats 4000000 in
set_option maxRecDepth 100000 in
theorem kX2_lookAtPennyOdds (G : xg_T) (d : Nat) (n : Nat) (tau : Nat → Nat × Nat) (vi vl : Nat → Int → Int) (vr : Nat → Int → Option Nat) (hO : xo n tau vr) (s : Int → Int) (hS : rp_S 1 s n tau vi vr) (hV : ms_V s) (p : Int) (hp : 0 ≤ p ∧ p < s 0) (kp : Nat) (hk : rp_P s p kp n tau vi)  : xm G yX2_lookAtPennyOdds cX2_lookAtPennyOdds 4 none (d + 5) 0 0 [xa_r 15, xa_r 1, xa_r kp] n tau vi vl vr (xp_v (fun n1 t1 a1 b1 c1 => (∀ z, 1 ≤ z → z < s (18 + p) → a1 20 z = ev_od s p z) ∧ xs_I (fun k => ¬ k = 7 ∧ ¬ k = 20) n tau vi vl vr n1 t1 a1 b1 c1)) := by
  refine xm.of (lv := [(0, xa_r 15), (1, xa_r 1), (2, xa_r kp)]) (by decide) (Nat.le_of_ble_eq_true rfl) rfl (fun K hC hM hRm => ?_)
  obtain ⟨q1, q3, q7, q8, q9, q10, qt, qp, qr, qpl, qtb⟩ := id hS
  have hW : ms_W s := hV.1
  have h60 := hV.2
  obtain ⟨hr, h0, h1, h2, h3, h4, h5, h6, hp0, hrow, hwon, htape, htab⟩ := id hW
  obtain ⟨k1, k2, k3, k4, k5, k6⟩ := id hk
  obtain ⟨g1, g2, g3, g4⟩ := hp0 p hp.1 hp.2
  refine vx_iconst hC eX2_lookAtPennyOdds_0 ?_
  refine vx_istore_n hC (lv1 := [(3, xa_i 1), (0, xa_r 15), (1, xa_r 1), (2, xa_r kp)]) (by decide) rfl eX2_lookAtPennyOdds_1 ?_
  have LP2 : ∀ (j : Nat) (qq : Int) (m1 : Nat → Int → Int) (hqq : 1 ≤ qq ∧ qq ≤ s (18 + p)) (hst : ∀ z, 1 ≤ z → z < qq → m1 20 z = ev_od s p z) (fi : ∀ k : Nat, (¬ k = 7 ∧ ¬ k = 20) → m1 k = vi k) (hj : s (18 + p) - qq < (j : Int)), xv G K 4 (xk_Q G K (xp_v (fun n1 t1 a1 b1 c1 => (∀ z, 1 ≤ z → z < s (18 + p) → a1 20 z = ev_od s p z) ∧ xs_I (fun k => ¬ k = 7 ∧ ¬ k = 20) n tau vi vl vr n1 t1 a1 b1 c1)) 0 0) 0 0 n tau m1 vl vr 2 [(3, xa_i qq), (0, xa_r 15), (1, xa_r 1), (2, xa_r kp)] [] := by
    intro j
    induction j with
    | zero => intro qq m1 hqq hst fi hj; exfalso; omega
    | succ j ih =>
      intro qq m1 hqq hst fi hj
      refine vx_iload_n hC 0 rfl eX2_lookAtPennyOdds_2 ?_
      refine vx_aload_n hC 3 rfl eX2_lookAtPennyOdds_3 ?_
      refine vx_gi hC 3 ⟨k1.2, k2⟩ (lf_X2_43 (xp_pn _)) rfl eX2_lookAtPennyOdds_4 ?_
      refine vx_eqi (show m1 kp 3 = _ from (congrFun (fi kp (by omega)) _).trans k6) ?_
      refine vx_icmp_ge hC (tgt := 29) (by omega) (by decide) eX2_lookAtPennyOdds_7 (fun c1 => ?_) (fun c1 => ?_)
      · exact vx_vret hC hM eX2_lookAtPennyOdds_29 (⟨rfl, (fun z z1 z2 => hst z z1 (by omega)), rfl, rfl, rfl, rfl, fun k hk => fi k hk⟩)
      · refine vx_aload_n hC 1 rfl eX2_lookAtPennyOdds_10 ?_
        refine vx_gr hC 6 (ot_15 hO) lf_X2_25 rfl (or_15_6 hO) eX2_lookAtPennyOdds_11 ?_
        refine vx_iload_n hC 0 rfl eX2_lookAtPennyOdds_14 ?_
        refine vx_aload_n hC 2 rfl eX2_lookAtPennyOdds_15 ?_
        refine vx_aload_n hC 3 rfl eX2_lookAtPennyOdds_16 ?_
        refine vx_iload_n hC 0 rfl eX2_lookAtPennyOdds_17 ?_
        refine vx_iconst hC eX2_lookAtPennyOdds_18 ?_
        refine vx_callV_i hC (kX6_odds G d _ _ _ _ _ hO s (hS.fr (fun k hk => fi k (by omega)) (Nat.le_refl _) (fun _ _ => rfl) (fun _ _ => rfl)) hV p hp kp (hk.fr (fun k hk => fi k (by omega)) (Nat.le_refl _) (fun _ _ => rfl)) qq (by omega) 1 (by omega)) ly_X2_55 (ot_1 hO) rfl rfl rfl hRm (by omega) (Nat.le_of_ble_eq_true rfl) rfl eX2_lookAtPennyOdds_19 (fun x2 ng3 tg3 ag3 bg3 cg3 hg3 => ?_)
        obtain ⟨hx2, rfl, rfl, rfl, rfl, frg3⟩ := hg3
        have hg3_kp_0 : ag3 kp 0 = s (10 + p) := (congrFun (frg3 kp (by omega)) _).trans (show m1 kp 0 = _ from (congrFun (fi kp (by omega)) _).trans k3)
        have hg3_kp_1 : ag3 kp 1 = p := (congrFun (frg3 kp (by omega)) _).trans (show m1 kp 1 = _ from (congrFun (fi kp (by omega)) _).trans k4)
        have hg3_kp_2 : ag3 kp 2 = s (14 + p) := (congrFun (frg3 kp (by omega)) _).trans (show m1 kp 2 = _ from (congrFun (fi kp (by omega)) _).trans k5)
        have hg3_kp_3 : ag3 kp 3 = s (18 + p) := (congrFun (frg3 kp (by omega)) _).trans (show m1 kp 3 = _ from (congrFun (fi kp (by omega)) _).trans k6)
        have hg3_20 : ag3 20 = m1 20 := (frg3 20 (by omega))
        have frvig3 : ∀ k : Nat, (¬ k = 7 ∧ ¬ k = 20) → ag3 k = vi k := fun k hk => (frg3 k (by omega)).trans (fi k hk)
        refine vx_iastore hC (ot_20 hO) (by omega) (by omega) eX2_lookAtPennyOdds_22 ?_
        refine vx_vi (fun v4 hv4 => ?_)
        have hv4_kp_0 : v4 kp 0 = s (10 + p) := by rw [hv4, xu_c _ _ _ _ (by omega), hg3_kp_0]
        have hv4_kp_1 : v4 kp 1 = p := by rw [hv4, xu_c _ _ _ _ (by omega), hg3_kp_1]
        have hv4_kp_2 : v4 kp 2 = s (14 + p) := by rw [hv4, xu_c _ _ _ _ (by omega), hg3_kp_2]
        have hv4_kp_3 : v4 kp 3 = s (18 + p) := by rw [hv4, xu_c _ _ _ _ (by omega), hg3_kp_3]
        obtain ⟨f5, hf5⟩ : ∃ f, f = fu (m1 20) qq x2 := ⟨_, rfl⟩
        have hv4_20 : v4 20 = f5 := by rw [hv4, hf5, xu_k, hg3_20]
        have frv4 : ∀ k : Nat, (¬ k = 7 ∧ ¬ k = 20) → v4 k = vi k := fun k hk => by rw [hv4, xu_c _ _ _ _ (by omega)]; exact frvig3 k hk
        refine vx_iinc hC (lv1 := [(3, xa_i (qq + 1)), (0, xa_r 15), (1, xa_r 1), (2, xa_r kp)]) 0 rfl (by decide) rfl eX2_lookAtPennyOdds_23 ?_
        refine vx_goto hC (tgt := 2) (by decide) eX2_lookAtPennyOdds_26 ?_
        exact ih (qq + 1) v4 (by omega) (fun z z1 z2 => by rw [hv4_20, hf5]; by_cases e9 : z = qq; (rw [e9, fu_s]; simp only [hx2]; rfl); (rw [fu_n _ _ _ e9]; exact hst z z1 (by omega))) frv4 (by omega)
  exact LP2 13 1 vi (by omega) (fun z z1 z2 => by omega) (fun _ _ => rfl) (by omega)
set_option maxHeartbeats 4000000 in
set_option maxRecDepth 100000 in
theorem kX2_climbed (G : xg_T) (d : Nat) (n : Nat) (tau : Nat → Nat × Nat) (vi vl : Nat → Int → Int) (vr : Nat → Int → Option Nat) (hO : xo n tau vr) (od : Int → Int) (g u : Int) (hg : 2 ≤ g ∧ g ≤ 12) (hu : 0 ≤ u ∧ u ≤ g) (hod : ∀ z, 1 ≤ z → z < g → vi 20 z = od z) (hr : ∀ z, 1 ≤ od z ∧ od z ≤ 9) : xm G yX2_climbed cX2_climbed 9 (some .long) (d + 1) 0 0 [xa_r 15, xa_i g, xa_i u] n tau vi vl vr (xp_l (fun z9 n1 t1 a1 b1 c1 => z9 = sq (ev_W od g) 0 u.toNat ∧ xs_0 n tau vi vl vr n1 t1 a1 b1 c1)) := by
  refine xm.of (lv := [(0, xa_r 15), (1, xa_i g), (2, xa_i u)]) (by decide) (Nat.le_of_ble_eq_true rfl) rfl (fun K hC hM hRm => ?_)
  refine vx_lconst hC 0 (by decide) eX2_climbed_0 ?_
  refine vx_lstore_n hC (lv1 := [(3, xa_l 0), (0, xa_r 15), (1, xa_i g), (2, xa_i u)]) (by decide) rfl eX2_climbed_1 ?_
  refine vx_iconst hC eX2_climbed_2 ?_
  refine vx_istore hC (lv1 := [(5, xa_i 0), (3, xa_l 0), (0, xa_r 15), (1, xa_i g), (2, xa_i u)]) (by decide) rfl eX2_climbed_3 ?_
  have LP5 : ∀ (j : Nat) (jj : Int) (su : Int) (hjj : 0 ≤ jj ∧ jj ≤ u) (hsu : su = sq (ev_W od g) 0 jj.toNat) (hj : u - jj < (j : Int)), xv G K 9 (xk_Q G K (xp_l (fun z9 n1 t1 a1 b1 c1 => z9 = sq (ev_W od g) 0 u.toNat ∧ xs_0 n tau vi vl vr n1 t1 a1 b1 c1)) 0 0) 0 0 n tau vi vl vr 5 [(5, xa_i jj), (3, xa_l su), (0, xa_r 15), (1, xa_i g), (2, xa_i u)] [] := by
    intro j
    induction j with
    | zero => intro jj su hjj hsu hj; exfalso; omega
    | succ j ihA =>
      intro jj su hjj hsu hj
      refine vx_iload hC 0 rfl eX2_climbed_5 ?_
      refine vx_iload_n hC 4 rfl eX2_climbed_7 ?_
      refine vx_icmp_ge hC (tgt := 74) (by omega) (by decide) eX2_climbed_8 (fun c1 => ?_) (fun c1 => ?_)
      · refine vx_lload_n hC 1 rfl eX2_climbed_74 ?_
        exact vx_lret hC hM eX2_climbed_75 (⟨_, rfl, by rw [hsu, show jj = u by omega], xs_0.rf _ _ _ _ _⟩)
      · refine vx_lconst hC 1 (by decide) eX2_climbed_11 ?_
        refine vx_lstore hC (lv1 := [(6, xa_l 1), (5, xa_i jj), (3, xa_l su), (0, xa_r 15), (1, xa_i g), (2, xa_i u)]) (by decide) rfl eX2_climbed_12 ?_
        refine vx_iconst hC eX2_climbed_14 ?_
        refine vx_istore hC (lv1 := [(8, xa_i 1), (6, xa_l 1), (5, xa_i jj), (3, xa_l su), (0, xa_r 15), (1, xa_i g), (2, xa_i u)]) (by decide) rfl eX2_climbed_15 ?_
        have LP17 : ∀ (j : Nat) (cq : Nat) (qq : Int) (ww : Int) (hcq : qq + (cq : Int) = g ∧ 1 ≤ qq) (hev : ev_w od jj cq qq ww = ev_W od g jj) (hj : (cq : Int) < (j : Int)), xv G K 9 (xk_Q G K (xp_l (fun z9 n1 t1 a1 b1 c1 => z9 = sq (ev_W od g) 0 u.toNat ∧ xs_0 n tau vi vl vr n1 t1 a1 b1 c1)) 0 0) 0 0 n tau vi vl vr 17 [(8, xa_i qq), (6, xa_l ww), (5, xa_i jj), (3, xa_l su), (0, xa_r 15), (1, xa_i g), (2, xa_i u)] [] := by
          intro j
          induction j with
          | zero => intro cq qq ww hcq hev hj; exfalso; omega
          | succ j ihB =>
            intro cq qq ww hcq hev hj
            refine vx_iload hC 0 rfl eX2_climbed_17 ?_
            refine vx_iload_n hC 5 rfl eX2_climbed_19 ?_
            refine vx_icmp_ge hC (tgt := 63) (by omega) (by decide) eX2_climbed_20 (fun c2 => ?_) (fun c2 => ?_)
            · have hww : ww = ev_W od g jj := by rw [← hev, show cq = 0 by omega, ev_w]
              refine vx_lload_n hC 3 rfl eX2_climbed_63 ?_
              refine vx_lload hC 1 rfl eX2_climbed_64 ?_
              refine vx_ladd hC eX2_climbed_66 ?_
              refine vx_topl (fun x3 hx3 => ?_)
              refine vx_lstore_n hC (lv1 := [(3, xa_l x3), (8, xa_i qq), (6, xa_l ww), (5, xa_i jj), (0, xa_r 15), (1, xa_i g), (2, xa_i u)]) (by decide) rfl eX2_climbed_67 ?_
              refine vx_iinc hC (lv1 := [(5, xa_i (jj + 1)), (3, xa_l x3), (8, xa_i qq), (6, xa_l ww), (0, xa_r 15), (1, xa_i g), (2, xa_i u)]) 3 rfl (by decide) rfl eX2_climbed_68 ?_
              refine vx_goto hC (tgt := 5) (by decide) eX2_climbed_71 ?_
              refine vx_lv (lv1 := [(5, xa_i (jj + 1)), (3, xa_l x3), (0, xa_r 15), (1, xa_i g), (2, xa_i u)]) [0, 1, 4, 5, 6] rfl ?_
              exact ihA (jj + 1) x3 (by omega) (by rw [hx3, hsu, hww, show (jj + 1).toNat = jj.toNat + 1 by omega, sq_last, show (0 : Int) + (jj.toNat : Int) = jj by omega]) (by omega)
            · obtain ⟨cq1, rfl⟩ : ∃ cq1, cq = cq1 + 1 := ⟨cq - 1, by omega⟩
              have hoq := hr qq
              refine vx_lload hC 1 rfl eX2_climbed_23 ?_
              refine vx_iload hC 0 rfl eX2_climbed_25 ?_
              refine vx_iload hC 2 rfl eX2_climbed_27 ?_
              have J54_z4 : ∀ z4 : Int, ((qq ≤ jj ∧ z4 = 10 - od qq) ∨ (jj < qq ∧ z4 = od qq)) → xv G K 9 (xk_Q G K (xp_l (fun z9 n1 t1 a1 b1 c1 => z9 = sq (ev_W od g) 0 u.toNat ∧ xs_0 n tau vi vl vr n1 t1 a1 b1 c1)) 0 0) 0 0 n tau vi vl vr 54 [(8, xa_i qq), (6, xa_l ww), (5, xa_i jj), (3, xa_l su), (0, xa_r 15), (1, xa_i g), (2, xa_i u)] [xa_l z4, xa_l ww] := by
                intro z4 hz4
                have hfac : (if qq ≤ jj then 10 - od qq else od qq) = z4 := by split <;> omega
                refine vx_lmul hC eX2_climbed_54 ?_
                refine vx_topl (fun x5 hx5 => ?_)
                refine vx_lstore hC (lv1 := [(6, xa_l x5), (8, xa_i qq), (5, xa_i jj), (3, xa_l su), (0, xa_r 15), (1, xa_i g), (2, xa_i u)]) (by decide) rfl eX2_climbed_55 ?_
                refine vx_iinc hC (lv1 := [(8, xa_i (qq + 1)), (6, xa_l x5), (5, xa_i jj), (3, xa_l su), (0, xa_r 15), (1, xa_i g), (2, xa_i u)]) 1 rfl (by decide) rfl eX2_climbed_57 ?_
                refine vx_goto hC (tgt := 17) (by decide) eX2_climbed_60 ?_
                exact ihB cq1 (qq + 1) x5 (by omega) (by rw [← hev, ev_w, hx5, hfac]) (by omega)
              refine vx_icmp_gt hC (tgt := 46) (by omega) (by decide) eX2_climbed_29 (fun c6 => ?_) (fun c6 => ?_)
              · refine vx_aload_n hC 4 rfl eX2_climbed_46 ?_
                refine vx_gr hC 6 (ot_15 hO) lf_X2_25 rfl (or_15_6 hO) eX2_climbed_47 ?_
                refine vx_iload hC 0 rfl eX2_climbed_50 ?_
                refine vx_iaload hC (ot_20 hO) (by omega) (by omega) eX2_climbed_52 ?_
                refine vx_eqi (hod qq (by omega) (by omega)) ?_
                refine vx_i2l hC (by omega) eX2_climbed_53 ?_
                exact J54_z4 _ (by omega)
              · refine vx_bipush hC (by decide) eX2_climbed_32 ?_
                refine vx_aload_n hC 4 rfl eX2_climbed_34 ?_
                refine vx_gr hC 6 (ot_15 hO) lf_X2_25 rfl (or_15_6 hO) eX2_climbed_35 ?_
                refine vx_iload hC 0 rfl eX2_climbed_38 ?_
                refine vx_iaload hC (ot_20 hO) (by omega) (by omega) eX2_climbed_40 ?_
                refine vx_eqi (hod qq (by omega) (by omega)) ?_
                refine vx_isub hC eX2_climbed_41 ?_
                refine vx_i2l hC (by omega) eX2_climbed_42 ?_
                refine vx_goto hC (tgt := 54) (by decide) eX2_climbed_43 ?_
                exact J54_z4 _ (by omega)
        exact LP17 13 (g - 1).toNat 1 1 (by omega) rfl (by omega)
  exact LP5 13 0 0 (by omega) rfl (by omega)
set_option maxHeartbeats 4000000 in
set_option maxRecDepth 100000 in
theorem kX11_ever (G : xg_T) (d : Nat) (n : Nat) (tau : Nat → Nat × Nat) (vi vl : Nat → Int → Int) (vr : Nat → Int → Option Nat) (hO : xo n tau vr) (s im : Int → Int) (has ran : Int) (bod : Int → Int) (hR : RCl s im has ran bod n tau vi vr) (hV : ms_V s) (q pt : Int) (hq : -2147483648 ≤ q ∧ q < 2147483648) (hpt : -2147483648 ≤ pt ∧ pt < 2147483648) : xm G yX11_ever cX11_ever 4 (some .long) (d + 6) 0 0 [xa_r 0, xa_i q, xa_i pt] n tau vi vl vr (xp_l (fun z9 n1 t1 a1 b1 c1 => z9 = sp_ever s q pt ∧ cq (s) (im) (has) (ran) (bod) n tau vi vl n1 t1 a1 b1 c1)) := by
  refine xm.of (lv := [(0, xa_r 0), (1, xa_i q), (2, xa_i pt)]) (by decide) (Nat.le_of_ble_eq_true rfl) rfl (fun K hC hM hRm => ?_)
  have hS : rp_S 1 s n tau vi vr := hR.1
  obtain ⟨q1, q3, q7, q8, q9, q10, qt, qp, qr, qpl, qtb⟩ := id hS
  have hW : ms_W s := hV.1
  have h60 := hV.2
  obtain ⟨hr, h0, h1, h2, h3, h4, h5, h6, hp0, hrow, hwon, htape, htab⟩ := id hW
  obtain ⟨-, R2, R3, R4, R5, R6, R7, R8, R9, R10⟩ := id hR
  refine vx_aload_n hC 0 rfl eX11_ever_0 ?_
  refine vx_gr hC 0 (ot_0 hO) lf_X11_12 rfl (or_0_0 hO) eX11_ever_1 ?_
  refine vx_iload_n hC 1 rfl eX11_ever_4 ?_
  refine vx_callV_q hC (kX6_playerAt G (d + 4) _ _ _ _ _ hO s hS hV q (by omega)) ly_X11_93 (ot_1 hO) rfl rfl rfl hRm (by omega) (Nat.le_of_ble_eq_true rfl) rfl eX11_ever_5 (fun r1 n9 t9 a9 b9 c9 hr1 => ?_)
  obtain ⟨hr1, rfl, rfl, rfl, rfl, rfl⟩ := hr1
  rcases hr1 with ⟨rfl, hno⟩ | ⟨kp, rfl, hyes, hkp⟩
  · refine vx_astore_n hC (lv1 := [(3, xa_n), (0, xa_r 0), (1, xa_i q), (2, xa_i pt)]) (by decide) rfl eX11_ever_8 ?_
    refine vx_aload_n hC 0 rfl eX11_ever_9 ?_
    refine vx_ifnull hC (tgt := 20) (by decide) eX11_ever_10 (fun _ => ?_) (fun k h => by cases h)
    refine vx_ldc2 hC (-9223372036854775808) wd_680 eX11_ever_20 ?_
    exact vx_lret hC hM eX11_ever_23 (⟨_, rfl, by unfold sp_ever; first | (rw [if_pos (by omega)]; simp only []; done) | (rw [if_neg (by omega)]; rfl), cq_ro hO hR (fun k hk => rfl) (fun k hk => rfl)⟩)
  · obtain ⟨k1, k2, k3, k4, k5, k6⟩ := id hkp
    obtain ⟨g1, g2, g3, g4⟩ := hp0 q (by omega) (by omega)
    refine vx_astore_n hC (lv1 := [(3, xa_r kp), (0, xa_r 0), (1, xa_i q), (2, xa_i pt)]) (by decide) rfl eX11_ever_8 ?_
    refine vx_aload_n hC 0 rfl eX11_ever_9 ?_
    refine vx_ifnull hC (tgt := 20) (by decide) eX11_ever_10 (fun h => by cases h) (fun _ _ => ?_)
    refine vx_iload_n hC 3 rfl eX11_ever_13 ?_
    refine vx_callS_i hC (kX11_isPart G (d + 4) _ _ _ _ _ _ (by omega)) ly_X11_128 rfl hRm (by omega) (Nat.le_of_ble_eq_true rfl) rfl eX11_ever_14 (fun x2 n9 t9 a9 b9 c9 hx2 => ?_)
    obtain ⟨hx2, rfl, rfl, rfl, rfl, rfl⟩ := hx2
    refine vx_if_ne hC (tgt := 24) (by omega) (by decide) eX11_ever_17 (fun c3 => ?_) (fun c3 => ?_)
    · refine vx_aload_n hC 1 rfl eX11_ever_24 ?_
      refine vx_gr hC 3 (ot_0 hO) lf_X11_24 rfl (or_0_3 hO) eX11_ever_25 ?_
      refine vx_aload_n hC 1 rfl eX11_ever_28 ?_
      refine vx_gr hC 0 (ot_0 hO) lf_X11_12 rfl (or_0_0 hO) eX11_ever_29 ?_
      refine vx_aload_n hC 0 rfl eX11_ever_32 ?_
      refine vx_callV_v hC (kX2_lookAtPennyOdds G d _ _ _ _ _ hO s hS hV q (by omega) kp hkp) ly_X11_155 (ot_15 hO) rfl rfl rfl hRm (by omega) (Nat.le_of_ble_eq_true rfl) rfl eX11_ever_33 (fun ng5 tg5 ag5 bg5 cg5 hg5 => ?_)
      obtain ⟨qg5_0, rfl, rfl, rfl, rfl, frg5⟩ := hg5
      have hg5_1_1 : ag5 1 1 = s 3 := (congrFun (frg5 1 (by omega)) _).trans q1
      have hg5_1_3 : ag5 1 3 = s 1 := (congrFun (frg5 1 (by omega)) _).trans q3
      have hg5_1_7 : ag5 1 7 = s 0 := (congrFun (frg5 1 (by omega)) _).trans q7
      have hg5_1_8 : ag5 1 8 = s 5 := (congrFun (frg5 1 (by omega)) _).trans q8
      have hg5_1_9 : ag5 1 9 = s 2 := (congrFun (frg5 1 (by omega)) _).trans q9
      have hg5_1_10 : ag5 1 10 = wb s (s 2).toNat := (congrFun (frg5 1 (by omega)) _).trans q10
      have hg5_2 : ag5 2 = vi 2 := (frg5 2 (by omega))
      have hg5_5 : ag5 5 = vi 5 := (frg5 5 (by omega))
      have hg5_6 : ag5 6 = vi 6 := (frg5 6 (by omega))
      have hg5_kp_0 : ag5 kp 0 = s (10 + q) := (congrFun (frg5 kp (by omega)) _).trans k3
      have hg5_kp_1 : ag5 kp 1 = q := (congrFun (frg5 kp (by omega)) _).trans k4
      have hg5_kp_2 : ag5 kp 2 = s (14 + q) := (congrFun (frg5 kp (by omega)) _).trans k5
      have hg5_kp_3 : ag5 kp 3 = s (18 + q) := (congrFun (frg5 kp (by omega)) _).trans k6
      have frvig5 : ∀ k : Nat, (k < 7 ∨ (8 ≤ k ∧ k < 14) ∨ 30 ≤ k) → ag5 k = vi k := fun k hk => (frg5 k (by omega))
      refine vx_aload_n hC 1 rfl eX11_ever_36 ?_
      refine vx_gr hC 3 (ot_0 hO) lf_X11_24 rfl (or_0_3 hO) eX11_ever_37 ?_
      refine vx_aload_n hC 0 rfl eX11_ever_40 ?_
      refine vx_gi hC 3 ⟨k1.2, k2⟩ (lf_X11_105 (xp_pn _)) rfl eX11_ever_41 ?_
      refine vx_eqi hg5_kp_3 ?_
      refine vx_aload_n hC 1 rfl eX11_ever_44 ?_
      refine vx_gr hC 0 (ot_0 hO) lf_X11_12 rfl (or_0_0 hO) eX11_ever_45 ?_
      refine vx_gr hC 5 (ot_1 hO) lf_X11_87 rfl (or_1_5 hO) eX11_ever_48 ?_
      refine vx_iload_n hC 2 rfl eX11_ever_51 ?_
      refine vx_iaload hC (ot_5 hO) (by omega) (by omega) eX11_ever_52 ?_
      refine vx_eqi (congrFun hg5_5 _) ?_
      refine vx_eqi (y := s (22 + q)) (by first | exact qp q (by omega) (by omega) | (rw [frvig5 5 (by omega)]; exact qp q (by omega) (by omega))) ?_
      refine vx_callV_l hC (kX2_climbed G (d + 4) _ _ _ _ _ hO (ev_od s q) (s (18 + q)) (s (22 + q)) (by omega) (by omega) qg5_0 (ev_od_r s q)) ly_X11_159 (ot_15 hO) rfl rfl rfl hRm (by omega) (Nat.le_of_ble_eq_true rfl) rfl eX11_ever_53 (fun x6 n9 t9 a9 b9 c9 hx6 => ?_)
      obtain ⟨hx6, rfl, rfl, rfl, rfl, rfl⟩ := hx6
      have hcrx6 := ev_S_r (od := ev_od s q) (ev_od_r s q) (g := s (18 + q)) (by omega) (c := ((s (22 + q))).toNat) (by omega)
      rw [← hx6] at hcrx6
      refine vx_aload_n hC 1 rfl eX11_ever_56 ?_
      refine vx_gr hC 3 (ot_0 hO) lf_X11_24 rfl (or_0_3 hO) eX11_ever_57 ?_
      refine vx_aload_n hC 0 rfl eX11_ever_60 ?_
      refine vx_gi hC 3 ⟨k1.2, k2⟩ (lf_X11_105 (xp_pn _)) rfl eX11_ever_61 ?_
      refine vx_eqi hg5_kp_3 ?_
      refine vx_aload_n hC 0 rfl eX11_ever_64 ?_
      refine vx_gi hC 3 ⟨k1.2, k2⟩ (lf_X11_105 (xp_pn _)) rfl eX11_ever_65 ?_
      refine vx_eqi hg5_kp_3 ?_
      refine vx_callV_l hC (kX2_climbed G (d + 4) _ _ _ _ _ hO (ev_od s q) (s (18 + q)) (s (18 + q)) (by omega) (by omega) qg5_0 (ev_od_r s q)) ly_X11_159 (ot_15 hO) rfl rfl rfl hRm (by omega) (Nat.le_of_ble_eq_true rfl) rfl eX11_ever_68 (fun x7 n9 t9 a9 b9 c9 hx7 => ?_)
      obtain ⟨hx7, rfl, rfl, rfl, rfl, rfl⟩ := hx7
      have hcrx7 := ev_S_r (od := ev_od s q) (ev_od_r s q) (g := s (18 + q)) (by omega) (c := ((s (18 + q))).toNat) (by omega)
      rw [← hx7] at hcrx7
      refine vx_iload_n hC 3 rfl eX11_ever_71 ?_
      refine vx_callS_l hC (kX11_lowest G (d + 3) _ _ _ _ _ _ _ _ (by omega) (by omega) (by omega)) ly_X11_145 rfl hRm (by omega) (Nat.le_of_ble_eq_true rfl) rfl eX11_ever_72 (fun x8 n9 t9 a9 b9 c9 hx8 => ?_)
      obtain ⟨hx8, rfl, rfl, rfl, rfl, rfl⟩ := hx8
      exact vx_lret hC hM eX11_ever_75 (⟨_, rfl, by unfold sp_ever; first | (rw [if_pos (by omega)]; simp only [hx6, hx7, hx8]; done) | (rw [if_neg (by omega)]; rfl), cq_ro hO hR (fun k hk => frvig5 k hk) (fun k hk => rfl)⟩)
    · refine vx_ldc2 hC (-9223372036854775808) wd_680 eX11_ever_20 ?_
      exact vx_lret hC hM eX11_ever_23 (⟨_, rfl, by unfold sp_ever; first | (rw [if_pos (by omega)]; simp only []; done) | (rw [if_neg (by omega)]; rfl), cq_ro hO hR (fun k hk => rfl) (fun k hk => rfl)⟩)
set_option maxHeartbeats 4000000 in
set_option maxRecDepth 100000 in
theorem kX2_lookAtOdds (G : xg_T) (d : Nat) (n : Nat) (tau : Nat → Nat × Nat) (vi vl : Nat → Int → Int) (vr : Nat → Int → Option Nat) (hO : xo n tau vr) (s : Int → Int) (hS : rp_S 1 s n tau vi vr) (hV : ms_V s) (p : Int) (hp : 0 ≤ p ∧ p < s 0) (kp : Nat) (hk : rp_P s p kp n tau vi)  : xm G yX2_lookAtOdds cX2_lookAtOdds 6 none (d + 5) 0 0 [xa_r 15, xa_r 1, xa_r kp] n tau vi vl vr (xp_v (fun n1 t1 a1 b1 c1 => (∀ q st, 1 ≤ q → q < s (18 + p) → 1 ≤ st → st ≤ q → st ≤ s (18 + p) - q → a1 21 (q * 7 + st) = ms_odds s p q st) ∧ xs_I (fun k => ¬ k = 7 ∧ ¬ k = 21) n tau vi vl vr n1 t1 a1 b1 c1)) := by
  refine xm.of (lv := [(0, xa_r 15), (1, xa_r 1), (2, xa_r kp)]) (by decide) (Nat.le_of_ble_eq_true rfl) rfl (fun K hC hM hRm => ?_)
  obtain ⟨q1, q3, q7, q8, q9, q10, qt, qp, qr, qpl, qtb⟩ := id hS
  have hW : ms_W s := hV.1
  have h60 := hV.2
  obtain ⟨hr, h0, h1, h2, h3, h4, h5, h6, hp0, hrow, hwon, htape, htab⟩ := id hW
  obtain ⟨k1, k2, k3, k4, k5, k6⟩ := id hk
  obtain ⟨g1, g2, g3, g4⟩ := hp0 p hp.1 hp.2
  refine vx_iconst hC eX2_lookAtOdds_0 ?_
  refine vx_istore_n hC (lv1 := [(3, xa_i 1), (0, xa_r 15), (1, xa_r 1), (2, xa_r kp)]) (by decide) rfl eX2_lookAtOdds_1 ?_
  have LP2 : ∀ (j : Nat) (qq : Int) (m1 : Nat → Int → Int) (hqq : 1 ≤ qq ∧ qq ≤ s (18 + p)) (hao : (∀ q st, 1 ≤ q → q < qq → 1 ≤ st → st ≤ q → st ≤ s (18 + p) - q → m1 21 (q * 7 + st) = ms_odds s p q st)) (fi : ∀ k : Nat, (¬ k = 7 ∧ ¬ k = 21) → m1 k = vi k) (hj : s (18 + p) - qq < (j : Int)), xv G K 6 (xk_Q G K (xp_v (fun n1 t1 a1 b1 c1 => (∀ q st, 1 ≤ q → q < s (18 + p) → 1 ≤ st → st ≤ q → st ≤ s (18 + p) - q → a1 21 (q * 7 + st) = ms_odds s p q st) ∧ xs_I (fun k => ¬ k = 7 ∧ ¬ k = 21) n tau vi vl vr n1 t1 a1 b1 c1)) 0 0) 0 0 n tau m1 vl vr 2 [(3, xa_i qq), (0, xa_r 15), (1, xa_r 1), (2, xa_r kp)] [] := by
    intro j
    induction j with
    | zero => intro qq m1 hqq hao fi hj; exfalso; omega
    | succ j ihA =>
      intro qq m1 hqq hao fi hj
      refine vx_iload_n hC 0 rfl eX2_lookAtOdds_2 ?_
      refine vx_aload_n hC 3 rfl eX2_lookAtOdds_3 ?_
      refine vx_gi hC 3 ⟨k1.2, k2⟩ (lf_X2_43 (xp_pn _)) rfl eX2_lookAtOdds_4 ?_
      refine vx_eqi (show m1 kp 3 = _ from (congrFun (fi kp (by omega)) _).trans k6) ?_
      refine vx_icmp_ge hC (tgt := 64) (by omega) (by decide) eX2_lookAtOdds_7 (fun c1 => ?_) (fun c1 => ?_)
      · exact vx_vret hC hM eX2_lookAtOdds_64 (⟨rfl, (fun q st q1 q2 t1 t2 t3 => hao q st q1 (by omega) t1 t2 t3), rfl, rfl, rfl, rfl, fun k hk => fi k hk⟩)
      · refine vx_iload_n hC 0 rfl eX2_lookAtOdds_10 ?_
        refine vx_aload_n hC 3 rfl eX2_lookAtOdds_11 ?_
        refine vx_gi hC 3 ⟨k1.2, k2⟩ (lf_X2_43 (xp_pn _)) rfl eX2_lookAtOdds_12 ?_
        refine vx_eqi (show m1 kp 3 = _ from (congrFun (fi kp (by omega)) _).trans k6) ?_
        refine vx_iload_n hC 0 rfl eX2_lookAtOdds_15 ?_
        refine vx_isub hC eX2_lookAtOdds_16 ?_
        refine vx_mmin hC (by omega) ly_X2_89 hRm (by omega) (Nat.le_of_ble_eq_true rfl) eX2_lookAtOdds_17 ?_
        refine vx_top (fun x2 hx2 => ?_)
        have rx2 := mmin_r hx2
        refine vx_istore hC (lv1 := [(4, xa_i x2), (3, xa_i qq), (0, xa_r 15), (1, xa_r 1), (2, xa_r kp)]) (by decide) rfl eX2_lookAtOdds_20 ?_
        refine vx_iconst hC eX2_lookAtOdds_22 ?_
        refine vx_istore hC (lv1 := [(5, xa_i 1), (4, xa_i x2), (3, xa_i qq), (0, xa_r 15), (1, xa_r 1), (2, xa_r kp)]) (by decide) rfl eX2_lookAtOdds_23 ?_
        have LP25 : ∀ (j : Nat) (ss : Int) (m2 : Nat → Int → Int) (hss : 1 ≤ ss ∧ ss ≤ x2 + 1) (hao2 : (∀ q st, 1 ≤ q → q < qq → 1 ≤ st → st ≤ q → st ≤ s (18 + p) - q → m2 21 (q * 7 + st) = ms_odds s p q st)) (hin : ∀ st, 1 ≤ st → st < ss → m2 21 (qq * 7 + st) = ms_odds s p qq st) (fi2 : ∀ k : Nat, (¬ k = 7 ∧ ¬ k = 21) → m2 k = vi k) (hj : x2 + 1 - ss < (j : Int)), xv G K 6 (xk_Q G K (xp_v (fun n1 t1 a1 b1 c1 => (∀ q st, 1 ≤ q → q < s (18 + p) → 1 ≤ st → st ≤ q → st ≤ s (18 + p) - q → a1 21 (q * 7 + st) = ms_odds s p q st) ∧ xs_I (fun k => ¬ k = 7 ∧ ¬ k = 21) n tau vi vl vr n1 t1 a1 b1 c1)) 0 0) 0 0 n tau m2 vl vr 25 [(5, xa_i ss), (4, xa_i x2), (3, xa_i qq), (0, xa_r 15), (1, xa_r 1), (2, xa_r kp)] [] := by
          intro j
          induction j with
          | zero => intro ss m2 hss hao2 hin fi2 hj; exfalso; omega
          | succ j ihB =>
            intro ss m2 hss hao2 hin fi2 hj
            refine vx_iload hC 0 rfl eX2_lookAtOdds_25 ?_
            refine vx_iload hC 1 rfl eX2_lookAtOdds_27 ?_
            refine vx_icmp_gt hC (tgt := 58) (by omega) (by decide) eX2_lookAtOdds_29 (fun c3 => ?_) (fun c3 => ?_)
            · refine vx_iinc hC (lv1 := [(3, xa_i (qq + 1)), (5, xa_i ss), (4, xa_i x2), (0, xa_r 15), (1, xa_r 1), (2, xa_r kp)]) 2 rfl (by decide) rfl eX2_lookAtOdds_58 ?_
              refine vx_goto hC (tgt := 2) (by decide) eX2_lookAtOdds_61 ?_
              refine vx_lv (lv1 := [(3, xa_i (qq + 1)), (0, xa_r 15), (1, xa_r 1), (2, xa_r kp)]) [0, 3, 4, 5] rfl ?_
              exact ihA (qq + 1) m2 (by omega) (fun q st q1 q2 t1 t2 t3 => by by_cases e9 : q = qq; (rw [e9]; exact hin st t1 (by omega)); exact hao2 q st q1 (by omega) t1 t2 t3) fi2 (by omega)
            · refine vx_aload_n hC 3 rfl eX2_lookAtOdds_32 ?_
              refine vx_gr hC 7 (ot_15 hO) lf_X2_28 rfl (or_15_7 hO) eX2_lookAtOdds_33 ?_
              refine vx_iload_n hC 2 rfl eX2_lookAtOdds_36 ?_
              refine vx_bipush hC (by decide) eX2_lookAtOdds_37 ?_
              refine vx_imul hC eX2_lookAtOdds_39 ?_
              refine vx_iload hC 0 rfl eX2_lookAtOdds_40 ?_
              refine vx_iadd hC eX2_lookAtOdds_42 ?_
              refine vx_aload_n hC 4 rfl eX2_lookAtOdds_43 ?_
              refine vx_aload_n hC 5 rfl eX2_lookAtOdds_44 ?_
              refine vx_iload_n hC 2 rfl eX2_lookAtOdds_45 ?_
              refine vx_iload hC 0 rfl eX2_lookAtOdds_46 ?_
              refine vx_callV_i hC (kX6_odds G d _ _ _ _ _ hO s (hS.fr (fun k hk => fi2 k (by omega)) (Nat.le_refl _) (fun _ _ => rfl) (fun _ _ => rfl)) hV p hp kp (hk.fr (fun k hk => fi2 k (by omega)) (Nat.le_refl _) (fun _ _ => rfl)) qq (by omega) ss (by omega)) ly_X2_55 (ot_1 hO) rfl rfl rfl hRm (by omega) (Nat.le_of_ble_eq_true rfl) rfl eX2_lookAtOdds_48 (fun x4 ng5 tg5 ag5 bg5 cg5 hg5 => ?_)
              obtain ⟨hx4, rfl, rfl, rfl, rfl, frg5⟩ := hg5
              have hg5_kp_0 : ag5 kp 0 = s (10 + p) := (congrFun (frg5 kp (by omega)) _).trans (show m2 kp 0 = _ from (congrFun (fi2 kp (by omega)) _).trans k3)
              have hg5_kp_1 : ag5 kp 1 = p := (congrFun (frg5 kp (by omega)) _).trans (show m2 kp 1 = _ from (congrFun (fi2 kp (by omega)) _).trans k4)
              have hg5_kp_2 : ag5 kp 2 = s (14 + p) := (congrFun (frg5 kp (by omega)) _).trans (show m2 kp 2 = _ from (congrFun (fi2 kp (by omega)) _).trans k5)
              have hg5_kp_3 : ag5 kp 3 = s (18 + p) := (congrFun (frg5 kp (by omega)) _).trans (show m2 kp 3 = _ from (congrFun (fi2 kp (by omega)) _).trans k6)
              have hg5_21 : ag5 21 = m2 21 := (frg5 21 (by omega))
              have frvig5 : ∀ k : Nat, (¬ k = 7 ∧ ¬ k = 21) → ag5 k = vi k := fun k hk => (frg5 k (by omega)).trans (fi2 k hk)
              refine vx_top2 (fun x6 hx6 => ?_)
              refine vx_iastore hC (ot_21 hO) (by omega) (by omega) eX2_lookAtOdds_51 ?_
              refine vx_vi (fun v7 hv7 => ?_)
              have hv7_kp_0 : v7 kp 0 = s (10 + p) := by rw [hv7, xu_c _ _ _ _ (by omega), hg5_kp_0]
              have hv7_kp_1 : v7 kp 1 = p := by rw [hv7, xu_c _ _ _ _ (by omega), hg5_kp_1]
              have hv7_kp_2 : v7 kp 2 = s (14 + p) := by rw [hv7, xu_c _ _ _ _ (by omega), hg5_kp_2]
              have hv7_kp_3 : v7 kp 3 = s (18 + p) := by rw [hv7, xu_c _ _ _ _ (by omega), hg5_kp_3]
              obtain ⟨f8, hf8⟩ : ∃ f, f = fu (m2 21) x6 x4 := ⟨_, rfl⟩
              have hv7_21 : v7 21 = f8 := by rw [hv7, hf8, xu_k, hg5_21]
              have frv7 : ∀ k : Nat, (¬ k = 7 ∧ ¬ k = 21) → v7 k = vi k := fun k hk => by rw [hv7, xu_c _ _ _ _ (by omega)]; exact frvig5 k hk
              refine vx_iinc hC (lv1 := [(5, xa_i (ss + 1)), (4, xa_i x2), (3, xa_i qq), (0, xa_r 15), (1, xa_r 1), (2, xa_r kp)]) 0 rfl (by decide) rfl eX2_lookAtOdds_52 ?_
              refine vx_goto hC (tgt := 25) (by decide) eX2_lookAtOdds_55 ?_
              exact ihB (ss + 1) v7 (by omega) (fun q st q1 q2 t1 t2 t3 => by rw [hv7_21, hf8, fu_n _ _ _ (by omega)]; exact hao2 q st q1 q2 t1 t2 t3) (fun st t1 t2 => by rw [hv7_21, hf8]; by_cases e9 : st = ss; (rw [e9, show x6 = qq * 7 + ss by omega, fu_s]; simp only [hx2, hx4, hx6]); (rw [fu_n _ _ _ (by omega)]; exact hin st t1 (by omega))) frv7 (by omega)
        exact LP25 8 1 m1 (by omega) hao (fun st t1 t2 => by omega) fi (by omega)
  exact LP2 13 1 vi (by omega) (fun q st q1 q2 => by omega) (fun _ _ => rfl) (by omega)
set_option maxHeartbeats 4000000 in
set_option maxRecDepth 100000 in
theorem kX2_chooseStake (G : xg_T) (d : Nat) (n : Nat) (tau : Nat → Nat × Nat) (vi vl : Nat → Int → Int) (vr : Nat → Int → Option Nat) (hO : xo n tau vr) (od F : Int → Int) (q mo : Int) (hq : 1 ≤ q ∧ q ≤ 12) (hmo : 0 ≤ mo ∧ mo ≤ q ∧ q + mo ≤ 12 ∧ mo ≤ 6) (hod : ∀ st, 1 ≤ st → st ≤ mo → vi 21 (q * 7 + st) = od st) (hodr : ∀ st, 1 ≤ od st ∧ od st ≤ 9) (hF : ag 13 (vl 16) F) (hFr : ∀ z, 0 ≤ z → z ≤ 12 → 0 ≤ F z ∧ F z ≤ 1000000000000000) : xm G yX2_chooseStake cX2_chooseStake 9 none (d + 1) 0 0 [xa_r 15, xa_i q, xa_i mo] n tau vi vl vr (xp_v (fun n1 t1 a1 b1 c1 => (b1 17 = fu (vl 17) q (bs_run od F q mo.toNat 1 (-1) (vi 18 q)).1) ∧ (a1 18 = fu (vi 18) q (bs_run od F q mo.toNat 1 (-1) (vi 18 q)).2) ∧ xs_F (fun k => ¬ k = 17 ∧ ¬ k = 18) n tau vi vl vr n1 t1 a1 b1 c1)) := by
  refine xm.of (lv := [(0, xa_r 15), (1, xa_i q), (2, xa_i mo)]) (by decide) (Nat.le_of_ble_eq_true rfl) rfl (fun K hC hM hRm => ?_)
  refine vx_ldc2 hC (-1) wd_746 eX2_chooseStake_0 ?_
  refine vx_lstore_n hC (lv1 := [(3, xa_l (-1)), (0, xa_r 15), (1, xa_i q), (2, xa_i mo)]) (by decide) rfl eX2_chooseStake_3 ?_
  refine vx_iconst hC eX2_chooseStake_4 ?_
  refine vx_istore hC (lv1 := [(5, xa_i 1), (3, xa_l (-1)), (0, xa_r 15), (1, xa_i q), (2, xa_i mo)]) (by decide) rfl eX2_chooseStake_5 ?_
  have LP7 : ∀ (j : Nat) (cq : Nat) (ss : Int) (b : Int) (z : Int) (m1 : Nat → Int → Int) (hcq : ss + (cq : Int) = mo + 1 ∧ 1 ≤ ss) (hb : -1 ≤ b ∧ b ≤ 10000000000000000) (hrun : bs_run od F q cq ss b z = (bs_run od F q mo.toNat 1 (-1) (vi 18 q))) (e18 : m1 18 = fu (vi 18) q z) (fi : ∀ k : Nat, (¬ k = 17 ∧ ¬ k = 18) → m1 k = vi k) (hj : (cq : Int) < (j : Int)), xv G K 9 (xk_Q G K (xp_v (fun n1 t1 a1 b1 c1 => (b1 17 = fu (vl 17) q (bs_run od F q mo.toNat 1 (-1) (vi 18 q)).1) ∧ (a1 18 = fu (vi 18) q (bs_run od F q mo.toNat 1 (-1) (vi 18 q)).2) ∧ xs_F (fun k => ¬ k = 17 ∧ ¬ k = 18) n tau vi vl vr n1 t1 a1 b1 c1)) 0 0) 0 0 n tau m1 vl vr 7 [(5, xa_i ss), (3, xa_l b), (0, xa_r 15), (1, xa_i q), (2, xa_i mo)] [] := by
    intro j
    induction j with
    | zero => intro cq ss b z m1 hcq hb hrun e18 fi hj; exfalso; omega
    | succ j ih =>
      intro cq ss b z m1 hcq hb hrun e18 fi hj
      refine vx_iload hC 0 rfl eX2_chooseStake_7 ?_
      refine vx_iload_n hC 4 rfl eX2_chooseStake_9 ?_
      refine vx_icmp_gt hC (tgt := 83) (by omega) (by decide) eX2_chooseStake_10 (fun c1 => ?_) (fun c1 => ?_)
      · refine vx_aload_n hC 2 rfl eX2_chooseStake_83 ?_
        refine vx_gr hC 1 (ot_15 hO) lf_X2_15 rfl (or_15_1 hO) eX2_chooseStake_84 ?_
        refine vx_iload_n hC 3 rfl eX2_chooseStake_87 ?_
        refine vx_lload_n hC 1 rfl eX2_chooseStake_88 ?_
        refine vx_lastore hC (ot_17 hO) (by omega) (by omega) eX2_chooseStake_89 ?_
        refine vx_vl (fun v2 hv2 => ?_)
        obtain ⟨f3, hf3⟩ : ∃ f, f = fu (vl 17) q b := ⟨_, rfl⟩
        have hv2_17 : v2 17 = f3 := by rw [hv2, hf3, xu_k]
        have hv2_16 : ag 13 (v2 16) (F) := by rw [hv2, xu_c _ _ _ _ (by decide)]; exact hF
        have frv2 : ∀ k : Nat, (¬ k = 17 ∧ ¬ k = 18) → v2 k = vl k := fun k hk => by rw [hv2, xu_c _ _ _ _ (by omega)]
        exact vx_vret hC hM eX2_chooseStake_90 (⟨rfl, (by rw [hv2_17, hf3, ← hrun, show cq = 0 by omega, bs_run]), (by rw [e18, ← hrun, show cq = 0 by omega, bs_run]), rfl, rfl, rfl, fun k hk => ⟨fi k hk, frv2 k hk⟩⟩)
      · obtain ⟨cq1, rfl⟩ : ∃ cq1, cq = cq1 + 1 := ⟨cq - 1, by omega⟩
        have hos := hodr ss
        have hF1 := hFr (q + ss) (by omega) (by omega)
        have hF2 := hFr (q - ss) (by omega) (by omega)
        have hbv := bs_v_r (od := od) (f := F) (g := 12) (q := q) (st := ss) (b := 1000000000000000) hos (fun w w1 w2 => hFr w w1 w2) (by omega) (by omega) (by omega)
        refine vx_aload_n hC 2 rfl eX2_chooseStake_13 ?_
        refine vx_gr hC 7 (ot_15 hO) lf_X2_28 rfl (or_15_7 hO) eX2_chooseStake_14 ?_
        refine vx_iload_n hC 3 rfl eX2_chooseStake_17 ?_
        refine vx_bipush hC (by decide) eX2_chooseStake_18 ?_
        refine vx_imul hC eX2_chooseStake_20 ?_
        refine vx_iload hC 0 rfl eX2_chooseStake_21 ?_
        refine vx_iadd hC eX2_chooseStake_23 ?_
        refine vx_iaload hC (ot_21 hO) (by omega) (by omega) eX2_chooseStake_24 ?_
        refine vx_eqi (y := od ss) (by rw [fi 21 (by omega)]; exact hod ss (by omega) (by omega)) ?_
        refine vx_top (fun x4 hx4 => ?_)
        refine vx_istore hC (lv1 := [(6, xa_i x4), (5, xa_i ss), (3, xa_l b), (0, xa_r 15), (1, xa_i q), (2, xa_i mo)]) (by decide) rfl eX2_chooseStake_25 ?_
        refine vx_aload_n hC 3 rfl eX2_chooseStake_27 ?_
        refine vx_gr hC 0 (ot_15 hO) lf_X2_11 rfl (or_15_0 hO) eX2_chooseStake_28 ?_
        refine vx_iload_n hC 4 rfl eX2_chooseStake_31 ?_
        refine vx_iload hC 1 rfl eX2_chooseStake_32 ?_
        refine vx_iadd hC eX2_chooseStake_34 ?_
        refine vx_laload hC (ot_16 hO) (by omega) (by omega) eX2_chooseStake_35 ?_
        refine vx_eql (hF _ (by omega) (by omega)) ?_
        refine vx_iload hC 0 rfl eX2_chooseStake_36 ?_
        refine vx_i2l hC (by omega) eX2_chooseStake_38 ?_
        refine vx_lmul hC eX2_chooseStake_39 ?_
        refine vx_aload_n hC 3 rfl eX2_chooseStake_40 ?_
        refine vx_gr hC 0 (ot_15 hO) lf_X2_11 rfl (or_15_0 hO) eX2_chooseStake_41 ?_
        refine vx_iload_n hC 4 rfl eX2_chooseStake_44 ?_
        refine vx_iload hC 1 rfl eX2_chooseStake_45 ?_
        refine vx_isub hC eX2_chooseStake_47 ?_
        refine vx_laload hC (ot_16 hO) (by omega) (by omega) eX2_chooseStake_48 ?_
        refine vx_eql (hF _ (by omega) (by omega)) ?_
        refine vx_bipush hC (by decide) eX2_chooseStake_49 ?_
        refine vx_iload hC 0 rfl eX2_chooseStake_51 ?_
        refine vx_isub hC eX2_chooseStake_53 ?_
        refine vx_i2l hC (by omega) eX2_chooseStake_54 ?_
        refine vx_lmul hC eX2_chooseStake_55 ?_
        refine vx_ladd hC eX2_chooseStake_56 ?_
        refine vx_topl (fun x5 hx5 => ?_)
        refine vx_lstore hC (lv1 := [(7, xa_l x5), (6, xa_i x4), (5, xa_i ss), (3, xa_l b), (0, xa_r 15), (1, xa_i q), (2, xa_i mo)]) (by decide) rfl eX2_chooseStake_57 ?_
        have hrv : x5 = bs_v od F q ss := by rw [hx5]; unfold bs_v; simp only [hx4]; rw [Int.mul_comm (F (q + ss)), Int.mul_comm (F (q - ss))]
        rw [← hrv] at hbv
        refine vx_lload hC 0 rfl eX2_chooseStake_59 ?_
        refine vx_lload_n hC 3 rfl eX2_chooseStake_61 ?_
        refine vx_lcmp hC (by omega) eX2_chooseStake_62 ?_
        refine vx_if_le hC (tgt := 77) (by omega) (by decide) eX2_chooseStake_63 (fun c6 => ?_) (fun c6 => ?_)
        · refine vx_iinc hC (lv1 := [(5, xa_i (ss + 1)), (7, xa_l x5), (6, xa_i x4), (3, xa_l b), (0, xa_r 15), (1, xa_i q), (2, xa_i mo)]) 2 rfl (by decide) rfl eX2_chooseStake_77 ?_
          refine vx_goto hC (tgt := 7) (by decide) eX2_chooseStake_80 ?_
          refine vx_lv (lv1 := [(5, xa_i (ss + 1)), (3, xa_l b), (0, xa_r 15), (1, xa_i q), (2, xa_i mo)]) [0, 3, 4, 5, 6] rfl ?_
          exact ih cq1 (ss + 1) b z m1 (by omega) (by omega) (by rw [← hrun, bs_run, if_neg (by rw [← hrv]; omega)]) e18 fi (by omega)
        · refine vx_lload hC 0 rfl eX2_chooseStake_66 ?_
          refine vx_lstore_n hC (lv1 := [(3, xa_l x5), (7, xa_l x5), (6, xa_i x4), (5, xa_i ss), (0, xa_r 15), (1, xa_i q), (2, xa_i mo)]) (by decide) rfl eX2_chooseStake_68 ?_
          refine vx_aload_n hC 4 rfl eX2_chooseStake_69 ?_
          refine vx_gr hC 4 (ot_15 hO) lf_X2_18 rfl (or_15_4 hO) eX2_chooseStake_70 ?_
          refine vx_iload_n hC 5 rfl eX2_chooseStake_73 ?_
          refine vx_iload hC 3 rfl eX2_chooseStake_74 ?_
          refine vx_iastore hC (ot_18 hO) (by omega) (by omega) eX2_chooseStake_76 ?_
          refine vx_vi (fun v7 hv7 => ?_)
          obtain ⟨f8, hf8⟩ : ∃ f, f = fu (fu (vi 18) q z) q ss := ⟨_, rfl⟩
          have hv7_18 : v7 18 = f8 := by rw [hv7, hf8, xu_k, e18]
          have frv7 : ∀ k : Nat, (¬ k = 17 ∧ ¬ k = 18) → v7 k = vi k := fun k hk => by rw [hv7, xu_c _ _ _ _ (by omega)]; exact fi k hk
          refine vx_iinc hC (lv1 := [(5, xa_i (ss + 1)), (3, xa_l x5), (7, xa_l x5), (6, xa_i x4), (0, xa_r 15), (1, xa_i q), (2, xa_i mo)]) 3 rfl (by decide) rfl eX2_chooseStake_77 ?_
          refine vx_goto hC (tgt := 7) (by decide) eX2_chooseStake_80 ?_
          refine vx_lv (lv1 := [(5, xa_i (ss + 1)), (3, xa_l x5), (0, xa_r 15), (1, xa_i q), (2, xa_i mo)]) [0, 1, 4, 5, 6] rfl ?_
          exact ih cq1 (ss + 1) x5 ss v7 (by omega) (by omega) (by rw [← hrun, bs_run, if_pos (by rw [← hrv]; omega), ← hrv]) (by rw [hv7_18, hf8, fu_fu]) frv7 (by omega)
  exact LP7 8 mo.toNat 1 (-1) (vi 18 q) vi (by omega) (by omega) rfl (fu_self _ rfl).symm (fun _ _ => rfl) (by omega)
