theorem xo_up {n n1 : Nat} {tau t1 : Nat → Nat × Nat} {vr c : Nat → Int → Option Nat} (h : xo n tau vr) (hn : n ≤ n1 ∧ n1 ≤ 100000) (ht : ∀ k, k < 45 → t1 k = tau k ∧ c k = vr k) : xo n1 t1 c := by
  have h45 := h.1
  refine ⟨by omega, fun k hk => by rw [(ht k hk).1]; exact h.2.1 k hk, fun q hq => ?_⟩
  have : ∀ q ∈ xo_rl, q.1 < 45 := by decide
  have := this q hq
  rw [(ht _ this).2]; exact h.2.2 q hq
theorem ms_14 (u : Int → Int) (x y t : Int) (ht : 0 ≤ t) : ms_steps (fu (fu u 1 x) 4 y) t = ms_steps u t := by
  unfold ms_steps
  rw [fu_n _ _ _ (by omega), fu_n _ _ _ (by omega)]
  exact msl_congr _ _ (fun z z1 z2 => by rw [fu_n _ _ _ (by omega), fu_n _ _ _ (by omega)])
theorem spt_F {s : Int → Int} (h : ¬ s 1 = 5) (h2 : ¬ ((tbR s).1 = 0 ∧ (tbR s).2.1 = s 3)) : sp_table s = (-10 - (tbR s).2.1, tbU s) := by unfold sp_table; rw [if_neg h, if_neg h2]
theorem spt_G {s : Int → Int} (h : ¬ s 1 = 5) (h2 : (tbR s).1 = 0 ∧ (tbR s).2.1 = s 3) : sp_table s = (s 1, fu (fu (tbU s) 1 (s 1 + 1)) 4 (s 1)) := by unfold sp_table; rw [if_neg h, if_pos h2]
theorem spt_5 {s : Int → Int} (h : s 1 = 5) : sp_table s = (-4, s) := by unfold sp_table; rw [if_pos h]
set_option maxHeartbeats 4000000 in
set_option maxRecDepth 100000 in
theorem kX11_table (G : xg_T) (d : Nat) (n : Nat) (tau : Nat → Nat × Nat) (vi vl : Nat → Int → Int) (vr : Nat → Int → Option Nat) (hO : xo n tau vr) (s im : Int → Int) (has ran : Int) (bod : Int → Int) (hR : RCl s im has ran bod n tau vi vr) (hV : ms_V s) (hn9 : n + 4 ≤ 100000) : xm G yX11_table cX11_table 2 (some .int) (d + 22) 4 304 [xa_r 0] n tau vi vl vr (xp_i (fun z9 n1 t1 a1 b1 c1 => z9 = (sp_table s).1 ∧ cq ((sp_table s).2) (im) (has) (ran) (bod) n tau vi vl n1 t1 a1 b1 c1)) := by
  refine xm.of (lv := [(0, xa_r 0)]) (by decide) (Nat.le_of_ble_eq_true rfl) rfl (fun K hC hM hRm => ?_)
  have hS : rp_S 1 s n tau vi vr := hR.1
  obtain ⟨q1, q3, q7, q8, q9, q10, qt, qp, qr, qpl, qtb⟩ := id hS
  have hW : ms_W s := hV.1
  have h60 := hV.2
  obtain ⟨hr, h0, h1, h2, h3, h4, h5, h6, hp0, hrow, hwon, htape, htab⟩ := id hW
  obtain ⟨-, R2, R3, R4, R5, R6, R7, R8, R9, R10⟩ := id hR
  have h45 := hO.1
  refine vx_aload_n hC 0 rfl eX11_table_0 ?_
  refine vx_gr hC 0 (ot_0 hO) lf_X11_12 rfl (or_0_0 hO) eX11_table_1 ?_
  refine vx_gi hC 3 (ot_1 hO) lf_X11_47 rfl eX11_table_4 ?_
  refine vx_eqi q3 ?_
  refine vx_iconst hC eX11_table_7 ?_
  refine vx_icmp_lt hC (tgt := 14) (by omega) (by decide) eX11_table_8 (fun c1 => ?_) (fun c1 => ?_)
  · refine vx_aload_n hC 0 rfl eX11_table_14 ?_
    refine vx_gr hC 4 (ot_0 hO) lf_X11_31 rfl (or_0_4 hO) eX11_table_15 ?_
    refine vx_aload_n hC 0 rfl eX11_table_18 ?_
    refine vx_gr hC 0 (ot_0 hO) lf_X11_12 rfl (or_0_0 hO) eX11_table_19 ?_
    refine vx_gr hC 0 (ot_1 hO) lf_X11_43 rfl (or_1_0 hO) eX11_table_22 ?_
    refine vx_aload_n hC 0 rfl eX11_table_25 ?_
    refine vx_gr hC 0 (ot_0 hO) lf_X11_12 rfl (or_0_0 hO) eX11_table_26 ?_
    refine vx_gi hC 1 (ot_1 hO) lf_X11_39 rfl eX11_table_29 ?_
    refine vx_eqi q1 ?_
    refine vx_callV_i hC (kX5_read G d _ _ _ _ _ hO (ph s (s 3)) (fu s 3 0) (s 3) (pH_ph hW) (fun z z1 z2 => by rw [ph_at ⟨z1, z2⟩]; exact ⟨qt z z1 z2, (htape (66 + z) (by omega) (by omega)).1⟩) (tbR s) rfl) ly_X11_50 (ot_26 hO) rfl rfl rfl hRm (by omega) (Nat.le_of_ble_eq_true rfl) rfl eX11_table_32 (fun xr nr tr ar br cr hrd => ?_)
    obtain ⟨hxr, h26, rfl, rfl, rfl, hc1, hc2, hfr⟩ := hrd
    have hOr : xo n tau cr := xo_26 hO hc1 hc2
    have hr_1_1 : ar 1 1 = s 3 := by rw [hfr 1 (by omega)]; exact q1
    have hr_1_3 : ar 1 3 = s 1 := by rw [hfr 1 (by omega)]; exact q3
    have hr_1_7 : ar 1 7 = s 0 := by rw [hfr 1 (by omega)]; exact q7
    have hr_1_8 : ar 1 8 = s 5 := by rw [hfr 1 (by omega)]; exact q8
    have hr_1_9 : ar 1 9 = s 2 := by rw [hfr 1 (by omega)]; exact q9
    have hr_1_10 : ar 1 10 = wb s (s 2).toNat := by rw [hfr 1 (by omega)]; exact q10
    refine vx_istore_n hC (lv1 := [(1, xa_i xr), (0, xa_r 0)]) (by decide) rfl eX11_table_35 ?_
    refine vx_aload_n hC 1 rfl eX11_table_36 ?_
    refine vx_gr hC 0 (ot_0 hOr) lf_X11_12 rfl (or_0_0 hOr) eX11_table_37 ?_
    refine vx_iconst hC eX11_table_40 ?_
    refine vx_pi hC 1 (ot_1 hOr) lp_X11_39 rfl (Or.inl rfl) (Or.inl rfl) eX11_table_41 ?_
    refine vx_vi (fun v2 hv2 => ?_)
    have hv2_1_1 : v2 1 1 = 0 := by rw [hv2, xu_k, fu_s]
    have hv2_1_3 : v2 1 3 = s 1 := by rw [hv2, xu_k, fu_n _ _ _ (by decide), hr_1_3]
    have hv2_1_7 : v2 1 7 = s 0 := by rw [hv2, xu_k, fu_n _ _ _ (by decide), hr_1_7]
    have hv2_1_8 : v2 1 8 = s 5 := by rw [hv2, xu_k, fu_n _ _ _ (by decide), hr_1_8]
    have hv2_1_9 : v2 1 9 = s 2 := by rw [hv2, xu_k, fu_n _ _ _ (by decide), hr_1_9]
    have hv2_1_10 : v2 1 10 = wb s (s 2).toNat := by rw [hv2, xu_k, fu_n _ _ _ (by decide), hr_1_10]
    have hv2_26_2 : v2 26 2 = (tbR s).2.1 := by rw [hv2, xu_c _ _ _ _ (by decide), h26]
    refine vx_iload_n hC 0 rfl eX11_table_44 ?_
    refine vx_if_ne hC (tgt := 59) (by omega) (by decide) eX11_table_45 (fun c3 => ?_) (fun c3 => ?_)
    · refine vx_aload_n hC 1 rfl eX11_table_59 ?_
      refine vx_gr hC 0 (ot_0 hOr) lf_X11_12 rfl (or_0_0 hOr) eX11_table_60 ?_
      refine vx_gr hC 2 (ot_1 hOr) lf_X11_57 rfl (or_1_2 hOr) eX11_table_63 ?_
      refine vx_aload_n hC 1 rfl eX11_table_66 ?_
      refine vx_gr hC 0 (ot_0 hOr) lf_X11_12 rfl (or_0_0 hOr) eX11_table_67 ?_
      refine vx_gi hC 3 (ot_1 hOr) lf_X11_47 rfl eX11_table_70 ?_
      refine vx_eqi hv2_1_3 ?_
      refine vx_aload_n hC 1 rfl eX11_table_73 ?_
      refine vx_gr hC 4 (ot_0 hOr) lf_X11_31 rfl (or_0_4 hOr) eX11_table_74 ?_
      have hgood := hxr.resolve_right (fun g9 => absurd g9.1 (by omega))
      obtain ⟨-, gq1, gq2, gtr, g5, g7, g8, gfl, gl9, gc93⟩ := hgood
      have x26 : ∀ k : Nat, ¬ k = 1 → v2 k = ar k := fun k hk => by rw [hv2, xu_c _ _ _ _ hk]
      refine vx_callV_q hC (kX5_made G (d + 17) _ _ _ _ _ hOr (tbR s).2.2.2.2 (tbR s).2.2.1 (by rw [x26 26 (by decide)]; exact g5) (by rw [x26 26 (by decide)]; exact g7) (by rw [x26 26 (by decide)]; exact g8) (by rw [x26 27 (by decide), x26 28 (by decide), x26 29 (by decide)]; exact gtr) gl9 gc93 hn9) ly_X11_61 (ot_26 hOr) rfl rfl rfl hRm (by omega) (Nat.le_of_ble_eq_true rfl) rfl eX11_table_77 (fun xm nm tm am bm cm hmd => ?_)
      obtain ⟨rfl, hnm, htm, hold, hrp⟩ := hmd
      have hOm : xo nm tm cm := xo_up hOr (by omega) (fun k hk => ⟨(hold k (by omega)).1, (hold k (by omega)).2.2.2⟩)
      have hm_1_1 : am 1 1 = 0 := by rw [(hold 1 (by omega)).2.1]; exact hv2_1_1
      have hm_1_3 : am 1 3 = s 1 := by rw [(hold 1 (by omega)).2.1]; exact hv2_1_3
      have hm_1_7 : am 1 7 = s 0 := by rw [(hold 1 (by omega)).2.1]; exact hv2_1_7
      have hm_1_8 : am 1 8 = s 5 := by rw [(hold 1 (by omega)).2.1]; exact hv2_1_8
      have hm_1_9 : am 1 9 = s 2 := by rw [(hold 1 (by omega)).2.1]; exact hv2_1_9
      have hm_1_10 : am 1 10 = wb s (s 2).toNat := by rw [(hold 1 (by omega)).2.1]; exact hv2_1_10
      have hm_26_2 : am 26 2 = (tbR s).2.1 := by rw [(hold 26 (by omega)).2.1]; exact hv2_26_2
      refine vx_aastore18 hC (ot_3 hOm) (by omega) (by omega) (fun q hq => by cases hq; exact ⟨by omega, 8, 0, _, _, _, htm, rfl, Or.inl rfl⟩) eX11_table_80 ?_
      refine vx_vr (fun v4 hv4 => ?_)
      have y3 : ∀ k : Nat, ¬ k = 3 → v4 k = cm k := fun k hk => by rw [hv4, xu_c _ _ _ _ hk]
      have hOf : xo nm tm v4 := ⟨hOm.1, hOm.2.1, fun q hq => by have g9 : ∀ q ∈ xo_rl, ¬ q.1 = 3 := (by decide); rw [y3 _ (g9 q hq)]; exact hOm.2.2 q hq⟩
      refine vx_aload_n hC 1 rfl eX11_table_81 ?_
      refine vx_gr hC 0 (ot_0 hOf) lf_X11_12 rfl (or_0_0 hOf) eX11_table_82 ?_
      refine vx_dup hC rfl eX11_table_85 ?_
      refine vx_gi hC 3 (ot_1 hOf) lf_X11_47 rfl eX11_table_86 ?_
      refine vx_eqi hm_1_3 ?_
      refine vx_iconst hC eX11_table_89 ?_
      refine vx_iadd hC eX11_table_90 ?_
      refine vx_top (fun x5 hx5 => ?_)
      refine vx_pi hC 3 (ot_1 hOf) lp_X11_47 rfl (Or.inl rfl) (Or.inl rfl) eX11_table_91 ?_
      refine vx_vi (fun v6 hv6 => ?_)
      have hv6_1_1 : v6 1 1 = 0 := by rw [hv6, xu_k, fu_n _ _ _ (by decide), hm_1_1]
      have hv6_1_3 : v6 1 3 = x5 := by rw [hv6, xu_k, fu_s]
      have hv6_1_7 : v6 1 7 = s 0 := by rw [hv6, xu_k, fu_n _ _ _ (by decide), hm_1_7]
      have hv6_1_8 : v6 1 8 = s 5 := by rw [hv6, xu_k, fu_n _ _ _ (by decide), hm_1_8]
      have hv6_1_9 : v6 1 9 = s 2 := by rw [hv6, xu_k, fu_n _ _ _ (by decide), hm_1_9]
      have hv6_1_10 : v6 1 10 = wb s (s 2).toNat := by rw [hv6, xu_k, fu_n _ _ _ (by decide), hm_1_10]
      have hv6_26_2 : v6 26 2 = (tbR s).2.1 := by rw [hv6, xu_c _ _ _ _ (by decide), hm_26_2]
      refine vx_aload_n hC 1 rfl eX11_table_94 ?_
      refine vx_gr hC 0 (ot_0 hOf) lf_X11_12 rfl (or_0_0 hOf) eX11_table_95 ?_
      refine vx_gi hC 3 (ot_1 hOf) lf_X11_47 rfl eX11_table_98 ?_
      refine vx_eqi hv6_1_3 ?_
      refine vx_iconst hC eX11_table_101 ?_
      refine vx_isub hC eX11_table_102 ?_
      have hE := spt_G (s := s) (by omega) ⟨gq1, gq2⟩
      have x1 : ∀ k : Nat, ¬ k = 1 → v6 k = am k := fun k hk => by rw [hv6, xu_c _ _ _ _ hk]
      have fa : ∀ k, k < n → ¬ k = 1 → ¬ (26 ≤ k ∧ k ≤ 29) → v6 k = vi k := fun k k0 k1 k2 => by rw [x1 k k1, (hold k k0).2.1, x26 k k1, hfr k (by omega)]
      have fc : ∀ k, k < n → ¬ k = 26 → ¬ k = 3 → v4 k = vr k := fun k k0 k1 k2 => by rw [y3 k k2, (hold k k0).2.2.2, hc1 k k1]
      have f3 : ∀ z, ¬ z = s 1 → v4 3 z = vr 3 z := fun z hz => by rw [hv4, xu_n _ _ _ _ (by omega), (hold 3 (by omega)).2.2.2, hc1 3 (by decide)]
      have f3s : v4 3 (s 1) = some n := by rw [hv4, xu_s]
      obtain ⟨s2, hs2⟩ : ∃ f : Int → Int, f = fu (fu (tbU s) 1 (s 1 + 1)) 4 (s 1) := ⟨_, rfl⟩
      rw [← hs2] at hE
      have l2 : ∀ z, ¬ z = 1 → ¬ z = 4 → s2 z = tbU s z := fun z z1 z2 => by rw [hs2, fu_n _ _ _ z2, fu_n _ _ _ z1]
      have l21 : s2 1 = s 1 + 1 := by rw [hs2, fu_n _ _ _ (by decide), fu_s]
      have hT : ∀ t, 0 ≤ t → t < s2 1 → ∃ k, v4 3 t = some k ∧ rp_T s2 t k nm tm v6 v4 := fun t t1 t2 => by
        rw [l21] at t2
        by_cases e9 : t = s 1
        · rw [e9]; exact ⟨n, f3s, (hrp s2 (s 1) (by rw [hs2, ms_14 _ _ _ _ (by omega), tbU_new (by omega)]; exact gfl) (by rw [l2 _ (by omega) (by omega)]; exact tbU_lim (by omega))).fr (fun k q => x1 k (by omega)) (Nat.le_refl _) (fun _ _ => rfl) (fun k q => y3 k (by omega))⟩
        · have t3 : t < s 1 := by omega
          obtain ⟨k, k1, k2⟩ := qtb t t1 t3
          exact ⟨k, by rw [f3 t e9]; exact k1, (k2.fr (fun k q => fa k (by omega) (by omega) (by omega)) (by omega) (fun k q => (hold k q).1) (fun k q => fc k (by omega) (by omega) (by omega))).ms (by rw [l2 _ (by omega) (by omega)]; exact tbU_oldl (by omega) ⟨t1, t3⟩) (by rw [hs2, ms_14 _ _ _ _ t1]; exact tbU_olds (by omega) ⟨t1, t3⟩ (by have := htab t t1 t3; omega))⟩
      have hS2 : rp_S 1 s2 nm tm v6 v4 := cs_tab (vl := vi) (b := vi) hS hV (fun z z1 z2 z3 z4 => by rw [l2 z z3 z4]; exact tbU_lo (by omega) z1 z2) (by rw [l2 _ (by omega) (by omega)]; exact tbU_3 (by omega)) (by rw [hv6_1_1] <;> omega) (by rw [hv6_1_3, l21] <;> omega) hv6_1_7 hv6_1_8 hv6_1_9 hv6_1_10 (fa 5 (by omega) (by omega) (by omega)) (fa 6 (by omega) (by omega) (by omega)) (fun k q => fa k (by omega) (by omega) (by omega)) (by omega) (fun k q => (hold k q).1) (fc 4 (by omega) (by decide) (by decide)) hT
      refine vx_up (c1 := 0 + 0 + 4) (s1 := 0 + 0 + 304) (by omega) (by omega) ?_
      exact vx_iret hC hM rfl eX11_table_103 (⟨_, rfl, (by rw [hE]; show _ = s 1; omega), (by rw [hE]; exact cq_tab hO hOf hR hS2 (by omega) (fun k q => (hold k q).1) fa (fun k q => (hold k (by omega)).2.2.1) fc (fun z k hz => by by_cases e9 : z = s 1; (rw [e9, f3s] at hz; cases hz; exact Or.inr ⟨by omega, htm⟩); (rw [f3 z e9] at hz; exact Or.inl hz)))⟩)
    · refine vx_bipush hC (by decide) eX11_table_48 ?_
      refine vx_aload_n hC 1 rfl eX11_table_50 ?_
      refine vx_gr hC 4 (ot_0 hOr) lf_X11_31 rfl (or_0_4 hOr) eX11_table_51 ?_
      refine vx_gi hC 2 (ot_26 hOr) lf_X11_54 rfl eX11_table_54 ?_
      refine vx_eqi hv2_26_2 ?_
      refine vx_isub hC eX11_table_57 ?_
      have hbad := hxr.resolve_left (fun g9 => absurd g9.1 (by omega))
      have hE := spt_F (s := s) (by omega) hbad.2
      have x1 : ∀ k : Nat, ¬ k = 1 → v2 k = ar k := fun k hk => by rw [hv2, xu_c _ _ _ _ hk]
      have fa : ∀ k, ¬ k = 1 → ¬ (26 ≤ k ∧ k ≤ 29) → v2 k = vi k := fun k k1 k2 => by rw [x1 k k1, hfr k (by omega)]
      have hT : ∀ t, 0 ≤ t → t < tbU s 1 → ∃ k, cr 3 t = some k ∧ rp_T (tbU s) t k n tau v2 cr := fun t t1 t2 => by
        rw [tbU_lo (by omega) (by omega) (by omega)] at t2
        obtain ⟨k, k1, k2⟩ := qtb t t1 t2
        exact ⟨k, by rw [hc1 3 (by decide)]; exact k1, (k2.fr (fun k q => fa k (by omega) (by omega)) (Nat.le_refl _) (fun _ _ => rfl) (fun k q => hc1 k (by omega))).ms (tbU_oldl (by omega) ⟨t1, t2⟩) (tbU_olds (by omega) ⟨t1, t2⟩ (by have := htab t t1 t2; omega))⟩
      have hS2 : rp_S 1 (tbU s) n tau v2 cr := cs_tab (vl := vi) (b := vi) hS hV (fun z z1 z2 _ _ => tbU_lo (by omega) z1 z2) (tbU_3 (by omega)) (by rw [hv2_1_1] <;> omega) (by rw [hv2_1_3, tbU_lo (by omega) (by omega) (by omega)]) hv2_1_7 hv2_1_8 hv2_1_9 hv2_1_10 (fa 5 (by omega) (by omega)) (fa 6 (by omega) (by omega)) (fun k q => fa k (by omega) (by omega)) (Nat.le_refl _) (fun _ _ => rfl) (hc1 4 (by decide)) hT
      refine vx_up (c1 := 0 + 0) (s1 := 0 + 0) (by omega) (by omega) ?_
      exact vx_iret hC hM rfl eX11_table_58 (⟨_, rfl, (by first | (rw [hE]; done) | (rw [hE]; simp only [id]; done) | (rw [hE]; omega)), (by rw [hE]; exact cq_tab hO hOr hR hS2 ⟨Nat.le_refl _, by omega⟩ (fun _ _ => rfl) (fun k _ k1 k2 => fa k k1 k2) (fun _ _ => rfl) (fun k _ k1 _ => hc1 k k1) (fun z k hz => Or.inl (by rw [← hc1 3 (by decide)]; exact hz)))⟩)
  · refine vx_bipush hC (by decide) eX11_table_11 ?_
    have hE := spt_5 (s := s) (by omega)
    refine vx_up (c1 := 0) (s1 := 0) (by omega) (by omega) ?_
    exact vx_iret hC hM rfl eX11_table_13 (⟨_, rfl, (by rw [hE]), (by rw [hE]; exact cq_ro hO hR (fun k hk => rfl) (fun k hk => rfl))⟩)
