theorem tr_ext {W E C W' E' C' : Int → Int} : ∀ (cl : List (List Int × Int)) (i f : Int), tr_ok W E C cl i f → (∀ z, i ≤ z → z < i + (cl.length : Int) → W' z = W z ∧ E' z = E z) → (∀ z, f ≤ z → z < f + (cln cl : Int) → C' z = C z) → tr_ok W' E' C' cl i f
  | [], _, _, _, _, _ => trivial
  | r :: cl, i, f, h, h1, h2 => by
    obtain ⟨t1, t2, t3, t4, t5, t6⟩ := h
    have el : ((r :: cl).length : Int) = (cl.length : Int) + 1 := by simp
    have ec : (cln (r :: cl) : Int) = (r.1.length : Int) + (cln cl : Int) := by show ((r.1.length + cln cl : Nat) : Int) = _; omega
    rw [el] at h1; rw [ec] at h2
    have g := h1 i (by omega) (by omega)
    exact ⟨by rw [g.2]; exact t1, by rw [g.1]; exact t2, t3, t4, fun j hj => by rw [h2 _ (by omega) (by omega)]; exact t5 j hj, tr_ext cl (i + 1) _ t6 (fun z z1 z2 => h1 z (by omega) (by omega)) (fun z z1 z2 => h2 z (by omega) (by omega))⟩
set_option maxHeartbeats 4000000 in
set_option maxRecDepth 100000 in
theorem kX8_init (G : xg_T) (d : Nat) (n : Nat) (tau : Nat → Nat × Nat) (vi vl : Nat → Int → Int) (vr : Nat → Int → Option Nat) (k kw ke kc : Nat) (ht : k < n ∧ tau k = (8, 0)) (lim : Int) : xm G yX8_init cX8_init 5 none (d + 2) 0 0 [xa_r k, xa_r kw, xa_r ke, xa_r kc, xa_i lim] n tau vi vl vr (xp_v (fun n1 t1 a1 b1 c1 => n = n1 ∧ tau = t1 ∧ a1 = xu vi k 3 lim ∧ vl = b1 ∧ c1 = xu (xu (xu vr k 0 (some kw)) k 1 (some ke)) k 2 (some kc))) := by
  refine xm.of (lv := [(0, xa_r k), (1, xa_r kw), (2, xa_r ke), (3, xa_r kc), (4, xa_i lim)]) (by decide) (Nat.le_of_ble_eq_true rfl) rfl (fun K hC hM hRm => ?_)
  refine vx_aload_n hC 0 rfl eX8_init_0 ?_
  refine vx_objInit hC hRm (by omega) ly_X8_1 (Nat.le_of_ble_eq_true rfl) eX8_init_1 ?_
  refine vx_aload_n hC 0 rfl eX8_init_4 ?_
  refine vx_aload_n hC 1 rfl eX8_init_5 ?_
  refine vx_pr hC 0 ht lp_X8_7 rfl (Or.inr hM.2.2) eX8_init_6 ?_
  refine vx_vr (fun v1 hv1 => ?_)
  refine vx_aload_n hC 0 rfl eX8_init_9 ?_
  refine vx_aload_n hC 2 rfl eX8_init_10 ?_
  refine vx_pr hC 1 ht lp_X8_13 rfl (Or.inr hM.2.2) eX8_init_11 ?_
  refine vx_vr (fun v2 hv2 => ?_)
  refine vx_aload_n hC 0 rfl eX8_init_14 ?_
  refine vx_aload_n hC 3 rfl eX8_init_15 ?_
  refine vx_pr hC 2 ht lp_X8_16 rfl (Or.inr hM.2.2) eX8_init_16 ?_
  refine vx_vr (fun v3 hv3 => ?_)
  refine vx_aload_n hC 0 rfl eX8_init_19 ?_
  refine vx_iload hC 4 rfl eX8_init_20 ?_
  refine vx_pi hC 3 ht lp_X8_19 rfl (Or.inr hM.2.2) (Or.inl rfl) eX8_init_22 ?_
  refine vx_vi (fun v4 hv4 => ?_)
  exact vx_vret hC hM eX8_init_25 (⟨rfl, rfl, rfl, hv4, rfl, (by rw [hv3, hv2, hv1])⟩)
set_option maxHeartbeats 4000000 in
set_option maxRecDepth 100000 in
theorem kX5_made (G : xg_T) (d : Nat) (n : Nat) (tau : Nat → Nat × Nat) (vi vl : Nat → Int → Int) (vr : Nat → Int → Option Nat) (hO : xo n tau vr) (cl : List (List Int × Int)) (lim : Int) (h5 : vi 26 5 = (cl.length : Int)) (h7 : vi 26 7 = (cln cl : Int)) (h8 : vi 26 8 = lim) (htr : tr_ok (vi 27) (vi 28) (vi 29) cl 0 0) (hl : cl.length ≤ 9) (hc9 : cln cl ≤ 93) (hn9 : n + 4 ≤ 100000) : xm G yX5_made cX5_made 1 (some (.object "LastPenny$Table")) (d + 4) 4 304 [xa_r 26] n tau vi vl vr (xp_q (fun r9 n1 t1 a1 b1 c1 => r9 = some n ∧ n1 = n + 4 ∧ t1 n = (8, 0) ∧ (∀ k, k < n → t1 k = tau k ∧ a1 k = vi k ∧ b1 k = vl k ∧ c1 k = vr k) ∧ (∀ (s : Int → Int) (t : Int), ms_steps s t = fl cl → s (166 + t) = lim → rp_T s t n n1 t1 a1 c1))) := by
  refine xm.of (lv := [(0, xa_r 26)]) (by decide) (Nat.le_of_ble_eq_true rfl) rfl (fun K hC hM hRm => ?_)
  have h45 := hO.1
  refine vx_new hC (ci := 8) rfl ln_X5_55 (by omega) hRm (by omega) eX5_made_0 ?_
  refine vx_hp (fun ng1 tg1 ag1 bg1 cg1 hng1 htg1 hag1 hbg1 hcg1 => ?_)
  have hOg1 : xo ng1 tg1 cg1 := by rw [hng1, htg1, hcg1]; exact xo_new hO (by omega)
  have ug1 : n < ng1 ∧ tg1 n = (8, 0) := ⟨by omega, by rw [htg1, xz_s]⟩
  have hg1_26_5 : ag1 26 5 = (cl.length : Int) := by rw [hag1, xz_n _ _ (by omega)]; exact h5
  have hg1_26_7 : ag1 26 7 = (cln cl : Int) := by rw [hag1, xz_n _ _ (by omega)]; exact h7
  have hg1_26_8 : ag1 26 8 = lim := by rw [hag1, xz_n _ _ (by omega)]; exact h8
  refine vx_dup hC rfl eX5_made_3 ?_
  refine vx_aload_n hC 0 rfl eX5_made_4 ?_
  refine vx_gr hC 3 (ot_26 hOg1) lf_X5_9 rfl (or_26_3 hOg1) eX5_made_5 ?_
  refine vx_aload_n hC 0 rfl eX5_made_8 ?_
  refine vx_gi hC 5 (ot_26 hOg1) lf_X5_38 rfl eX5_made_9 ?_
  refine vx_eqi hg1_26_5 ?_
  refine vx_callS_q hC (kJ7_copyOf_59c91 G (d + 1) _ _ _ _ _ 27 10 (cl.length) (ot_27 hOg1) (by omega) (by decide) (by omega)) ly_X5_57 rfl hRm (by omega) (Nat.le_of_ble_eq_true rfl) rfl eX5_made_12 (fun xg2 ng2 tg2 ag2 bg2 cg2 hg2 => ?_)
  obtain ⟨rfl, hng2, htg2, hzg2, hfg2, hbg2, hcg2⟩ := hg2
  have hOg2 : xo ng2 tg2 cg2 := by rw [hng2, htg2, hcg2]; exact xo_new hOg1 (by omega)
  have ug2 : ng1 < ng2 ∧ tg2 ng1 = (14, cl.length) := ⟨by omega, by rw [htg2, xz_s]⟩
  have hg2_26_5 : ag2 26 5 = (cl.length : Int) := by rw [hfg2 26 (by omega)]; exact hg1_26_5
  have hg2_26_7 : ag2 26 7 = (cln cl : Int) := by rw [hfg2 26 (by omega)]; exact hg1_26_7
  have hg2_26_8 : ag2 26 8 = lim := by rw [hfg2 26 (by omega)]; exact hg1_26_8
  refine vx_aload_n hC 0 rfl eX5_made_15 ?_
  refine vx_gr hC 4 (ot_26 hOg2) lf_X5_15 rfl (or_26_4 hOg2) eX5_made_16 ?_
  refine vx_aload_n hC 0 rfl eX5_made_19 ?_
  refine vx_gi hC 5 (ot_26 hOg2) lf_X5_38 rfl eX5_made_20 ?_
  refine vx_eqi hg2_26_5 ?_
  refine vx_callS_q hC (kJ7_copyOf_59c91 G (d + 1) _ _ _ _ _ 28 10 (cl.length) (ot_28 hOg2) (by omega) (by decide) (by omega)) ly_X5_57 rfl hRm (by omega) (Nat.le_of_ble_eq_true rfl) rfl eX5_made_23 (fun xg3 ng3 tg3 ag3 bg3 cg3 hg3 => ?_)
  obtain ⟨rfl, hng3, htg3, hzg3, hfg3, hbg3, hcg3⟩ := hg3
  have hOg3 : xo ng3 tg3 cg3 := by rw [hng3, htg3, hcg3]; exact xo_new hOg2 (by omega)
  have ug3 : ng2 < ng3 ∧ tg3 ng2 = (14, cl.length) := ⟨by omega, by rw [htg3, xz_s]⟩
  have hg3_26_5 : ag3 26 5 = (cl.length : Int) := by rw [hfg3 26 (by omega)]; exact hg2_26_5
  have hg3_26_7 : ag3 26 7 = (cln cl : Int) := by rw [hfg3 26 (by omega)]; exact hg2_26_7
  have hg3_26_8 : ag3 26 8 = lim := by rw [hfg3 26 (by omega)]; exact hg2_26_8
  refine vx_aload_n hC 0 rfl eX5_made_26 ?_
  refine vx_gr hC 6 (ot_26 hOg3) lf_X5_18 rfl (or_26_6 hOg3) eX5_made_27 ?_
  refine vx_aload_n hC 0 rfl eX5_made_30 ?_
  refine vx_gi hC 7 (ot_26 hOg3) lf_X5_41 rfl eX5_made_31 ?_
  refine vx_eqi hg3_26_7 ?_
  refine vx_callS_q hC (kJ7_copyOf_59c91 G (d + 1) _ _ _ _ _ 29 100 (cln cl) (ot_29 hOg3) (by omega) (by decide) (by omega)) ly_X5_57 rfl hRm (by omega) (Nat.le_of_ble_eq_true rfl) rfl eX5_made_34 (fun xg4 ng4 tg4 ag4 bg4 cg4 hg4 => ?_)
  obtain ⟨rfl, hng4, htg4, hzg4, hfg4, hbg4, hcg4⟩ := hg4
  have hOg4 : xo ng4 tg4 cg4 := by rw [hng4, htg4, hcg4]; exact xo_new hOg3 (by omega)
  have ug4 : ng3 < ng4 ∧ tg4 ng3 = (14, cln cl) := ⟨by omega, by rw [htg4, xz_s]⟩
  have hg4_26_5 : ag4 26 5 = (cl.length : Int) := by rw [hfg4 26 (by omega)]; exact hg3_26_5
  have hg4_26_7 : ag4 26 7 = (cln cl : Int) := by rw [hfg4 26 (by omega)]; exact hg3_26_7
  have hg4_26_8 : ag4 26 8 = lim := by rw [hfg4 26 (by omega)]; exact hg3_26_8
  refine vx_aload_n hC 0 rfl eX5_made_37 ?_
  refine vx_gi hC 8 (ot_26 hOg4) lf_X5_44 rfl eX5_made_38 ?_
  refine vx_eqi hg4_26_8 ?_
  have hk8 : n < ng4 ∧ tg4 n = (8, 0) := ⟨by omega, by rw [htg4, xz_n _ _ (by omega), htg3, xz_n _ _ (by omega), htg2, xz_n _ _ (by omega)]; exact ug1.2⟩
  refine vx_callI_v hC (kX8_init G (d + 1) _ _ _ _ _ n ng1 ng2 ng3 hk8 lim) ly_X5_63 rfl hRm (by omega) (Nat.le_of_ble_eq_true rfl) rfl eX5_made_41 (fun ng5 tg5 ag5 bg5 cg5 hg5 => ?_)
  obtain ⟨rfl, rfl, hag5, rfl, hcg5⟩ := hg5
  have e1 : ng1 = n + 1 := hng1
  have e2 : ng2 = n + 2 := by omega
  have e3 : ng3 = n + 3 := by omega
  have e4 : ng4 = n + 4 := by omega
  have fA : ∀ k, ¬ k = n → ag5 k = ag4 k := fun k hk => by rw [hag5, xu_c _ _ _ _ hk]
  have fC : ∀ k, ¬ k = n → cg5 k = cg4 k := fun k hk => by rw [hcg5, xu_c _ _ _ _ hk, xu_c _ _ _ _ hk, xu_c _ _ _ _ hk]
  have g1 : ∀ z, 0 ≤ z → z < (cl.length : Int) → ag5 ng1 z = vi 27 z := fun z z1 z2 => by rw [fA _ (by omega), hfg4 _ (by omega), hfg3 _ (by omega), hzg2 z z1 z2, hag1, xz_n _ _ (by omega)]
  have g2 : ∀ z, 0 ≤ z → z < (cl.length : Int) → ag5 ng2 z = vi 28 z := fun z z1 z2 => by rw [fA _ (by omega), hfg4 _ (by omega), hzg3 z z1 z2, hfg2 _ (by omega), hag1, xz_n _ _ (by omega)]
  have g3 : ∀ z, 0 ≤ z → z < (cln cl : Int) → ag5 ng3 z = vi 29 z := fun z z1 z2 => by rw [fA _ (by omega), hzg4 z z1 z2, hfg3 _ (by omega), hfg2 _ (by omega), hag1, xz_n _ _ (by omega)]
  refine vx_up (c1 := 0 + 1 + 1 + 1 + 1 + 0) (s1 := 0 + 4 + 100 + 100 + 100 + 0) (by omega) (by omega) ?_
  exact vx_aret hC hM (by first | exact Or.inl ⟨_, rfl⟩ | exact Or.inr ⟨_, rfl⟩) eX5_made_44 (⟨_, rfl, rfl, e4, hk8.2, (fun k hk => ⟨by rw [htg4, xz_n _ _ (by omega), htg3, xz_n _ _ (by omega), htg2, xz_n _ _ (by omega), htg1, xz_n _ _ (by omega)], by rw [fA k (by omega), hfg4 k (by omega), hfg3 k (by omega), hfg2 k (by omega), hag1, xz_n _ _ (by omega)], by rw [hbg4, xz_n _ _ (by omega), hbg3, xz_n _ _ (by omega), hbg2, xz_n _ _ (by omega), hbg1, xz_n _ _ (by omega)], by rw [fC k (by omega), hcg4, xz_n _ _ (by omega), hcg3, xz_n _ _ (by omega), hcg2, xz_n _ _ (by omega), hcg1, xz_n _ _ (by omega)]⟩), (fun s t hst hlim => ⟨⟨by omega, by omega⟩, hk8.2, (by rw [hag5, xu_s, hlim]), ng1, ng2, ng3, cl, ⟨⟨by omega, by omega⟩, (by rw [htg4, xz_n _ _ (by omega), htg3, xz_n _ _ (by omega)]; exact ug2.2)⟩, ⟨⟨by omega, by omega⟩, (by rw [htg4, xz_n _ _ (by omega)]; exact ug3.2)⟩, ⟨⟨by omega, by omega⟩, ug4.2⟩, (by rw [hcg5, xu_n _ _ _ _ (by omega), xu_n _ _ _ _ (by omega), xu_s]), (by rw [hcg5, xu_n _ _ _ _ (by omega), xu_s]), (by rw [hcg5, xu_s]), hst, by omega, by omega, tr_ext cl 0 0 htr (fun z z1 z2 => ⟨g1 z (by omega) (by omega), g2 z (by omega) (by omega)⟩) (fun z z1 z2 => g3 z (by omega) (by omega))⟩)⟩)
