theorem xp_ty {ci j : Nat} (h : xp_K 4 ci) (hj : j < 4) : xf_ty ci j = .int := by
  have g : ∀ j, j < 4 → xf_ty 4 j = .int ∧ xf_ty 0 j = .int ∧ xf_ty 9 j = .int ∧ xf_ty 7 j = .int ∧ xf_ty 3 j = .int ∧ xf_ty 1 j = .int ∧ xf_ty 10 j = .int := by decide
  have g := g j hj
  unfold xp_K at h
  rcases h with h | h | h | h | h | h | h <;> subst h
  · exact g.1
  · exact g.2.1
  · exact g.2.2.1
  · exact g.2.2.2.1
  · exact g.2.2.2.2.1
  · exact g.2.2.2.2.2.1
  · exact g.2.2.2.2.2.2
set_option maxHeartbeats 4000000 in
set_option maxRecDepth 100000 in
theorem kX4_init (G : xg_T) (d : Nat) (n : Nat) (tau : Nat → Nat × Nat) (vi vl : Nat → Int → Int) (vr : Nat → Int → Option Nat) (k ci : Nat) (ht : k < n ∧ tau k = (ci, 0)) (hci : xp_K 4 ci) (kd q v go : Int) : xm G yX4_init cX4_init 5 none (d + 2) 0 0 [xa_r k, xa_i kd, xa_i q, xa_i v, xa_i go] n tau vi vl vr (xp_v (fun n1 t1 a1 b1 c1 => n = n1 ∧ tau = t1 ∧ a1 = xu (xu (xu (xu vi k 0 kd) k 1 q) k 2 v) k 3 go ∧ vl = b1 ∧ vr = c1)) := by
  refine xm.of (lv := [(0, xa_r k), (1, xa_i kd), (2, xa_i q), (3, xa_i v), (4, xa_i go)]) (by decide) (Nat.le_of_ble_eq_true rfl) rfl (fun K hC hM hRm => ?_)
  refine vx_aload_n hC 0 rfl eX4_init_0 ?_
  refine vx_objInit hC hRm (by omega) ly_X4_3 (Nat.le_of_ble_eq_true rfl) eX4_init_1 ?_
  refine vx_aload_n hC 0 rfl eX4_init_4 ?_
  refine vx_iload_n hC 1 rfl eX4_init_5 ?_
  refine vx_pi hC 0 ht (lp_X4_9 hci) rfl (Or.inr hM.2.2) (Or.inl (xp_ty hci (by decide))) eX4_init_6 ?_
  refine vx_vi (fun v1 hv1 => ?_)
  refine vx_aload_n hC 0 rfl eX4_init_9 ?_
  refine vx_iload_n hC 2 rfl eX4_init_10 ?_
  refine vx_pi hC 1 ht (lp_X4_15 hci) rfl (Or.inr hM.2.2) (Or.inl (xp_ty hci (by decide))) eX4_init_11 ?_
  refine vx_vi (fun v2 hv2 => ?_)
  refine vx_aload_n hC 0 rfl eX4_init_14 ?_
  refine vx_iload_n hC 3 rfl eX4_init_15 ?_
  refine vx_pi hC 2 ht (lp_X4_18 hci) rfl (Or.inr hM.2.2) (Or.inl (xp_ty hci (by decide))) eX4_init_16 ?_
  refine vx_vi (fun v3 hv3 => ?_)
  refine vx_aload_n hC 0 rfl eX4_init_19 ?_
  refine vx_iload hC 4 rfl eX4_init_20 ?_
  refine vx_pi hC 3 ht (lp_X4_21 hci) rfl (Or.inr hM.2.2) (Or.inl (xp_ty hci (by decide))) eX4_init_22 ?_
  refine vx_vi (fun v4 hv4 => ?_)
  exact vx_vret hC hM eX4_init_25 (⟨rfl, rfl, rfl, (by rw [hv4, hv3, hv2, hv1]), rfl, rfl⟩)
set_option maxHeartbeats 4000000 in
set_option maxRecDepth 100000 in
theorem kX0_init (G : xg_T) (d : Nat) (n : Nat) (tau : Nat → Nat × Nat) (vi vl : Nat → Int → Int) (vr : Nat → Int → Option Nat) (k ci : Nat) (ht : k < n ∧ tau k = (ci, 0)) (hci : xp_K 4 ci) (kd q v go : Int) : xm G yX0_init cX0_init 5 none (d + 3) 0 0 [xa_r k, xa_i kd, xa_i q, xa_i v, xa_i go] n tau vi vl vr (xp_v (fun n1 t1 a1 b1 c1 => n = n1 ∧ tau = t1 ∧ a1 = xu (xu (xu (xu vi k 0 kd) k 1 q) k 2 v) k 3 go ∧ vl = b1 ∧ vr = c1)) := by
  refine xm.of (lv := [(0, xa_r k), (1, xa_i kd), (2, xa_i q), (3, xa_i v), (4, xa_i go)]) (by decide) (Nat.le_of_ble_eq_true rfl) rfl (fun K hC hM hRm => ?_)
  refine vx_aload_n hC 0 rfl eX0_init_0 ?_
  refine vx_iload_n hC 1 rfl eX0_init_1 ?_
  refine vx_iload_n hC 2 rfl eX0_init_2 ?_
  refine vx_iload_n hC 3 rfl eX0_init_3 ?_
  refine vx_iload hC 4 rfl eX0_init_4 ?_
  refine vx_callI_v hC (kX4_init G d _ _ _ _ _ k ci ht hci kd q v go) ly_X0_1 rfl hRm (by omega) (Nat.le_of_ble_eq_true rfl) rfl eX0_init_6 (fun n9 t9 a9 b9 c9 h9 => ?_)
  obtain ⟨rfl, rfl, ha9, rfl, rfl⟩ := h9
  exact vx_vret hC hM eX0_init_9 (⟨rfl, rfl, rfl, ha9, rfl, rfl⟩)
set_option maxHeartbeats 4000000 in
set_option maxRecDepth 100000 in
theorem kX9_init (G : xg_T) (d : Nat) (n : Nat) (tau : Nat → Nat × Nat) (vi vl : Nat → Int → Int) (vr : Nat → Int → Option Nat) (k ci : Nat) (ht : k < n ∧ tau k = (ci, 0)) (hci : xp_K 4 ci) (kd q v go : Int) : xm G yX9_init cX9_init 5 none (d + 3) 0 0 [xa_r k, xa_i kd, xa_i q, xa_i v, xa_i go] n tau vi vl vr (xp_v (fun n1 t1 a1 b1 c1 => n = n1 ∧ tau = t1 ∧ a1 = xu (xu (xu (xu vi k 0 kd) k 1 q) k 2 v) k 3 go ∧ vl = b1 ∧ vr = c1)) := by
  refine xm.of (lv := [(0, xa_r k), (1, xa_i kd), (2, xa_i q), (3, xa_i v), (4, xa_i go)]) (by decide) (Nat.le_of_ble_eq_true rfl) rfl (fun K hC hM hRm => ?_)
  refine vx_aload_n hC 0 rfl eX9_init_0 ?_
  refine vx_iload_n hC 1 rfl eX9_init_1 ?_
  refine vx_iload_n hC 2 rfl eX9_init_2 ?_
  refine vx_iload_n hC 3 rfl eX9_init_3 ?_
  refine vx_iload hC 4 rfl eX9_init_4 ?_
  refine vx_callI_v hC (kX4_init G d _ _ _ _ _ k ci ht hci kd q v go) ly_X9_1 rfl hRm (by omega) (Nat.le_of_ble_eq_true rfl) rfl eX9_init_6 (fun n9 t9 a9 b9 c9 h9 => ?_)
  obtain ⟨rfl, rfl, ha9, rfl, rfl⟩ := h9
  exact vx_vret hC hM eX9_init_9 (⟨rfl, rfl, rfl, ha9, rfl, rfl⟩)
set_option maxHeartbeats 4000000 in
set_option maxRecDepth 100000 in
theorem kX7_init (G : xg_T) (d : Nat) (n : Nat) (tau : Nat → Nat × Nat) (vi vl : Nat → Int → Int) (vr : Nat → Int → Option Nat) (k ci : Nat) (ht : k < n ∧ tau k = (ci, 0)) (hci : xp_K 4 ci) (kd q v go : Int) : xm G yX7_init cX7_init 5 none (d + 3) 0 0 [xa_r k, xa_i kd, xa_i q, xa_i v, xa_i go] n tau vi vl vr (xp_v (fun n1 t1 a1 b1 c1 => n = n1 ∧ tau = t1 ∧ a1 = xu (xu (xu (xu vi k 0 kd) k 1 q) k 2 v) k 3 go ∧ vl = b1 ∧ vr = c1)) := by
  refine xm.of (lv := [(0, xa_r k), (1, xa_i kd), (2, xa_i q), (3, xa_i v), (4, xa_i go)]) (by decide) (Nat.le_of_ble_eq_true rfl) rfl (fun K hC hM hRm => ?_)
  refine vx_aload_n hC 0 rfl eX7_init_0 ?_
  refine vx_iload_n hC 1 rfl eX7_init_1 ?_
  refine vx_iload_n hC 2 rfl eX7_init_2 ?_
  refine vx_iload_n hC 3 rfl eX7_init_3 ?_
  refine vx_iload hC 4 rfl eX7_init_4 ?_
  refine vx_callI_v hC (kX4_init G d _ _ _ _ _ k ci ht hci kd q v go) ly_X7_1 rfl hRm (by omega) (Nat.le_of_ble_eq_true rfl) rfl eX7_init_6 (fun n9 t9 a9 b9 c9 h9 => ?_)
  obtain ⟨rfl, rfl, ha9, rfl, rfl⟩ := h9
  exact vx_vret hC hM eX7_init_9 (⟨rfl, rfl, rfl, ha9, rfl, rfl⟩)
set_option maxHeartbeats 4000000 in
set_option maxRecDepth 100000 in
theorem kX3_init (G : xg_T) (d : Nat) (n : Nat) (tau : Nat → Nat × Nat) (vi vl : Nat → Int → Int) (vr : Nat → Int → Option Nat) (k ci : Nat) (ht : k < n ∧ tau k = (ci, 0)) (hci : xp_K 4 ci) (kd q v go : Int) : xm G yX3_init cX3_init 5 none (d + 4) 0 0 [xa_r k, xa_i kd, xa_i q, xa_i v, xa_i go] n tau vi vl vr (xp_v (fun n1 t1 a1 b1 c1 => n = n1 ∧ tau = t1 ∧ a1 = xu (xu (xu (xu vi k 0 kd) k 1 q) k 2 v) k 3 go ∧ vl = b1 ∧ vr = c1)) := by
  refine xm.of (lv := [(0, xa_r k), (1, xa_i kd), (2, xa_i q), (3, xa_i v), (4, xa_i go)]) (by decide) (Nat.le_of_ble_eq_true rfl) rfl (fun K hC hM hRm => ?_)
  refine vx_aload_n hC 0 rfl eX3_init_0 ?_
  refine vx_iload_n hC 1 rfl eX3_init_1 ?_
  refine vx_iload_n hC 2 rfl eX3_init_2 ?_
  refine vx_iload_n hC 3 rfl eX3_init_3 ?_
  refine vx_iload hC 4 rfl eX3_init_4 ?_
  refine vx_callI_v hC (kX0_init G d _ _ _ _ _ k ci ht hci kd q v go) ly_X3_1 rfl hRm (by omega) (Nat.le_of_ble_eq_true rfl) rfl eX3_init_6 (fun n9 t9 a9 b9 c9 h9 => ?_)
  obtain ⟨rfl, rfl, ha9, rfl, rfl⟩ := h9
  exact vx_vret hC hM eX3_init_9 (⟨rfl, rfl, rfl, ha9, rfl, rfl⟩)
set_option maxHeartbeats 4000000 in
set_option maxRecDepth 100000 in
theorem kX1_init (G : xg_T) (d : Nat) (n : Nat) (tau : Nat → Nat × Nat) (vi vl : Nat → Int → Int) (vr : Nat → Int → Option Nat) (k ci : Nat) (ht : k < n ∧ tau k = (ci, 0)) (hci : xp_K 4 ci) (kd q v go : Int) : xm G yX1_init cX1_init 5 none (d + 4) 0 0 [xa_r k, xa_i kd, xa_i q, xa_i v, xa_i go] n tau vi vl vr (xp_v (fun n1 t1 a1 b1 c1 => n = n1 ∧ tau = t1 ∧ a1 = xu (xu (xu (xu vi k 0 kd) k 1 q) k 2 v) k 3 go ∧ vl = b1 ∧ vr = c1)) := by
  refine xm.of (lv := [(0, xa_r k), (1, xa_i kd), (2, xa_i q), (3, xa_i v), (4, xa_i go)]) (by decide) (Nat.le_of_ble_eq_true rfl) rfl (fun K hC hM hRm => ?_)
  refine vx_aload_n hC 0 rfl eX1_init_0 ?_
  refine vx_iload_n hC 1 rfl eX1_init_1 ?_
  refine vx_iload_n hC 2 rfl eX1_init_2 ?_
  refine vx_iload_n hC 3 rfl eX1_init_3 ?_
  refine vx_iload hC 4 rfl eX1_init_4 ?_
  refine vx_callI_v hC (kX9_init G d _ _ _ _ _ k ci ht hci kd q v go) ly_X1_1 rfl hRm (by omega) (Nat.le_of_ble_eq_true rfl) rfl eX1_init_6 (fun n9 t9 a9 b9 c9 h9 => ?_)
  obtain ⟨rfl, rfl, ha9, rfl, rfl⟩ := h9
  exact vx_vret hC hM eX1_init_9 (⟨rfl, rfl, rfl, ha9, rfl, rfl⟩)
set_option maxHeartbeats 4000000 in
set_option maxRecDepth 100000 in
theorem kX10_init (G : xg_T) (d : Nat) (n : Nat) (tau : Nat → Nat × Nat) (vi vl : Nat → Int → Int) (vr : Nat → Int → Option Nat) (k ci : Nat) (ht : k < n ∧ tau k = (ci, 0)) (hci : xp_K 4 ci) (kd q v go : Int) : xm G yX10_init cX10_init 5 none (d + 4) 0 0 [xa_r k, xa_i kd, xa_i q, xa_i v, xa_i go] n tau vi vl vr (xp_v (fun n1 t1 a1 b1 c1 => n = n1 ∧ tau = t1 ∧ a1 = xu (xu (xu (xu vi k 0 kd) k 1 q) k 2 v) k 3 go ∧ vl = b1 ∧ vr = c1)) := by
  refine xm.of (lv := [(0, xa_r k), (1, xa_i kd), (2, xa_i q), (3, xa_i v), (4, xa_i go)]) (by decide) (Nat.le_of_ble_eq_true rfl) rfl (fun K hC hM hRm => ?_)
  refine vx_aload_n hC 0 rfl eX10_init_0 ?_
  refine vx_iload_n hC 1 rfl eX10_init_1 ?_
  refine vx_iload_n hC 2 rfl eX10_init_2 ?_
  refine vx_iload_n hC 3 rfl eX10_init_3 ?_
  refine vx_iload hC 4 rfl eX10_init_4 ?_
  refine vx_callI_v hC (kX7_init G d _ _ _ _ _ k ci ht hci kd q v go) ly_X10_1 rfl hRm (by omega) (Nat.le_of_ble_eq_true rfl) rfl eX10_init_6 (fun n9 t9 a9 b9 c9 h9 => ?_)
  obtain ⟨rfl, rfl, ha9, rfl, rfl⟩ := h9
  exact vx_vret hC hM eX10_init_9 (⟨rfl, rfl, rfl, ha9, rfl, rfl⟩)
set_option maxHeartbeats 4000000 in
set_option maxRecDepth 100000 in
theorem kX11_newPlayer (G : xg_T) (d : Nat) (n : Nat) (tau : Nat → Nat × Nat) (vi vl : Nat → Int → Int) (vr : Nat → Int → Option Nat) (kd q v go : Int) (hkd : 0 ≤ kd ∧ kd ≤ 6) (hn : n + 1 ≤ 100000) : xm G yX11_newPlayer cX11_newPlayer 4 (some (.object "LastPenny$Penny")) (d + 5) 1 4 [xa_i kd, xa_i q, xa_i v, xa_i go] n tau vi vl vr (xp_q (fun r9 n1 t1 a1 b1 c1 => r9 = some n ∧ n1 = n + 1 ∧ t1 = xz tau n (pn kd, 0) ∧ (a1 n 0 = kd ∧ a1 n 1 = q ∧ a1 n 2 = v ∧ a1 n 3 = go) ∧ (∀ k, ¬ k = n → a1 k = vi k) ∧ b1 = xz vl n (fun _ => 0) ∧ c1 = xz vr n (fun _ => none))) := by
  refine xm.of (lv := [(0, xa_i kd), (1, xa_i q), (2, xa_i v), (3, xa_i go)]) (by decide) (Nat.le_of_ble_eq_true rfl) rfl (fun K hC hM hRm => ?_)
  refine vx_iload_n hC 0 rfl eX11_newPlayer_0 ?_
  rcases (show kd = 1 ∨ kd = 2 ∨ kd = 3 ∨ kd = 4 ∨ kd = 5 ∨ kd = 6 ∨ (¬ kd = 1 ∧ ¬ kd = 2 ∧ ¬ kd = 3 ∧ ¬ kd = 4 ∧ ¬ kd = 5 ∧ ¬ kd = 6) by omega) with c1 | c1 | c1 | c1 | c1 | c1 | c1
  · refine vx_tableIn hC (tgt := 40) (by omega) (by omega) (by rw [c1]; rfl) (by decide) eX11_newPlayer_1 ?_
    refine vx_new hC (ci := 0) rfl ln_X11_237 (by omega) hRm (by omega) eX11_newPlayer_40 ?_
    refine vx_hp (fun ng2 tg2 ag2 bg2 cg2 hng2 htg2 hag2 hbg2 hcg2 => ?_)
    have ug2 : n < ng2 ∧ tg2 n = (0, 0) := ⟨by omega, by rw [htg2, xz_s]⟩
    refine vx_dup hC rfl eX11_newPlayer_43 ?_
    refine vx_iload_n hC 0 rfl eX11_newPlayer_44 ?_
    refine vx_iload_n hC 1 rfl eX11_newPlayer_45 ?_
    refine vx_iload_n hC 2 rfl eX11_newPlayer_46 ?_
    refine vx_iload_n hC 3 rfl eX11_newPlayer_47 ?_
    refine vx_callI_v hC (kX0_init G (d + 1) _ _ _ _ _ n 0 ug2 (by simp [xp_K]) kd q v go) ly_X11_247 rfl hRm (by omega) (Nat.le_of_ble_eq_true rfl) rfl eX11_newPlayer_48 (fun n9 t9 a9 b9 c9 h9 => ?_)
    obtain ⟨rfl, rfl, ha9, rfl, rfl⟩ := h9
    have hpn : pn kd = 0 := by unfold pn; (repeat (first | rw [if_pos (by omega)] | rw [if_neg (by omega)]))
    refine vx_up (c1 := 0 + 1 + 0) (s1 := 0 + 4 + 0) (by omega) (by omega) ?_
    exact vx_aret hC hM (by first | exact Or.inl ⟨_, rfl⟩ | exact Or.inr ⟨_, rfl⟩) eX11_newPlayer_51 (⟨_, rfl, rfl, hng2, (by rw [hpn]; exact htg2), ⟨by rw [ha9, xu_n _ _ _ _ (by omega), xu_n _ _ _ _ (by omega), xu_n _ _ _ _ (by omega), xu_s], by rw [ha9, xu_n _ _ _ _ (by omega), xu_n _ _ _ _ (by omega), xu_s], by rw [ha9, xu_n _ _ _ _ (by omega), xu_s], by rw [ha9, xu_s]⟩, (fun k hk => by rw [ha9, xu_c _ _ _ _ hk, xu_c _ _ _ _ hk, xu_c _ _ _ _ hk, xu_c _ _ _ _ hk, hag2, xz_n _ _ hk]), hbg2, hcg2⟩)
  · refine vx_tableIn hC (tgt := 52) (by omega) (by omega) (by rw [c1]; rfl) (by decide) eX11_newPlayer_1 ?_
    refine vx_new hC (ci := 9) rfl ln_X11_239 (by omega) hRm (by omega) eX11_newPlayer_52 ?_
    refine vx_hp (fun ng3 tg3 ag3 bg3 cg3 hng3 htg3 hag3 hbg3 hcg3 => ?_)
    have ug3 : n < ng3 ∧ tg3 n = (9, 0) := ⟨by omega, by rw [htg3, xz_s]⟩
    refine vx_dup hC rfl eX11_newPlayer_55 ?_
    refine vx_iload_n hC 0 rfl eX11_newPlayer_56 ?_
    refine vx_iload_n hC 1 rfl eX11_newPlayer_57 ?_
    refine vx_iload_n hC 2 rfl eX11_newPlayer_58 ?_
    refine vx_iload_n hC 3 rfl eX11_newPlayer_59 ?_
    refine vx_callI_v hC (kX9_init G (d + 1) _ _ _ _ _ n 9 ug3 (by simp [xp_K]) kd q v go) ly_X11_249 rfl hRm (by omega) (Nat.le_of_ble_eq_true rfl) rfl eX11_newPlayer_60 (fun n9 t9 a9 b9 c9 h9 => ?_)
    obtain ⟨rfl, rfl, ha9, rfl, rfl⟩ := h9
    have hpn : pn kd = 9 := by unfold pn; (repeat (first | rw [if_pos (by omega)] | rw [if_neg (by omega)]))
    refine vx_up (c1 := 0 + 1 + 0) (s1 := 0 + 4 + 0) (by omega) (by omega) ?_
    exact vx_aret hC hM (by first | exact Or.inl ⟨_, rfl⟩ | exact Or.inr ⟨_, rfl⟩) eX11_newPlayer_63 (⟨_, rfl, rfl, hng3, (by rw [hpn]; exact htg3), ⟨by rw [ha9, xu_n _ _ _ _ (by omega), xu_n _ _ _ _ (by omega), xu_n _ _ _ _ (by omega), xu_s], by rw [ha9, xu_n _ _ _ _ (by omega), xu_n _ _ _ _ (by omega), xu_s], by rw [ha9, xu_n _ _ _ _ (by omega), xu_s], by rw [ha9, xu_s]⟩, (fun k hk => by rw [ha9, xu_c _ _ _ _ hk, xu_c _ _ _ _ hk, xu_c _ _ _ _ hk, xu_c _ _ _ _ hk, hag3, xz_n _ _ hk]), hbg3, hcg3⟩)
  · refine vx_tableIn hC (tgt := 64) (by omega) (by omega) (by rw [c1]; rfl) (by decide) eX11_newPlayer_1 ?_
    refine vx_new hC (ci := 7) rfl ln_X11_241 (by omega) hRm (by omega) eX11_newPlayer_64 ?_
    refine vx_hp (fun ng4 tg4 ag4 bg4 cg4 hng4 htg4 hag4 hbg4 hcg4 => ?_)
    have ug4 : n < ng4 ∧ tg4 n = (7, 0) := ⟨by omega, by rw [htg4, xz_s]⟩
    refine vx_dup hC rfl eX11_newPlayer_67 ?_
    refine vx_iload_n hC 0 rfl eX11_newPlayer_68 ?_
    refine vx_iload_n hC 1 rfl eX11_newPlayer_69 ?_
    refine vx_iload_n hC 2 rfl eX11_newPlayer_70 ?_
    refine vx_iload_n hC 3 rfl eX11_newPlayer_71 ?_
    refine vx_callI_v hC (kX7_init G (d + 1) _ _ _ _ _ n 7 ug4 (by simp [xp_K]) kd q v go) ly_X11_250 rfl hRm (by omega) (Nat.le_of_ble_eq_true rfl) rfl eX11_newPlayer_72 (fun n9 t9 a9 b9 c9 h9 => ?_)
    obtain ⟨rfl, rfl, ha9, rfl, rfl⟩ := h9
    have hpn : pn kd = 7 := by unfold pn; (repeat (first | rw [if_pos (by omega)] | rw [if_neg (by omega)]))
    refine vx_up (c1 := 0 + 1 + 0) (s1 := 0 + 4 + 0) (by omega) (by omega) ?_
    exact vx_aret hC hM (by first | exact Or.inl ⟨_, rfl⟩ | exact Or.inr ⟨_, rfl⟩) eX11_newPlayer_75 (⟨_, rfl, rfl, hng4, (by rw [hpn]; exact htg4), ⟨by rw [ha9, xu_n _ _ _ _ (by omega), xu_n _ _ _ _ (by omega), xu_n _ _ _ _ (by omega), xu_s], by rw [ha9, xu_n _ _ _ _ (by omega), xu_n _ _ _ _ (by omega), xu_s], by rw [ha9, xu_n _ _ _ _ (by omega), xu_s], by rw [ha9, xu_s]⟩, (fun k hk => by rw [ha9, xu_c _ _ _ _ hk, xu_c _ _ _ _ hk, xu_c _ _ _ _ hk, xu_c _ _ _ _ hk, hag4, xz_n _ _ hk]), hbg4, hcg4⟩)
  · refine vx_tableIn hC (tgt := 76) (by omega) (by omega) (by rw [c1]; rfl) (by decide) eX11_newPlayer_1 ?_
    refine vx_new hC (ci := 3) rfl ln_X11_243 (by omega) hRm (by omega) eX11_newPlayer_76 ?_
    refine vx_hp (fun ng5 tg5 ag5 bg5 cg5 hng5 htg5 hag5 hbg5 hcg5 => ?_)
    have ug5 : n < ng5 ∧ tg5 n = (3, 0) := ⟨by omega, by rw [htg5, xz_s]⟩
    refine vx_dup hC rfl eX11_newPlayer_79 ?_
    refine vx_iload_n hC 0 rfl eX11_newPlayer_80 ?_
    refine vx_iload_n hC 1 rfl eX11_newPlayer_81 ?_
    refine vx_iload_n hC 2 rfl eX11_newPlayer_82 ?_
    refine vx_iload_n hC 3 rfl eX11_newPlayer_83 ?_
    refine vx_callI_v hC (kX3_init G d _ _ _ _ _ n 3 ug5 (by simp [xp_K]) kd q v go) ly_X11_251 rfl hRm (by omega) (Nat.le_of_ble_eq_true rfl) rfl eX11_newPlayer_84 (fun n9 t9 a9 b9 c9 h9 => ?_)
    obtain ⟨rfl, rfl, ha9, rfl, rfl⟩ := h9
    have hpn : pn kd = 3 := by unfold pn; (repeat (first | rw [if_pos (by omega)] | rw [if_neg (by omega)]))
    refine vx_up (c1 := 0 + 1 + 0) (s1 := 0 + 4 + 0) (by omega) (by omega) ?_
    exact vx_aret hC hM (by first | exact Or.inl ⟨_, rfl⟩ | exact Or.inr ⟨_, rfl⟩) eX11_newPlayer_87 (⟨_, rfl, rfl, hng5, (by rw [hpn]; exact htg5), ⟨by rw [ha9, xu_n _ _ _ _ (by omega), xu_n _ _ _ _ (by omega), xu_n _ _ _ _ (by omega), xu_s], by rw [ha9, xu_n _ _ _ _ (by omega), xu_n _ _ _ _ (by omega), xu_s], by rw [ha9, xu_n _ _ _ _ (by omega), xu_s], by rw [ha9, xu_s]⟩, (fun k hk => by rw [ha9, xu_c _ _ _ _ hk, xu_c _ _ _ _ hk, xu_c _ _ _ _ hk, xu_c _ _ _ _ hk, hag5, xz_n _ _ hk]), hbg5, hcg5⟩)
  · refine vx_tableIn hC (tgt := 88) (by omega) (by omega) (by rw [c1]; rfl) (by decide) eX11_newPlayer_1 ?_
    refine vx_new hC (ci := 1) rfl ln_X11_245 (by omega) hRm (by omega) eX11_newPlayer_88 ?_
    refine vx_hp (fun ng6 tg6 ag6 bg6 cg6 hng6 htg6 hag6 hbg6 hcg6 => ?_)
    have ug6 : n < ng6 ∧ tg6 n = (1, 0) := ⟨by omega, by rw [htg6, xz_s]⟩
    refine vx_dup hC rfl eX11_newPlayer_91 ?_
    refine vx_iload_n hC 0 rfl eX11_newPlayer_92 ?_
    refine vx_iload_n hC 1 rfl eX11_newPlayer_93 ?_
    refine vx_iload_n hC 2 rfl eX11_newPlayer_94 ?_
    refine vx_iload_n hC 3 rfl eX11_newPlayer_95 ?_
    refine vx_callI_v hC (kX1_init G d _ _ _ _ _ n 1 ug6 (by simp [xp_K]) kd q v go) ly_X11_252 rfl hRm (by omega) (Nat.le_of_ble_eq_true rfl) rfl eX11_newPlayer_96 (fun n9 t9 a9 b9 c9 h9 => ?_)
    obtain ⟨rfl, rfl, ha9, rfl, rfl⟩ := h9
    have hpn : pn kd = 1 := by unfold pn; (repeat (first | rw [if_pos (by omega)] | rw [if_neg (by omega)]))
    refine vx_up (c1 := 0 + 1 + 0) (s1 := 0 + 4 + 0) (by omega) (by omega) ?_
    exact vx_aret hC hM (by first | exact Or.inl ⟨_, rfl⟩ | exact Or.inr ⟨_, rfl⟩) eX11_newPlayer_99 (⟨_, rfl, rfl, hng6, (by rw [hpn]; exact htg6), ⟨by rw [ha9, xu_n _ _ _ _ (by omega), xu_n _ _ _ _ (by omega), xu_n _ _ _ _ (by omega), xu_s], by rw [ha9, xu_n _ _ _ _ (by omega), xu_n _ _ _ _ (by omega), xu_s], by rw [ha9, xu_n _ _ _ _ (by omega), xu_s], by rw [ha9, xu_s]⟩, (fun k hk => by rw [ha9, xu_c _ _ _ _ hk, xu_c _ _ _ _ hk, xu_c _ _ _ _ hk, xu_c _ _ _ _ hk, hag6, xz_n _ _ hk]), hbg6, hcg6⟩)
  · refine vx_tableIn hC (tgt := 100) (by omega) (by omega) (by rw [c1]; rfl) (by decide) eX11_newPlayer_1 ?_
    refine vx_new hC (ci := 10) rfl ln_X11_119 (by omega) hRm (by omega) eX11_newPlayer_100 ?_
    refine vx_hp (fun ng7 tg7 ag7 bg7 cg7 hng7 htg7 hag7 hbg7 hcg7 => ?_)
    have ug7 : n < ng7 ∧ tg7 n = (10, 0) := ⟨by omega, by rw [htg7, xz_s]⟩
    refine vx_dup hC rfl eX11_newPlayer_103 ?_
    refine vx_iload_n hC 0 rfl eX11_newPlayer_104 ?_
    refine vx_iload_n hC 1 rfl eX11_newPlayer_105 ?_
    refine vx_iload_n hC 2 rfl eX11_newPlayer_106 ?_
    refine vx_iload_n hC 3 rfl eX11_newPlayer_107 ?_
    refine vx_callI_v hC (kX10_init G d _ _ _ _ _ n 10 ug7 (by simp [xp_K]) kd q v go) ly_X11_253 rfl hRm (by omega) (Nat.le_of_ble_eq_true rfl) rfl eX11_newPlayer_108 (fun n9 t9 a9 b9 c9 h9 => ?_)
    obtain ⟨rfl, rfl, ha9, rfl, rfl⟩ := h9
    have hpn : pn kd = 10 := by unfold pn; (repeat (first | rw [if_pos (by omega)] | rw [if_neg (by omega)]))
    refine vx_up (c1 := 0 + 1 + 0) (s1 := 0 + 4 + 0) (by omega) (by omega) ?_
    exact vx_aret hC hM (by first | exact Or.inl ⟨_, rfl⟩ | exact Or.inr ⟨_, rfl⟩) eX11_newPlayer_111 (⟨_, rfl, rfl, hng7, (by rw [hpn]; exact htg7), ⟨by rw [ha9, xu_n _ _ _ _ (by omega), xu_n _ _ _ _ (by omega), xu_n _ _ _ _ (by omega), xu_s], by rw [ha9, xu_n _ _ _ _ (by omega), xu_n _ _ _ _ (by omega), xu_s], by rw [ha9, xu_n _ _ _ _ (by omega), xu_s], by rw [ha9, xu_s]⟩, (fun k hk => by rw [ha9, xu_c _ _ _ _ hk, xu_c _ _ _ _ hk, xu_c _ _ _ _ hk, xu_c _ _ _ _ hk, hag7, xz_n _ _ hk]), hbg7, hcg7⟩)
  · refine vx_tableOut hC (tgt := 112) (by omega) (by omega) (by decide) eX11_newPlayer_1 ?_
    refine vx_new hC (ci := 4) rfl ln_X11_98 (by omega) hRm (by omega) eX11_newPlayer_112 ?_
    refine vx_hp (fun ng8 tg8 ag8 bg8 cg8 hng8 htg8 hag8 hbg8 hcg8 => ?_)
    have ug8 : n < ng8 ∧ tg8 n = (4, 0) := ⟨by omega, by rw [htg8, xz_s]⟩
    refine vx_dup hC rfl eX11_newPlayer_115 ?_
    refine vx_iload_n hC 0 rfl eX11_newPlayer_116 ?_
    refine vx_iload_n hC 1 rfl eX11_newPlayer_117 ?_
    refine vx_iload_n hC 2 rfl eX11_newPlayer_118 ?_
    refine vx_iload_n hC 3 rfl eX11_newPlayer_119 ?_
    refine vx_callI_v hC (kX4_init G (d + 2) _ _ _ _ _ n 4 ug8 (by simp [xp_K]) kd q v go) ly_X11_254 rfl hRm (by omega) (Nat.le_of_ble_eq_true rfl) rfl eX11_newPlayer_120 (fun n9 t9 a9 b9 c9 h9 => ?_)
    obtain ⟨rfl, rfl, ha9, rfl, rfl⟩ := h9
    have hpn : pn kd = 4 := by unfold pn; (repeat (first | rw [if_pos (by omega)] | rw [if_neg (by omega)]))
    refine vx_up (c1 := 0 + 1 + 0) (s1 := 0 + 4 + 0) (by omega) (by omega) ?_
    exact vx_aret hC hM (by first | exact Or.inl ⟨_, rfl⟩ | exact Or.inr ⟨_, rfl⟩) eX11_newPlayer_123 (⟨_, rfl, rfl, hng8, (by rw [hpn]; exact htg8), ⟨by rw [ha9, xu_n _ _ _ _ (by omega), xu_n _ _ _ _ (by omega), xu_n _ _ _ _ (by omega), xu_s], by rw [ha9, xu_n _ _ _ _ (by omega), xu_n _ _ _ _ (by omega), xu_s], by rw [ha9, xu_n _ _ _ _ (by omega), xu_s], by rw [ha9, xu_s]⟩, (fun k hk => by rw [ha9, xu_c _ _ _ _ hk, xu_c _ _ _ _ hk, xu_c _ _ _ _ hk, xu_c _ _ _ _ hk, hag8, xz_n _ _ hk]), hbg8, hcg8⟩)
theorem spl_at {s s2 : Int → Int} {kd v go pu : Int} (hs2 : s2 = fu (fz (fu (fu (fu (fu s (10 + s 0) kd) (14 + s 0) v) (18 + s 0) go) (22 + s 0) pu) (26 + 4 * s 0) 4) 0 (s 0 + 1)) (z : Int) : s2 z = if z = 0 then s 0 + 1 else if 26 + 4 * s 0 ≤ z ∧ z < 26 + 4 * s 0 + 4 then 0 else if z = 22 + s 0 then pu else if z = 18 + s 0 then go else if z = 14 + s 0 then v else if z = 10 + s 0 then kd else s z := by subst hs2; rfl
theorem spl_e {s s2 : Int → Int} {kd v go pu : Int} (hs2 : s2 = fu (fz (fu (fu (fu (fu s (10 + s 0) kd) (14 + s 0) v) (18 + s 0) go) (22 + s 0) pu) (26 + 4 * s 0) 4) 0 (s 0 + 1)) {z : Int} (h1 : ¬ z = 0) (h2 : ¬ (26 + 4 * s 0 ≤ z ∧ z < 26 + 4 * s 0 + 4)) (h3 : ¬ z = 22 + s 0) (h4 : ¬ z = 18 + s 0) (h5 : ¬ z = 14 + s 0) (h6 : ¬ z = 10 + s 0) : s2 z = s z := by
  rw [spl_at hs2, if_neg h1, if_neg h2, if_neg h3, if_neg h4, if_neg h5, if_neg h6]
theorem cs_player {s s2 : Int → Int} {kd v go pu : Int} {n n1 : Nat} {tau t1 : Nat → Nat × Nat} {vi vl a b : Nat → Int → Int} {vr c : Nat → Int → Option Nat} (h : rp_S 1 s n tau vi vr) (hV : ms_V s) (hs2 : s2 = fu (fz (fu (fu (fu (fu s (10 + s 0) kd) (14 + s 0) v) (18 + s 0) go) (22 + s 0) pu) (26 + 4 * s 0) 4) 0 (s 0 + 1)) (hs0 : s 0 < 4) (e1 : a 1 1 = s 3) (e3 : a 1 3 = s 1) (e7 : a 1 7 = s 0 + 1) (e8 : a 1 8 = s 5) (e9 : a 1 9 = s 2) (e10 : a 1 10 = wb s (s 2).toNat) (c2 : a 2 = vi 2) (c5 : a 5 = fu (vi 5) (s 0) pu) (c6 : ∀ z, a 6 z = if 4 * s 0 ≤ z ∧ z < 4 * s 0 + 4 then 0 else vi 6 z) (hk : ∀ k, 45 ≤ k ∧ k < n → a k = vi k) (hn : n1 = n + 1) (h45 : 45 ≤ n) (ht : ∀ k, k < n → t1 k = tau k) (htn : t1 n = (pn kd, 0)) (p0 : a n 0 = kd) (p1 : a n 1 = s 0) (p2 : a n 2 = v) (p3 : a n 3 = go) (hv3 : c 3 = vr 3) (hv4 : ∀ z, ¬ z = s 0 → c 4 z = vr 4 z) (hv4s : c 4 (s 0) = some n) (hcv : ∀ k, 45 ≤ k ∧ k < n → c k = vr k) : rp_S 1 s2 n1 t1 a c := by
  obtain ⟨q1, q3, q7, q8, q9, q10, qt, qp, qr, qP, qT⟩ := h
  obtain ⟨hr, h0, h1, h2, h3a, h4, h5, h6, hp0, hrow, hwon, htape, htab⟩ := hV.1
  have z0 : s2 0 = s 0 + 1 := by rw [spl_at hs2, if_pos rfl]
  have z1 : s2 1 = s 1 := spl_e hs2 (by omega) (by omega) (by omega) (by omega) (by omega) (by omega)
  have z2 : s2 2 = s 2 := spl_e hs2 (by omega) (by omega) (by omega) (by omega) (by omega) (by omega)
  have z3 : s2 3 = s 3 := spl_e hs2 (by omega) (by omega) (by omega) (by omega) (by omega) (by omega)
  have hi : ∀ z, 42 ≤ z → s2 z = s z := fun z hz => spl_e hs2 (by omega) (by omega) (by omega) (by omega) (by omega) (by omega)
  refine ⟨by rw [e1, z3], by rw [e3, z1], by rw [e7, z0], by rw [e8]; exact (spl_e hs2 (by omega) (by omega) (by omega) (by omega) (by omega) (by omega)).symm, by rw [e9, z2], ?_, ?_, ?_, ?_, ?_, ?_⟩
  · rw [e10, z2]
    exact (wb_congr _ (fun k hk => hi _ (by omega))).symm
  · intro z y1 y2
    rw [z3] at y2
    show a 2 z = _
    rw [c2, hi _ (by omega)]; exact qt z y1 y2
  · intro z y1 y2
    rw [z0] at y2
    show a 5 z = _
    rw [c5]
    by_cases e : z = s 0
    · rw [e, fu_s, spl_at hs2, if_neg (by omega), if_neg (by omega), if_pos rfl]
    · rw [fu_n _ _ _ e, spl_e hs2 (by omega) (by omega) (by omega) (by omega) (by omega) (by omega)]; exact qp z y1 (by omega)
  · intro z y1 y2
    rw [z0] at y2
    show a 6 z = _
    rw [c6]
    by_cases e : 4 * s 0 ≤ z
    · rw [if_pos (by omega), spl_at hs2, if_neg (by omega), if_pos (by omega)]
    · rw [if_neg (by omega), spl_e hs2 (by omega) (by omega) (by omega) (by omega) (by omega) (by omega)]; exact qr z y1 (by omega)
  · intro p p1' p2'
    rw [z0] at p2'
    by_cases e : p = s 0
    · rw [e]
      refine ⟨n, hv4s, ⟨by omega, by omega⟩, ?_⟩
      rw [spl_at hs2 (10 + s 0), if_neg (by omega), if_neg (by omega), if_neg (by omega), if_neg (by omega), if_neg (by omega), if_pos rfl, spl_at hs2 (14 + s 0), if_neg (by omega), if_neg (by omega), if_neg (by omega), if_neg (by omega), if_pos rfl, spl_at hs2 (18 + s 0), if_neg (by omega), if_neg (by omega), if_neg (by omega), if_pos rfl]
      exact ⟨htn, p0, p1, p2, p3⟩
    · obtain ⟨k, k1, k2⟩ := qP p p1' (by omega)
      refine ⟨k, by show c 4 p = _; rw [hv4 p e]; exact k1, ?_⟩
      have := k2.fr hk (show n ≤ n1 by omega) ht
      unfold rp_P at this ⊢
      rw [spl_e hs2 (z := 10 + p) (by omega) (by omega) (by omega) (by omega) (by omega) (by omega), spl_e hs2 (z := 14 + p) (by omega) (by omega) (by omega) (by omega) (by omega) (by omega), spl_e hs2 (z := 18 + p) (by omega) (by omega) (by omega) (by omega) (by omega) (by omega)]
      exact this
  · intro t t1' t2'
    rw [z1] at t2'
    obtain ⟨k, k1, k2⟩ := qT t t1' t2'
    have em : ms_steps s2 t = ms_steps s t := by
      unfold ms_steps
      rw [hi (171 + t) (by omega), msl_congr (s := s) _ _ (fun z z1 z2 => hi z (by omega))]
    exact ⟨k, by show c 3 t = _; rw [hv3]; exact k1, (k2.fr hk (show n ≤ n1 by omega) ht hcv).ms (hi _ (by omega)) em⟩
theorem cq_ply {s s2 im : Int → Int} {has ran : Int} {bod : Int → Int} {n n1 : Nat} {tau t1 : Nat → Nat × Nat} {vi vl a b : Nat → Int → Int} {vr c : Nat → Int → Option Nat} (hO : xo n tau vr) (hO1 : xo n1 t1 c) (hR : RCl s im has ran bod n tau vi vr) (hS : rp_S 1 s2 n1 t1 a c) (hn : n ≤ n1 ∧ n1 ≤ n + 4) (ht : ∀ k, k < n → t1 k = tau k) (ha : ∀ k, k < n → ¬ k = 1 → ¬ k = 5 → ¬ k = 6 → a k = vi k) (hb : ∀ k, 31 ≤ k ∧ k ≤ 44 → b k = vl k) (hc : ∀ k, k < n → ¬ k = 4 → c k = vr k) (hc4 : ∀ z k, c 4 z = some k → vr 4 z = some k ∨ (k < n1 ∧ xp_K 4 (t1 k).1 ∧ (t1 k).2 = 0)) : cq s2 im has ran bod n tau vi vl n1 t1 a b c := by
  have h45 := hO.1
  obtain ⟨h1, h2, h3, h4, h5, h6, h7, h8, h9, h10⟩ := hR
  refine ⟨hn, ht, hO1, ⟨hS, ?_, ?_, ?_, ?_, h6, ?_, ?_, ?_, ?_⟩, fun k hk => ⟨ha k (by omega) (by omega) (by omega) (by omega), hb k hk⟩⟩
  · rcases h2 with h2 | h2
    · exact Or.inl h2
    · exact Or.inr ⟨h2.1, h2.2.fr (fun k q => ha k (by omega) (by omega) (by omega) (by omega)) hn.1 ht (fun k q => hc k (by omega) (by omega))⟩
  · rw [ha 0 (by omega) (by omega) (by omega) (by omega)]; exact h3
  · rw [ha 30 (by omega) (by omega) (by omega) (by omega)]; exact h4
  · rw [ha 30 (by omega) (by omega) (by omega) (by omega)]; exact h5
  · unfold tri; rw [hc 15 (by omega) (by omega)]; exact h7
  · rw [ha 2 (by omega) (by omega) (by omega) (by omega)]; exact h8
  · rw [ha 9 (by omega) (by omega) (by omega) (by omega)]; exact h9
  · intro z k
    refine ⟨fun q => ?_, fun q => ?_⟩
    · rw [hc 3 (by omega) (by omega), hc 10 (by omega) (by omega)] at q
      have := (h10 z k).1 q
      exact ⟨by omega, by rw [ht k this.1]; exact this.2⟩
    · rw [hc 11 (by omega) (by omega)] at q
      have old : vr 4 z = some k ∨ vr 11 z = some k → k < n1 ∧ xp_K 4 (t1 k).1 ∧ (t1 k).2 = 0 := fun q => by
        have := (h10 z k).2 q
        exact ⟨by omega, by rw [ht k this.1]; exact this.2⟩
      rcases q with q | q
      · rcases hc4 z k q with g | g
        · exact old (Or.inl g)
        · exact g
      · exact old (Or.inr q)
theorem spy_1 {s : Int → Int} {kd v go pu : Int} (h : kd < 0 ∨ 6 < kd) : sp_player s kd v go pu = (-1, s) := by unfold sp_player; rw [if_pos h]
theorem spy_2 {s : Int → Int} {kd v go pu : Int} (h : ¬ (kd < 0 ∨ 6 < kd)) (h2 : v < 0 ∨ 9 < v ∨ go < 2 ∨ 12 < go ∨ pu < 0 ∨ go < pu) : sp_player s kd v go pu = (-2, s) := by unfold sp_player; rw [if_neg h, if_pos h2]
theorem spy_4 {s : Int → Int} {kd v go pu : Int} (h : ¬ (kd < 0 ∨ 6 < kd)) (h2 : ¬ (v < 0 ∨ 9 < v ∨ go < 2 ∨ 12 < go ∨ pu < 0 ∨ go < pu)) (h3 : s 0 = 4) : sp_player s kd v go pu = (-4, s) := by unfold sp_player; rw [if_neg h, if_neg h2, if_pos h3]
theorem spy_0 {s : Int → Int} {kd v go pu : Int} (h : ¬ (kd < 0 ∨ 6 < kd)) (h2 : ¬ (v < 0 ∨ 9 < v ∨ go < 2 ∨ 12 < go ∨ pu < 0 ∨ go < pu)) (h3 : ¬ s 0 = 4) : sp_player s kd v go pu = (s 0, fu (fz (fu (fu (fu (fu s (10 + s 0) kd) (14 + s 0) v) (18 + s 0) go) (22 + s 0) pu) (26 + 4 * s 0) 4) 0 (s 0 + 1)) := by unfold sp_player; rw [if_neg h, if_neg h2, if_neg h3]
theorem py_f4 {v cm vr : Nat → Int → Option Nat} {n : Nat} {s0 : Int} {r : Option Nat} (hv : v = xu cm 4 s0 r) (hcm : cm = xz vr n (fun _ => none)) (hn : 45 ≤ n) : (∀ z, ¬ z = s0 → v 4 z = vr 4 z) ∧ ∀ k, k < n → ¬ k = 4 → v k = vr k := by
  subst hv hcm
  refine ⟨fun z hz => ?_, fun k k1 k2 => ?_⟩
  · rw [xu_n _ _ _ _ (fun h => hz h.2), xz_n _ _ (by omega)]
  · rw [xu_c _ _ _ _ k2, xz_n _ _ (by omega)]
theorem py_6 {f : Int → Int} {s0 a b c d : Int} (ha : a = s0 * 4) (hb : b = s0 * 4 + 1) (hc : c = s0 * 4 + 2) (hd : d = s0 * 4 + 3) (z : Int) : fu (fu (fu (fu f a 0) b 0) c 0) d 0 z = if 4 * s0 ≤ z ∧ z < 4 * s0 + 4 then 0 else f z := by
  unfold fu
  (repeat' split) <;> first | rfl | (exfalso; omega)
set_option maxHeartbeats 4000000 in
set_option maxRecDepth 100000 in
theorem kX11_player (G : xg_T) (d : Nat) (n : Nat) (tau : Nat → Nat × Nat) (vi vl : Nat → Int → Int) (vr : Nat → Int → Option Nat) (hO : xo n tau vr) (s im : Int → Int) (has ran : Int) (bod : Int → Int) (hR : RCl s im has ran bod n tau vi vr) (hV : ms_V s) (hn9 : n + 4 ≤ 100000) (kd v go pu : Int) (hkd : -2147483648 ≤ kd ∧ kd < 2147483648) (hv : -2147483648 ≤ v ∧ v < 2147483648) (hgo : -2147483648 ≤ go ∧ go < 2147483648) (hpu : -2147483648 ≤ pu ∧ pu < 2147483648) : xm G yX11_player cX11_player 7 (some .int) (d + 6) 1 4 [xa_r 0, xa_i kd, xa_i v, xa_i go, xa_i pu] n tau vi vl vr (xp_i (fun z9 n1 t1 a1 b1 c1 => z9 = (sp_player s kd v go pu).1 ∧ cq ((sp_player s kd v go pu).2) (im) (has) (ran) (bod) n tau vi vl n1 t1 a1 b1 c1)) := by
  refine xm.of (lv := [(0, xa_r 0), (1, xa_i kd), (2, xa_i v), (3, xa_i go), (4, xa_i pu)]) (by decide) (Nat.le_of_ble_eq_true rfl) rfl (fun K hC hM hRm => ?_)
  have hS : rp_S 1 s n tau vi vr := hR.1
  obtain ⟨q1, q3, q7, q8, q9, q10, qt, qp, qr, qpl, qtb⟩ := id hS
  have hW : ms_W s := hV.1
  have h60 := hV.2
  obtain ⟨hr, h0, h1, h2, h3, h4, h5, h6, hp0, hrow, hwon, htape, htab⟩ := id hW
  obtain ⟨-, R2, R3, R4, R5, R6, R7, R8, R9, R10⟩ := id hR
  have h45 := hO.1
  refine vx_iload_n hC 1 rfl eX11_player_0 ?_
  refine vx_if_lt hC (tgt := 10) (by omega) (by decide) eX11_player_1 (fun c1 => ?_) (fun c1 => ?_)
  · refine vx_iconst hC eX11_player_10 ?_
    have hE := spy_1 (s := s) (kd := kd) (v := v) (go := go) (pu := pu) (by omega)
    refine vx_up (c1 := 0) (s1 := 0) (by omega) (by omega) ?_
    exact vx_iret hC hM rfl eX11_player_11 (⟨_, rfl, (by rw [hE]), (by rw [hE]; exact cq_ro hO hR (fun k hk => rfl) (fun k hk => rfl))⟩)
  · refine vx_iload_n hC 1 rfl eX11_player_4 ?_
    refine vx_bipush hC (by decide) eX11_player_5 ?_
    refine vx_icmp_lt hC (tgt := 12) (by omega) (by decide) eX11_player_7 (fun c2 => ?_) (fun c2 => ?_)
    · refine vx_iload_n hC 2 rfl eX11_player_12 ?_
      refine vx_callS_i hC (kX11_isDigit G (d + 4) _ _ _ _ _ _ (by omega)) ly_X11_65 rfl hRm (by omega) (Nat.le_of_ble_eq_true rfl) rfl eX11_player_13 (fun x3 n9 t9 a9 b9 c9 hx3 => ?_)
      obtain ⟨hx3, rfl, rfl, rfl, rfl, rfl⟩ := hx3
      refine vx_if_eq hC (tgt := 41) (by omega) (by decide) eX11_player_16 (fun c4 => ?_) (fun c4 => ?_)
      · refine vx_bipush hC (by decide) eX11_player_41 ?_
        have hE := spy_2 (s := s) (kd := kd) (v := v) (go := go) (pu := pu) (by omega) (by omega)
        refine vx_up (c1 := 0) (s1 := 0) (by omega) (by omega) ?_
        exact vx_iret hC hM rfl eX11_player_43 (⟨_, rfl, (by rw [hE]), (by rw [hE]; exact cq_ro hO hR (fun k hk => rfl) (fun k hk => rfl))⟩)
      · refine vx_iload_n hC 3 rfl eX11_player_19 ?_
        refine vx_iconst hC eX11_player_20 ?_
        refine vx_icmp_lt hC (tgt := 41) (by omega) (by decide) eX11_player_21 (fun c5 => ?_) (fun c5 => ?_)
        · refine vx_bipush hC (by decide) eX11_player_41 ?_
          have hE := spy_2 (s := s) (kd := kd) (v := v) (go := go) (pu := pu) (by omega) (by omega)
          refine vx_up (c1 := 0) (s1 := 0) (by omega) (by omega) ?_
          exact vx_iret hC hM rfl eX11_player_43 (⟨_, rfl, (by rw [hE]), (by rw [hE]; exact cq_ro hO hR (fun k hk => rfl) (fun k hk => rfl))⟩)
        · refine vx_iload_n hC 3 rfl eX11_player_24 ?_
          refine vx_bipush hC (by decide) eX11_player_25 ?_
          refine vx_icmp_gt hC (tgt := 41) (by omega) (by decide) eX11_player_27 (fun c6 => ?_) (fun c6 => ?_)
          · refine vx_bipush hC (by decide) eX11_player_41 ?_
            have hE := spy_2 (s := s) (kd := kd) (v := v) (go := go) (pu := pu) (by omega) (by omega)
            refine vx_up (c1 := 0) (s1 := 0) (by omega) (by omega) ?_
            exact vx_iret hC hM rfl eX11_player_43 (⟨_, rfl, (by rw [hE]), (by rw [hE]; exact cq_ro hO hR (fun k hk => rfl) (fun k hk => rfl))⟩)
          · refine vx_iload hC 4 rfl eX11_player_30 ?_
            refine vx_if_lt hC (tgt := 41) (by omega) (by decide) eX11_player_32 (fun c7 => ?_) (fun c7 => ?_)
            · refine vx_bipush hC (by decide) eX11_player_41 ?_
              have hE := spy_2 (s := s) (kd := kd) (v := v) (go := go) (pu := pu) (by omega) (by omega)
              refine vx_up (c1 := 0) (s1 := 0) (by omega) (by omega) ?_
              exact vx_iret hC hM rfl eX11_player_43 (⟨_, rfl, (by rw [hE]), (by rw [hE]; exact cq_ro hO hR (fun k hk => rfl) (fun k hk => rfl))⟩)
            · refine vx_iload hC 4 rfl eX11_player_35 ?_
              refine vx_iload_n hC 3 rfl eX11_player_37 ?_
              refine vx_icmp_le hC (tgt := 44) (by omega) (by decide) eX11_player_38 (fun c8 => ?_) (fun c8 => ?_)
              · refine vx_aload_n hC 0 rfl eX11_player_44 ?_
                refine vx_gr hC 0 (ot_0 hO) lf_X11_12 rfl (or_0_0 hO) eX11_player_45 ?_
                refine vx_gi hC 7 (ot_1 hO) lf_X11_76 rfl eX11_player_48 ?_
                refine vx_eqi q7 ?_
                refine vx_iconst hC eX11_player_51 ?_
                refine vx_icmp_lt hC (tgt := 58) (by omega) (by decide) eX11_player_52 (fun c9 => ?_) (fun c9 => ?_)
                · refine vx_aload_n hC 0 rfl eX11_player_58 ?_
                  refine vx_gr hC 0 (ot_0 hO) lf_X11_12 rfl (or_0_0 hO) eX11_player_59 ?_
                  refine vx_gi hC 7 (ot_1 hO) lf_X11_76 rfl eX11_player_62 ?_
                  refine vx_eqi q7 ?_
                  refine vx_istore hC (lv1 := [(5, xa_i (s 0)), (0, xa_r 0), (1, xa_i kd), (2, xa_i v), (3, xa_i go), (4, xa_i pu)]) (by decide) rfl eX11_player_65 ?_
                  refine vx_aload_n hC 1 rfl eX11_player_67 ?_
                  refine vx_gr hC 0 (ot_0 hO) lf_X11_12 rfl (or_0_0 hO) eX11_player_68 ?_
                  refine vx_gr hC 4 (ot_1 hO) lf_X11_79 rfl (or_1_4 hO) eX11_player_71 ?_
                  refine vx_iload hC 0 rfl eX11_player_74 ?_
                  refine vx_iload_n hC 2 rfl eX11_player_76 ?_
                  refine vx_iload hC 0 rfl eX11_player_77 ?_
                  refine vx_iload_n hC 3 rfl eX11_player_79 ?_
                  refine vx_iload_n hC 4 rfl eX11_player_80 ?_
                  refine vx_callS_q hC (kX11_newPlayer G d _ _ _ _ _ kd (s 0) v go (by omega) (by omega)) ly_X11_83 rfl hRm (by omega) (Nat.le_of_ble_eq_true rfl) rfl eX11_player_81 (fun xm nm tm am bm cm hmd => ?_)
                  obtain ⟨rfl, hnm, htm, ⟨p0, p1, p2, p3⟩, hfm, hbm, hcm⟩ := hmd
                  have hOm : xo nm tm cm := by rw [hnm, htm, hcm]; exact xo_new hO (by omega)
                  have hm_1_1 : am 1 1 = s 3 := by rw [hfm 1 (by omega)]; exact q1
                  have hm_1_3 : am 1 3 = s 1 := by rw [hfm 1 (by omega)]; exact q3
                  have hm_1_7 : am 1 7 = s 0 := by rw [hfm 1 (by omega)]; exact q7
                  have hm_1_8 : am 1 8 = s 5 := by rw [hfm 1 (by omega)]; exact q8
                  have hm_1_9 : am 1 9 = s 2 := by rw [hfm 1 (by omega)]; exact q9
                  have hm_1_10 : am 1 10 = wb s (s 2).toNat := by rw [hfm 1 (by omega)]; exact q10
                  have hm_5 : am 5 = vi 5 := hfm 5 (by omega)
                  have hm_6 : am 6 = vi 6 := hfm 6 (by omega)
                  have frm : ∀ k : Nat, (¬ k = 1 ∧ ¬ k = 5 ∧ ¬ k = 6 ∧ ¬ k = n) → am k = vi k := fun k hk => hfm k (by omega)
                  refine vx_aastore17 hC (ot_4 hOm) (by omega) (by omega) (fun q hq => by cases hq; obtain ⟨C9, T9, N9, g1, g2⟩ := xp_K4 (xp_pn kd); exact ⟨by omega, _, _, C9, T9, N9, (by rw [htm, xz_s]), g1, g2⟩) eX11_player_84 ?_
                  refine vx_vr (fun v10 hv10 => ?_)
                  have hOf : xo nm tm v10 := xo_r hOm (fun k hk => by rw [hv10, xu_c _ _ _ _ (by omega)])
                  refine vx_aload_n hC 1 rfl eX11_player_85 ?_
                  refine vx_gr hC 0 (ot_0 hOf) lf_X11_12 rfl (or_0_0 hOf) eX11_player_86 ?_
                  refine vx_gr hC 5 (ot_1 hOf) lf_X11_87 rfl (or_1_5 hOf) eX11_player_89 ?_
                  refine vx_iload hC 0 rfl eX11_player_92 ?_
                  refine vx_iload hC 5 rfl eX11_player_94 ?_
                  refine vx_iastore hC (ot_5 hOf) (by omega) (by omega) eX11_player_96 ?_
                  refine vx_vi (fun v11 hv11 => ?_)
                  have hv11_1_1 : v11 1 1 = s 3 := by rw [hv11, xu_c _ _ _ _ (by decide), hm_1_1]
                  have hv11_1_3 : v11 1 3 = s 1 := by rw [hv11, xu_c _ _ _ _ (by decide), hm_1_3]
                  have hv11_1_7 : v11 1 7 = s 0 := by rw [hv11, xu_c _ _ _ _ (by decide), hm_1_7]
                  have hv11_1_8 : v11 1 8 = s 5 := by rw [hv11, xu_c _ _ _ _ (by decide), hm_1_8]
                  have hv11_1_9 : v11 1 9 = s 2 := by rw [hv11, xu_c _ _ _ _ (by decide), hm_1_9]
                  have hv11_1_10 : v11 1 10 = wb s (s 2).toNat := by rw [hv11, xu_c _ _ _ _ (by decide), hm_1_10]
                  obtain ⟨f12, hf12⟩ : ∃ f, f = fu (vi 5) (s 0) pu := ⟨_, rfl⟩
                  have hv11_5 : v11 5 = f12 := by rw [hv11, hf12, xu_k, hm_5]
                  have hv11_6 : v11 6 = vi 6 := by rw [hv11, xu_c _ _ _ _ (by decide), hm_6]
                  have hv11_n_0 : v11 n 0 = kd := by rw [hv11, xu_c _ _ _ _ (by omega), p0]
                  have hv11_n_1 : v11 n 1 = s 0 := by rw [hv11, xu_c _ _ _ _ (by omega), p1]
                  have hv11_n_2 : v11 n 2 = v := by rw [hv11, xu_c _ _ _ _ (by omega), p2]
                  have hv11_n_3 : v11 n 3 = go := by rw [hv11, xu_c _ _ _ _ (by omega), p3]
                  have frv11 : ∀ k : Nat, (¬ k = 1 ∧ ¬ k = 5 ∧ ¬ k = 6 ∧ ¬ k = n) → v11 k = vi k := fun k hk => by rw [hv11, xu_c _ _ _ _ (by omega)]; exact frm k hk
                  refine vx_iconst hC eX11_player_97 ?_
                  refine vx_istore hC (lv1 := [(6, xa_i 0), (5, xa_i (s 0)), (0, xa_r 0), (1, xa_i kd), (2, xa_i v), (3, xa_i go), (4, xa_i pu)]) (by decide) rfl eX11_player_98 ?_
                  refine vx_iload hC 0 rfl eX11_player_100 ?_
                  refine vx_iconst hC eX11_player_102 ?_
                  refine vx_icmp_ge hC (tgt := 128) (by omega) (by decide) eX11_player_103 (fun c13 => absurd c13 (by omega)) (fun c13 => ?_)
                  refine vx_aload_n hC 2 rfl eX11_player_106 ?_
                  refine vx_gr hC 0 (ot_0 hOf) lf_X11_12 rfl (or_0_0 hOf) eX11_player_107 ?_
                  refine vx_gr hC 6 (ot_1 hOf) lf_X11_90 rfl (or_1_6 hOf) eX11_player_110 ?_
                  refine vx_iload hC 1 rfl eX11_player_113 ?_
                  refine vx_iconst hC eX11_player_115 ?_
                  refine vx_imul hC eX11_player_116 ?_
                  refine vx_iload hC 0 rfl eX11_player_117 ?_
                  refine vx_iadd hC eX11_player_119 ?_
                  refine vx_iconst hC eX11_player_120 ?_
                  refine vx_top2 (fun x14 hx14 => ?_)
                  refine vx_iastore hC (ot_6 hOf) (by omega) (by omega) eX11_player_121 ?_
                  refine vx_vi (fun v15 hv15 => ?_)
                  have hv15_1_1 : v15 1 1 = s 3 := by rw [hv15, xu_c _ _ _ _ (by decide), hv11_1_1]
                  have hv15_1_3 : v15 1 3 = s 1 := by rw [hv15, xu_c _ _ _ _ (by decide), hv11_1_3]
                  have hv15_1_7 : v15 1 7 = s 0 := by rw [hv15, xu_c _ _ _ _ (by decide), hv11_1_7]
                  have hv15_1_8 : v15 1 8 = s 5 := by rw [hv15, xu_c _ _ _ _ (by decide), hv11_1_8]
                  have hv15_1_9 : v15 1 9 = s 2 := by rw [hv15, xu_c _ _ _ _ (by decide), hv11_1_9]
                  have hv15_1_10 : v15 1 10 = wb s (s 2).toNat := by rw [hv15, xu_c _ _ _ _ (by decide), hv11_1_10]
                  have hv15_5 : v15 5 = f12 := by rw [hv15, xu_c _ _ _ _ (by decide), hv11_5]
                  obtain ⟨f16, hf16⟩ : ∃ f, f = fu (vi 6) x14 0 := ⟨_, rfl⟩
                  have hv15_6 : v15 6 = f16 := by rw [hv15, hf16, xu_k, hv11_6]
                  have hv15_n_0 : v15 n 0 = kd := by rw [hv15, xu_c _ _ _ _ (by omega), hv11_n_0]
                  have hv15_n_1 : v15 n 1 = s 0 := by rw [hv15, xu_c _ _ _ _ (by omega), hv11_n_1]
                  have hv15_n_2 : v15 n 2 = v := by rw [hv15, xu_c _ _ _ _ (by omega), hv11_n_2]
                  have hv15_n_3 : v15 n 3 = go := by rw [hv15, xu_c _ _ _ _ (by omega), hv11_n_3]
                  have frv15 : ∀ k : Nat, (¬ k = 1 ∧ ¬ k = 5 ∧ ¬ k = 6 ∧ ¬ k = n) → v15 k = vi k := fun k hk => by rw [hv15, xu_c _ _ _ _ (by omega)]; exact frv11 k hk
                  refine vx_iinc hC (lv1 := [(6, xa_i (0 + 1)), (5, xa_i (s 0)), (0, xa_r 0), (1, xa_i kd), (2, xa_i v), (3, xa_i go), (4, xa_i pu)]) 0 rfl (by decide) rfl eX11_player_122 ?_
                  refine vx_goto hC (tgt := 100) (by decide) eX11_player_125 ?_
                  refine vx_iload hC 0 rfl eX11_player_100 ?_
                  refine vx_iconst hC eX11_player_102 ?_
                  refine vx_icmp_ge hC (tgt := 128) (by omega) (by decide) eX11_player_103 (fun c17 => absurd c17 (by omega)) (fun c17 => ?_)
                  refine vx_aload_n hC 2 rfl eX11_player_106 ?_
                  refine vx_gr hC 0 (ot_0 hOf) lf_X11_12 rfl (or_0_0 hOf) eX11_player_107 ?_
                  refine vx_gr hC 6 (ot_1 hOf) lf_X11_90 rfl (or_1_6 hOf) eX11_player_110 ?_
                  refine vx_iload hC 1 rfl eX11_player_113 ?_
                  refine vx_iconst hC eX11_player_115 ?_
                  refine vx_imul hC eX11_player_116 ?_
                  refine vx_iload hC 0 rfl eX11_player_117 ?_
                  refine vx_iadd hC eX11_player_119 ?_
                  refine vx_iconst hC eX11_player_120 ?_
                  refine vx_top2 (fun x18 hx18 => ?_)
                  refine vx_iastore hC (ot_6 hOf) (by omega) (by omega) eX11_player_121 ?_
                  refine vx_vi (fun v19 hv19 => ?_)
                  have hv19_1_1 : v19 1 1 = s 3 := by rw [hv19, xu_c _ _ _ _ (by decide), hv15_1_1]
                  have hv19_1_3 : v19 1 3 = s 1 := by rw [hv19, xu_c _ _ _ _ (by decide), hv15_1_3]
                  have hv19_1_7 : v19 1 7 = s 0 := by rw [hv19, xu_c _ _ _ _ (by decide), hv15_1_7]
                  have hv19_1_8 : v19 1 8 = s 5 := by rw [hv19, xu_c _ _ _ _ (by decide), hv15_1_8]
                  have hv19_1_9 : v19 1 9 = s 2 := by rw [hv19, xu_c _ _ _ _ (by decide), hv15_1_9]
                  have hv19_1_10 : v19 1 10 = wb s (s 2).toNat := by rw [hv19, xu_c _ _ _ _ (by decide), hv15_1_10]
                  have hv19_5 : v19 5 = f12 := by rw [hv19, xu_c _ _ _ _ (by decide), hv15_5]
                  obtain ⟨f20, hf20⟩ : ∃ f, f = fu (f16) x18 0 := ⟨_, rfl⟩
                  have hv19_6 : v19 6 = f20 := by rw [hv19, hf20, xu_k, hv15_6]
                  have hv19_n_0 : v19 n 0 = kd := by rw [hv19, xu_c _ _ _ _ (by omega), hv15_n_0]
                  have hv19_n_1 : v19 n 1 = s 0 := by rw [hv19, xu_c _ _ _ _ (by omega), hv15_n_1]
                  have hv19_n_2 : v19 n 2 = v := by rw [hv19, xu_c _ _ _ _ (by omega), hv15_n_2]
                  have hv19_n_3 : v19 n 3 = go := by rw [hv19, xu_c _ _ _ _ (by omega), hv15_n_3]
                  have frv19 : ∀ k : Nat, (¬ k = 1 ∧ ¬ k = 5 ∧ ¬ k = 6 ∧ ¬ k = n) → v19 k = vi k := fun k hk => by rw [hv19, xu_c _ _ _ _ (by omega)]; exact frv15 k hk
                  refine vx_iinc hC (lv1 := [(6, xa_i ((0 + 1) + 1)), (5, xa_i (s 0)), (0, xa_r 0), (1, xa_i kd), (2, xa_i v), (3, xa_i go), (4, xa_i pu)]) 0 rfl (by decide) rfl eX11_player_122 ?_
                  refine vx_goto hC (tgt := 100) (by decide) eX11_player_125 ?_
                  refine vx_iload hC 0 rfl eX11_player_100 ?_
                  refine vx_iconst hC eX11_player_102 ?_
                  refine vx_icmp_ge hC (tgt := 128) (by omega) (by decide) eX11_player_103 (fun c21 => absurd c21 (by omega)) (fun c21 => ?_)
                  refine vx_aload_n hC 2 rfl eX11_player_106 ?_
                  refine vx_gr hC 0 (ot_0 hOf) lf_X11_12 rfl (or_0_0 hOf) eX11_player_107 ?_
                  refine vx_gr hC 6 (ot_1 hOf) lf_X11_90 rfl (or_1_6 hOf) eX11_player_110 ?_
                  refine vx_iload hC 1 rfl eX11_player_113 ?_
                  refine vx_iconst hC eX11_player_115 ?_
                  refine vx_imul hC eX11_player_116 ?_
                  refine vx_iload hC 0 rfl eX11_player_117 ?_
                  refine vx_iadd hC eX11_player_119 ?_
                  refine vx_iconst hC eX11_player_120 ?_
                  refine vx_top2 (fun x22 hx22 => ?_)
                  refine vx_iastore hC (ot_6 hOf) (by omega) (by omega) eX11_player_121 ?_
                  refine vx_vi (fun v23 hv23 => ?_)
                  have hv23_1_1 : v23 1 1 = s 3 := by rw [hv23, xu_c _ _ _ _ (by decide), hv19_1_1]
                  have hv23_1_3 : v23 1 3 = s 1 := by rw [hv23, xu_c _ _ _ _ (by decide), hv19_1_3]
                  have hv23_1_7 : v23 1 7 = s 0 := by rw [hv23, xu_c _ _ _ _ (by decide), hv19_1_7]
                  have hv23_1_8 : v23 1 8 = s 5 := by rw [hv23, xu_c _ _ _ _ (by decide), hv19_1_8]
                  have hv23_1_9 : v23 1 9 = s 2 := by rw [hv23, xu_c _ _ _ _ (by decide), hv19_1_9]
                  have hv23_1_10 : v23 1 10 = wb s (s 2).toNat := by rw [hv23, xu_c _ _ _ _ (by decide), hv19_1_10]
                  have hv23_5 : v23 5 = f12 := by rw [hv23, xu_c _ _ _ _ (by decide), hv19_5]
                  obtain ⟨f24, hf24⟩ : ∃ f, f = fu (f20) x22 0 := ⟨_, rfl⟩
                  have hv23_6 : v23 6 = f24 := by rw [hv23, hf24, xu_k, hv19_6]
                  have hv23_n_0 : v23 n 0 = kd := by rw [hv23, xu_c _ _ _ _ (by omega), hv19_n_0]
                  have hv23_n_1 : v23 n 1 = s 0 := by rw [hv23, xu_c _ _ _ _ (by omega), hv19_n_1]
                  have hv23_n_2 : v23 n 2 = v := by rw [hv23, xu_c _ _ _ _ (by omega), hv19_n_2]
                  have hv23_n_3 : v23 n 3 = go := by rw [hv23, xu_c _ _ _ _ (by omega), hv19_n_3]
                  have frv23 : ∀ k : Nat, (¬ k = 1 ∧ ¬ k = 5 ∧ ¬ k = 6 ∧ ¬ k = n) → v23 k = vi k := fun k hk => by rw [hv23, xu_c _ _ _ _ (by omega)]; exact frv19 k hk
                  refine vx_iinc hC (lv1 := [(6, xa_i (((0 + 1) + 1) + 1)), (5, xa_i (s 0)), (0, xa_r 0), (1, xa_i kd), (2, xa_i v), (3, xa_i go), (4, xa_i pu)]) 0 rfl (by decide) rfl eX11_player_122 ?_
                  refine vx_goto hC (tgt := 100) (by decide) eX11_player_125 ?_
                  refine vx_iload hC 0 rfl eX11_player_100 ?_
                  refine vx_iconst hC eX11_player_102 ?_
                  refine vx_icmp_ge hC (tgt := 128) (by omega) (by decide) eX11_player_103 (fun c25 => absurd c25 (by omega)) (fun c25 => ?_)
                  refine vx_aload_n hC 2 rfl eX11_player_106 ?_
                  refine vx_gr hC 0 (ot_0 hOf) lf_X11_12 rfl (or_0_0 hOf) eX11_player_107 ?_
                  refine vx_gr hC 6 (ot_1 hOf) lf_X11_90 rfl (or_1_6 hOf) eX11_player_110 ?_
                  refine vx_iload hC 1 rfl eX11_player_113 ?_
                  refine vx_iconst hC eX11_player_115 ?_
                  refine vx_imul hC eX11_player_116 ?_
                  refine vx_iload hC 0 rfl eX11_player_117 ?_
                  refine vx_iadd hC eX11_player_119 ?_
                  refine vx_iconst hC eX11_player_120 ?_
                  refine vx_top2 (fun x26 hx26 => ?_)
                  refine vx_iastore hC (ot_6 hOf) (by omega) (by omega) eX11_player_121 ?_
                  refine vx_vi (fun v27 hv27 => ?_)
                  have hv27_1_1 : v27 1 1 = s 3 := by rw [hv27, xu_c _ _ _ _ (by decide), hv23_1_1]
                  have hv27_1_3 : v27 1 3 = s 1 := by rw [hv27, xu_c _ _ _ _ (by decide), hv23_1_3]
                  have hv27_1_7 : v27 1 7 = s 0 := by rw [hv27, xu_c _ _ _ _ (by decide), hv23_1_7]
                  have hv27_1_8 : v27 1 8 = s 5 := by rw [hv27, xu_c _ _ _ _ (by decide), hv23_1_8]
                  have hv27_1_9 : v27 1 9 = s 2 := by rw [hv27, xu_c _ _ _ _ (by decide), hv23_1_9]
                  have hv27_1_10 : v27 1 10 = wb s (s 2).toNat := by rw [hv27, xu_c _ _ _ _ (by decide), hv23_1_10]
                  have hv27_5 : v27 5 = f12 := by rw [hv27, xu_c _ _ _ _ (by decide), hv23_5]
                  obtain ⟨f28, hf28⟩ : ∃ f, f = fu (f24) x26 0 := ⟨_, rfl⟩
                  have hv27_6 : v27 6 = f28 := by rw [hv27, hf28, xu_k, hv23_6]
                  have hv27_n_0 : v27 n 0 = kd := by rw [hv27, xu_c _ _ _ _ (by omega), hv23_n_0]
                  have hv27_n_1 : v27 n 1 = s 0 := by rw [hv27, xu_c _ _ _ _ (by omega), hv23_n_1]
                  have hv27_n_2 : v27 n 2 = v := by rw [hv27, xu_c _ _ _ _ (by omega), hv23_n_2]
                  have hv27_n_3 : v27 n 3 = go := by rw [hv27, xu_c _ _ _ _ (by omega), hv23_n_3]
                  have frv27 : ∀ k : Nat, (¬ k = 1 ∧ ¬ k = 5 ∧ ¬ k = 6 ∧ ¬ k = n) → v27 k = vi k := fun k hk => by rw [hv27, xu_c _ _ _ _ (by omega)]; exact frv23 k hk
                  refine vx_iinc hC (lv1 := [(6, xa_i ((((0 + 1) + 1) + 1) + 1)), (5, xa_i (s 0)), (0, xa_r 0), (1, xa_i kd), (2, xa_i v), (3, xa_i go), (4, xa_i pu)]) 0 rfl (by decide) rfl eX11_player_122 ?_
                  refine vx_goto hC (tgt := 100) (by decide) eX11_player_125 ?_
                  refine vx_iload hC 0 rfl eX11_player_100 ?_
                  refine vx_iconst hC eX11_player_102 ?_
                  refine vx_icmp_ge hC (tgt := 128) (by omega) (by decide) eX11_player_103 (fun c29 => ?_) (fun c29 => absurd c29 (by omega))
                  refine vx_aload_n hC 2 rfl eX11_player_128 ?_
                  refine vx_gr hC 0 (ot_0 hOf) lf_X11_12 rfl (or_0_0 hOf) eX11_player_129 ?_
                  refine vx_dup hC rfl eX11_player_132 ?_
                  refine vx_gi hC 7 (ot_1 hOf) lf_X11_76 rfl eX11_player_133 ?_
                  refine vx_eqi hv27_1_7 ?_
                  refine vx_iconst hC eX11_player_136 ?_
                  refine vx_iadd hC eX11_player_137 ?_
                  refine vx_top (fun x30 hx30 => ?_)
                  refine vx_pi hC 7 (ot_1 hOf) lp_X11_76 rfl (Or.inl rfl) (Or.inl rfl) eX11_player_138 ?_
                  refine vx_vi (fun v31 hv31 => ?_)
                  have hv31_1_1 : v31 1 1 = s 3 := by rw [hv31, xu_k, fu_n _ _ _ (by decide), hv27_1_1]
                  have hv31_1_3 : v31 1 3 = s 1 := by rw [hv31, xu_k, fu_n _ _ _ (by decide), hv27_1_3]
                  have hv31_1_7 : v31 1 7 = x30 := by rw [hv31, xu_k, fu_s]
                  have hv31_1_8 : v31 1 8 = s 5 := by rw [hv31, xu_k, fu_n _ _ _ (by decide), hv27_1_8]
                  have hv31_1_9 : v31 1 9 = s 2 := by rw [hv31, xu_k, fu_n _ _ _ (by decide), hv27_1_9]
                  have hv31_1_10 : v31 1 10 = wb s (s 2).toNat := by rw [hv31, xu_k, fu_n _ _ _ (by decide), hv27_1_10]
                  have hv31_5 : v31 5 = f12 := by rw [hv31, xu_c _ _ _ _ (by decide), hv27_5]
                  have hv31_6 : v31 6 = f28 := by rw [hv31, xu_c _ _ _ _ (by decide), hv27_6]
                  have hv31_n_0 : v31 n 0 = kd := by rw [hv31, xu_c _ _ _ _ (by omega), hv27_n_0]
                  have hv31_n_1 : v31 n 1 = s 0 := by rw [hv31, xu_c _ _ _ _ (by omega), hv27_n_1]
                  have hv31_n_2 : v31 n 2 = v := by rw [hv31, xu_c _ _ _ _ (by omega), hv27_n_2]
                  have hv31_n_3 : v31 n 3 = go := by rw [hv31, xu_c _ _ _ _ (by omega), hv27_n_3]
                  have frv31 : ∀ k : Nat, (¬ k = 1 ∧ ¬ k = 5 ∧ ¬ k = 6 ∧ ¬ k = n) → v31 k = vi k := fun k hk => by rw [hv31, xu_c _ _ _ _ (by omega)]; exact frv27 k hk
                  refine vx_iload hC 1 rfl eX11_player_141 ?_
                  have hE := spy_0 (s := s) (kd := kd) (v := v) (go := go) (pu := pu) (by omega) (by omega) (by omega)
                  obtain ⟨s2, hs2⟩ : ∃ f : Int → Int, f = fu (fz (fu (fu (fu (fu s (10 + s 0) kd) (14 + s 0) v) (18 + s 0) go) (22 + s 0) pu) (26 + 4 * s 0) 4) 0 (s 0 + 1) := ⟨_, rfl⟩
                  rw [← hs2] at hE
                  obtain ⟨f4, fc2⟩ := py_f4 hv10 hcm h45.1
                  have f4s : v10 4 (s 0) = some n := by rw [hv10, xu_s]
                  have htk : ∀ k, k < n → tm k = tau k := fun k hk => by rw [htm, xz_n _ _ (by omega)]
                  have htn : tm n = (pn kd, 0) := by rw [htm, xz_s]
                  have g6 : ∀ z, v31 6 z = if 4 * s 0 ≤ z ∧ z < 4 * s 0 + 4 then 0 else vi 6 z := fun z => by
                    rw [hv31_6, hf28, hf24, hf20, hf16]
                    exact py_6 (by omega) (by omega) (by omega) (by omega) z
                  have fa : ∀ k, k < n → ¬ k = 1 → ¬ k = 5 → ¬ k = 6 → v31 k = vi k := fun k k0 k1 k2 k3 => frv31 k (by omega)
                  have hS2 : rp_S 1 s2 nm tm v31 v10 := cs_player (vl := vi) (b := vi) hS hV hs2 (by omega) hv31_1_1 hv31_1_3 (by rw [hv31_1_7] <;> omega) hv31_1_8 hv31_1_9 hv31_1_10 (fa 2 (by omega) (by omega) (by omega) (by omega)) (by rw [hv31_5, hf12]) g6 (fun k q => fa k (by omega) (by omega) (by omega) (by omega)) hnm (by omega) htk htn hv31_n_0 hv31_n_1 hv31_n_2 hv31_n_3 (fc2 3 (by omega) (by decide)) f4 f4s (fun k q => fc2 k (by omega) (by omega))
                  refine vx_up (c1 := 0 + 1) (s1 := 0 + 4) (by omega) (by omega) ?_
                  exact vx_iret hC hM rfl eX11_player_143 (⟨_, rfl, (by rw [hE]), (by rw [hE]; exact cq_ply hO hOf hR hS2 (by omega) htk fa (fun k q => by rw [hbm, xz_n _ _ (by omega)]) fc2 (fun z k hz => by by_cases e9 : z = s 0; (rw [e9, f4s] at hz; cases hz; exact Or.inr ⟨by omega, (by rw [htn]; exact xp_pn kd), (by rw [htn])⟩); (rw [f4 z e9] at hz; exact Or.inl hz)))⟩)
                · refine vx_bipush hC (by decide) eX11_player_55 ?_
                  have hE := spy_4 (s := s) (kd := kd) (v := v) (go := go) (pu := pu) (by omega) (by omega) (by omega)
                  refine vx_up (c1 := 0) (s1 := 0) (by omega) (by omega) ?_
                  exact vx_iret hC hM rfl eX11_player_57 (⟨_, rfl, (by rw [hE]), (by rw [hE]; exact cq_ro hO hR (fun k hk => rfl) (fun k hk => rfl))⟩)
              · refine vx_bipush hC (by decide) eX11_player_41 ?_
                have hE := spy_2 (s := s) (kd := kd) (v := v) (go := go) (pu := pu) (by omega) (by omega)
                refine vx_up (c1 := 0) (s1 := 0) (by omega) (by omega) ?_
                exact vx_iret hC hM rfl eX11_player_43 (⟨_, rfl, (by rw [hE]), (by rw [hE]; exact cq_ro hO hR (fun k hk => rfl) (fun k hk => rfl))⟩)
    · refine vx_iconst hC eX11_player_10 ?_
      have hE := spy_1 (s := s) (kd := kd) (v := v) (go := go) (pu := pu) (by omega)
      refine vx_up (c1 := 0) (s1 := 0) (by omega) (by omega) ?_
      exact vx_iret hC hM rfl eX11_player_11 (⟨_, rfl, (by rw [hE]), (by rw [hE]; exact cq_ro hO hR (fun k hk => rfl) (fun k hk => rfl))⟩)
