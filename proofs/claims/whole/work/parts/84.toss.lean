set_option maxHeartbeats 4000000 in
set_option maxRecDepth 100000 in
theorem kX6_addToss (G : xg_T) (d : Nat) (n : Nat) (tau : Nat → Nat × Nat) (vi vl : Nat → Int → Int) (vr : Nat → Int → Option Nat) (hO : xo n tau vr) (s : Int → Int) (hS : rp_S 1 s n tau vi vr) (hV : ms_V s) (x : Int) (hx : x = 0 ∨ x = 1) (h24 : s 2 < 24) : xm G yX6_addToss cX6_addToss 2 none (d + 1) 0 0 [xa_r 1, xa_i x] n tau vi vl vr (xp_v (fun n1 t1 a1 b1 c1 => (a1 1 1 = s 3) ∧ (a1 1 3 = s 1) ∧ (a1 1 7 = s 0) ∧ (a1 1 8 = s 5) ∧ (a1 1 9 = s 2 + 1) ∧ (a1 1 10 = (if x = 0 then wb s (s 2).toNat else wb s (s 2).toNat + (2 : Int) ^ (s 2).toNat)) ∧ xs_I (fun k => ¬ k = 1) n tau vi vl vr n1 t1 a1 b1 c1)) := by
  refine xm.of (lv := [(0, xa_r 1), (1, xa_i x)]) (by decide) (Nat.le_of_ble_eq_true rfl) rfl (fun K hC hM hRm => ?_)
  obtain ⟨q1, q3, q7, q8, q9, q10, qt, qp, qr, qpl, qtb⟩ := id hS
  have hW : ms_W s := hV.1
  have h60 := hV.2
  obtain ⟨hr, h0, h1, h2, h3, h4, h5, h6, hp0, hrow, hwon, htape, htab⟩ := id hW
  have hwr := wb_r (s := s) (s 2).toNat (fun k hk => hwon (42 + (k : Int)) (by omega) (by omega))
  refine vx_iload_n hC 1 rfl eX6_addToss_0 ?_
  refine vx_if_eq hC (tgt := 19) (by omega) (by decide) eX6_addToss_1 (fun c1 => ?_) (fun c1 => ?_)
  · refine vx_aload_n hC 0 rfl eX6_addToss_19 ?_
    refine vx_dup hC rfl eX6_addToss_20 ?_
    refine vx_gi hC 9 (ot_1 hO) lf_X6_56 rfl eX6_addToss_21 ?_
    refine vx_eqi q9 ?_
    refine vx_iconst hC eX6_addToss_24 ?_
    refine vx_iadd hC eX6_addToss_25 ?_
    refine vx_top (fun x2 hx2 => ?_)
    refine vx_pi hC 9 (ot_1 hO) lp_X6_56 rfl (Or.inl rfl) (Or.inl rfl) eX6_addToss_26 ?_
    refine vx_vi (fun v3 hv3 => ?_)
    have hv3_1_1 : v3 1 1 = s 3 := by rw [hv3, xu_k, fu_n _ _ _ (by decide), q1]
    have hv3_1_3 : v3 1 3 = s 1 := by rw [hv3, xu_k, fu_n _ _ _ (by decide), q3]
    have hv3_1_7 : v3 1 7 = s 0 := by rw [hv3, xu_k, fu_n _ _ _ (by decide), q7]
    have hv3_1_8 : v3 1 8 = s 5 := by rw [hv3, xu_k, fu_n _ _ _ (by decide), q8]
    have hv3_1_9 : v3 1 9 = x2 := by rw [hv3, xu_k, fu_s]
    have hv3_1_10 : v3 1 10 = wb s (s 2).toNat := by rw [hv3, xu_k, fu_n _ _ _ (by decide), q10]
    have frv3 : ∀ k : Nat, (¬ k = 1) → v3 k = vi k := fun k hk => by rw [hv3, xu_c _ _ _ _ (by omega)]
    exact vx_vret hC hM eX6_addToss_29 (⟨rfl, hv3_1_1, hv3_1_3, hv3_1_7, hv3_1_8, (by rw [hv3_1_9]; omega), (by rw [hv3_1_10]; first | (simp only [hx2]; done) | omega), rfl, rfl, rfl, rfl, fun k hk => frv3 k hk⟩)
  · refine vx_aload_n hC 0 rfl eX6_addToss_4 ?_
    refine vx_dup hC rfl eX6_addToss_5 ?_
    refine vx_gi hC 10 (ot_1 hO) lf_X6_59 rfl eX6_addToss_6 ?_
    refine vx_eqi q10 ?_
    refine vx_iconst hC eX6_addToss_9 ?_
    refine vx_aload_n hC 0 rfl eX6_addToss_10 ?_
    refine vx_gi hC 9 (ot_1 hO) lf_X6_56 rfl eX6_addToss_11 ?_
    refine vx_eqi q9 ?_
    refine vx_ishl hC eX6_addToss_14 ?_
    refine vx_eqi (y := (2 : Int) ^ (s 2).toNat) (by have g9 := b3_sl (t := (s 2).toNat) (by omega); rw [show (((s 2).toNat : Nat) : Int) = s 2 by omega] at g9; exact g9) ?_
    refine vx_ior hC eX6_addToss_15 ?_
    refine vx_eqi (y := wb s (s 2).toNat + (2 : Int) ^ (s 2).toNat) (b3_or (by omega) hwr) ?_
    refine vx_top (fun x4 hx4 => ?_)
    refine vx_pi hC 10 (ot_1 hO) lp_X6_59 rfl (Or.inl rfl) (Or.inl rfl) eX6_addToss_16 ?_
    refine vx_vi (fun v5 hv5 => ?_)
    have hv5_1_1 : v5 1 1 = s 3 := by rw [hv5, xu_k, fu_n _ _ _ (by decide), q1]
    have hv5_1_3 : v5 1 3 = s 1 := by rw [hv5, xu_k, fu_n _ _ _ (by decide), q3]
    have hv5_1_7 : v5 1 7 = s 0 := by rw [hv5, xu_k, fu_n _ _ _ (by decide), q7]
    have hv5_1_8 : v5 1 8 = s 5 := by rw [hv5, xu_k, fu_n _ _ _ (by decide), q8]
    have hv5_1_9 : v5 1 9 = s 2 := by rw [hv5, xu_k, fu_n _ _ _ (by decide), q9]
    have hv5_1_10 : v5 1 10 = x4 := by rw [hv5, xu_k, fu_s]
    have frv5 : ∀ k : Nat, (¬ k = 1) → v5 k = vi k := fun k hk => by rw [hv5, xu_c _ _ _ _ (by omega)]
    refine vx_aload_n hC 0 rfl eX6_addToss_19 ?_
    refine vx_dup hC rfl eX6_addToss_20 ?_
    refine vx_gi hC 9 (ot_1 hO) lf_X6_56 rfl eX6_addToss_21 ?_
    refine vx_eqi hv5_1_9 ?_
    refine vx_iconst hC eX6_addToss_24 ?_
    refine vx_iadd hC eX6_addToss_25 ?_
    refine vx_top (fun x6 hx6 => ?_)
    refine vx_pi hC 9 (ot_1 hO) lp_X6_56 rfl (Or.inl rfl) (Or.inl rfl) eX6_addToss_26 ?_
    refine vx_vi (fun v7 hv7 => ?_)
    have hv7_1_1 : v7 1 1 = s 3 := by rw [hv7, xu_k, fu_n _ _ _ (by decide), hv5_1_1]
    have hv7_1_3 : v7 1 3 = s 1 := by rw [hv7, xu_k, fu_n _ _ _ (by decide), hv5_1_3]
    have hv7_1_7 : v7 1 7 = s 0 := by rw [hv7, xu_k, fu_n _ _ _ (by decide), hv5_1_7]
    have hv7_1_8 : v7 1 8 = s 5 := by rw [hv7, xu_k, fu_n _ _ _ (by decide), hv5_1_8]
    have hv7_1_9 : v7 1 9 = x6 := by rw [hv7, xu_k, fu_s]
    have hv7_1_10 : v7 1 10 = x4 := by rw [hv7, xu_k, fu_n _ _ _ (by decide), hv5_1_10]
    have frv7 : ∀ k : Nat, (¬ k = 1) → v7 k = vi k := fun k hk => by rw [hv7, xu_c _ _ _ _ (by omega)]; exact frv5 k hk
    exact vx_vret hC hM eX6_addToss_29 (⟨rfl, hv7_1_1, hv7_1_3, hv7_1_7, hv7_1_8, (by rw [hv7_1_9]; omega), (by rw [hv7_1_10]; first | (simp only [hx4, hx6]; done) | omega), rfl, rfl, rfl, rfl, fun k hk => frv7 k hk⟩)
