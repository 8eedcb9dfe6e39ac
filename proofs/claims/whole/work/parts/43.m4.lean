set_option maxHeartbeats 4000000 in
set_option maxRecDepth 100000 in
theorem kX12_act (G : xg_T) (d : Nat) (n : Nat) (tau : Nat → Nat × Nat) (vi vl : Nat → Int → Int) (vr : Nat → Int → Option Nat) (hI : MI n tau vi vr) (q a x : Int) (hq : -2147483648 ≤ q ∧ q < 2147483648) (ha : -2147483648 ≤ a ∧ a < 2147483648) : xm G yX12_act cX12_act 4 (some .int) (d + 8) 0 0 [xa_r 31, xa_i q, xa_i a, xa_i x] n tau vi vl vr (xp_i (fun z9 n1 t1 a1 b1 c1 => z9 = (sp_act (vi 32) q a x).1 ∧ mq (vi 32) (vi 33) (vi 31 3) (((sp_act (vi 32) q a x).2.length : Int)) (bput (vi 44) 0 (sp_act (vi 32) q a x).2) n tau vi vl vr n1 t1 a1 b1 c1)) := by
  refine xm.of (lv := [(0, xa_r 31), (1, xa_i q), (2, xa_i a), (3, xa_i x)]) (by decide) (Nat.le_of_ble_eq_true rfl) rfl (fun K hC hM hRm => ?_)
  obtain ⟨hO, ⟨⟨hr, h0, h1, h2, h3, h4, h5, h6, hp0, hrow, hwon, htape, htab⟩, h60⟩, him, hran, hz1, hz2⟩ := hI
  have g1 := hr (10 + q)
  have g2 := hr (14 + q)
  refine vx_aload_n hC 0 rfl eX12_act_0 ?_
  refine vx_iconst hC eX12_act_1 ?_
  refine vx_pi hC 22 (ot_31 hO) lp_X12_219 rfl (Or.inl rfl) (Or.inl rfl) eX12_act_2 ?_
  refine vx_vi (fun v1 hv1 => ?_)
  have hv1_32 : v1 32 = vi 32 := by rw [hv1, xu_c _ _ _ _ (by decide)]
  have hv1_33 : v1 33 = vi 33 := by rw [hv1, xu_c _ _ _ _ (by decide)]
  have hv1_31_3 : v1 31 3 = vi 31 3 := by rw [hv1, xu_k, fu_n _ _ _ (by decide)]
  have hv1_31_22 : v1 31 22 = 0 := by rw [hv1, xu_k, fu_s]
  have hv1_44 : v1 44 = vi 44 := by rw [hv1, xu_c _ _ _ _ (by decide)]
  have hv1_31_23 : v1 31 23 = vi 31 23 := by rw [hv1, xu_k, fu_n _ _ _ (by decide)]
  have hv1_31_24 : v1 31 24 = vi 31 24 := by rw [hv1, xu_k, fu_n _ _ _ (by decide)]
  have hv1_31_25 : v1 31 25 = vi 31 25 := by rw [hv1, xu_k, fu_n _ _ _ (by decide)]
  have frv1 : ∀ k : Nat, (k < 31 ∨ 44 < k) → v1 k = vi k := fun k hk => by rw [hv1, xu_c _ _ _ _ (by omega)]
  refine vx_aload_n hC 0 rfl eX12_act_5 ?_
  refine vx_iload_n hC 1 rfl eX12_act_6 ?_
  refine vx_callV_i hC (kX12_isPlayer G (d + 5) _ _ _ _ _ hO (vi 32) hv1_32 _ (by omega) (by omega)) ly_X12_140 (ot_31 hO) rfl rfl rfl hRm (by omega) (Nat.le_of_ble_eq_true rfl) rfl eX12_act_7 (fun x2 n9 t9 a9 b9 c9 hx2 => ?_)
  obtain ⟨hx2, rfl, rfl, rfl, rfl, rfl⟩ := hx2
  refine vx_if_eq hC (tgt := 22) (by omega) (by decide) eX12_act_10 (fun c3 => ?_) (fun c3 => ?_)
  · refine vx_iconst hC eX12_act_22 ?_
    exact vx_iret hC hM rfl eX12_act_23 (⟨_, rfl, by unfold sp_act; (repeat (first | rw [if_pos (by omega)] | rw [if_neg (by omega)])); all_goals (first | rfl | simp only [*]), rfl, rfl, rfl, hv1_32, hv1_33, hv1_31_3, (by unfold sp_act; (repeat (first | rw [if_pos (by omega)] | rw [if_neg (by omega)])); all_goals (first | exact hv1_31_22 | (rw [hv1_31_22]; simp only [Int.zero_add, ]) | (rw [hv1_31_22]; simp))), (by unfold sp_act; (repeat (first | rw [if_pos (by omega)] | rw [if_neg (by omega)])); all_goals (first | exact hv1_44 | (rw [hv1_44]; simp only []) | rfl)), fun k hk => ⟨frv1 k hk, rfl⟩⟩)
  · refine vx_iload_n hC 2 rfl eX12_act_13 ?_
    refine vx_iconst hC eX12_act_14 ?_
    refine vx_iconst hC eX12_act_15 ?_
    refine vx_callS_i hC (kX12_in G (d + 6) _ _ _ _ _ _ _ _ (by omega) (by omega) (by omega)) ly_X12_57 rfl hRm (by omega) (Nat.le_of_ble_eq_true rfl) rfl eX12_act_16 (fun x4 n9 t9 a9 b9 c9 hx4 => ?_)
    obtain ⟨hx4, rfl, rfl, rfl, rfl, rfl⟩ := hx4
    refine vx_if_ne hC (tgt := 24) (by omega) (by decide) eX12_act_19 (fun c5 => ?_) (fun c5 => ?_)
    · refine vx_aload_n hC 0 rfl eX12_act_24 ?_
      refine vx_aload_n hC 0 rfl eX12_act_25 ?_
      refine vx_gr hC 1 (ot_31 hO) lf_X12_9 rfl (or_31_1 hO) eX12_act_26 ?_
      refine vx_bipush hC (by decide) eX12_act_29 ?_
      refine vx_iload_n hC 1 rfl eX12_act_31 ?_
      refine vx_iadd hC eX12_act_32 ?_
      refine vx_iaload hC (ot_32 hO) (by omega) (by omega) eX12_act_33 ?_
      refine vx_eqi (congrFun hv1_32 _) ?_
      refine vx_top (fun x6 hx6 => ?_)
      refine vx_pi hC 23 (ot_31 hO) lp_X12_228 rfl (Or.inl rfl) (Or.inl rfl) eX12_act_34 ?_
      refine vx_vi (fun v7 hv7 => ?_)
      have hv7_32 : v7 32 = vi 32 := by rw [hv7, xu_c _ _ _ _ (by decide), hv1_32]
      have hv7_33 : v7 33 = vi 33 := by rw [hv7, xu_c _ _ _ _ (by decide), hv1_33]
      have hv7_31_3 : v7 31 3 = vi 31 3 := by rw [hv7, xu_k, fu_n _ _ _ (by decide), hv1_31_3]
      have hv7_31_22 : v7 31 22 = 0 := by rw [hv7, xu_k, fu_n _ _ _ (by decide), hv1_31_22]
      have hv7_44 : v7 44 = vi 44 := by rw [hv7, xu_c _ _ _ _ (by decide), hv1_44]
      have hv7_31_23 : v7 31 23 = x6 := by rw [hv7, xu_k, fu_s]
      have hv7_31_24 : v7 31 24 = vi 31 24 := by rw [hv7, xu_k, fu_n _ _ _ (by decide), hv1_31_24]
      have hv7_31_25 : v7 31 25 = vi 31 25 := by rw [hv7, xu_k, fu_n _ _ _ (by decide), hv1_31_25]
      have frv7 : ∀ k : Nat, (k < 31 ∨ 44 < k) → v7 k = vi k := fun k hk => by rw [hv7, xu_c _ _ _ _ (by omega)]; exact frv1 k hk
      have hq9 := (hp0 q (by omega) (by omega)).1
      refine vx_aload_n hC 0 rfl eX12_act_37 ?_
      refine vx_iload_n hC 1 rfl eX12_act_38 ?_
      refine vx_pi hC 24 (ot_31 hO) lp_X12_225 rfl (Or.inl rfl) (Or.inl rfl) eX12_act_39 ?_
      refine vx_vi (fun v8 hv8 => ?_)
      have hv8_32 : v8 32 = vi 32 := by rw [hv8, xu_c _ _ _ _ (by decide), hv7_32]
      have hv8_33 : v8 33 = vi 33 := by rw [hv8, xu_c _ _ _ _ (by decide), hv7_33]
      have hv8_31_3 : v8 31 3 = vi 31 3 := by rw [hv8, xu_k, fu_n _ _ _ (by decide), hv7_31_3]
      have hv8_31_22 : v8 31 22 = 0 := by rw [hv8, xu_k, fu_n _ _ _ (by decide), hv7_31_22]
      have hv8_44 : v8 44 = vi 44 := by rw [hv8, xu_c _ _ _ _ (by decide), hv7_44]
      have hv8_31_23 : v8 31 23 = x6 := by rw [hv8, xu_k, fu_n _ _ _ (by decide), hv7_31_23]
      have hv8_31_24 : v8 31 24 = q := by rw [hv8, xu_k, fu_s]
      have hv8_31_25 : v8 31 25 = vi 31 25 := by rw [hv8, xu_k, fu_n _ _ _ (by decide), hv7_31_25]
      have frv8 : ∀ k : Nat, (k < 31 ∨ 44 < k) → v8 k = vi k := fun k hk => by rw [hv8, xu_c _ _ _ _ (by omega)]; exact frv7 k hk
      refine vx_aload_n hC 0 rfl eX12_act_42 ?_
      refine vx_aload_n hC 0 rfl eX12_act_43 ?_
      refine vx_gr hC 1 (ot_31 hO) lf_X12_9 rfl (or_31_1 hO) eX12_act_44 ?_
      refine vx_bipush hC (by decide) eX12_act_47 ?_
      refine vx_iload_n hC 1 rfl eX12_act_49 ?_
      refine vx_iadd hC eX12_act_50 ?_
      refine vx_iaload hC (ot_32 hO) (by omega) (by omega) eX12_act_51 ?_
      refine vx_eqi (congrFun hv8_32 _) ?_
      refine vx_top (fun x9 hx9 => ?_)
      refine vx_pi hC 25 (ot_31 hO) lp_X12_242 rfl (Or.inl rfl) (Or.inl rfl) eX12_act_52 ?_
      refine vx_vi (fun v10 hv10 => ?_)
      have hv10_32 : v10 32 = vi 32 := by rw [hv10, xu_c _ _ _ _ (by decide), hv8_32]
      have hv10_33 : v10 33 = vi 33 := by rw [hv10, xu_c _ _ _ _ (by decide), hv8_33]
      have hv10_31_3 : v10 31 3 = vi 31 3 := by rw [hv10, xu_k, fu_n _ _ _ (by decide), hv8_31_3]
      have hv10_31_22 : v10 31 22 = 0 := by rw [hv10, xu_k, fu_n _ _ _ (by decide), hv8_31_22]
      have hv10_44 : v10 44 = vi 44 := by rw [hv10, xu_c _ _ _ _ (by decide), hv8_44]
      have hv10_31_23 : v10 31 23 = x6 := by rw [hv10, xu_k, fu_n _ _ _ (by decide), hv8_31_23]
      have hv10_31_24 : v10 31 24 = q := by rw [hv10, xu_k, fu_n _ _ _ (by decide), hv8_31_24]
      have hv10_31_25 : v10 31 25 = x9 := by rw [hv10, xu_k, fu_s]
      have frv10 : ∀ k : Nat, (k < 31 ∨ 44 < k) → v10 k = vi k := fun k hk => by rw [hv10, xu_c _ _ _ _ (by omega)]; exact frv8 k hk
      refine vx_iload_n hC 2 rfl eX12_act_55 ?_
      refine vx_if_ne hC (tgt := 67) (by omega) (by decide) eX12_act_56 (fun c11 => ?_) (fun c11 => ?_)
      · refine vx_iload_n hC 2 rfl eX12_act_67 ?_
        refine vx_iconst hC eX12_act_68 ?_
        refine vx_icmp_ne hC (tgt := 80) (by omega) (by decide) eX12_act_69 (fun c12 => ?_) (fun c12 => ?_)
        · refine vx_aload_n hC 0 rfl eX12_act_80 ?_
          refine vx_iload_n hC 3 rfl eX12_act_81 ?_
          refine vx_callV_i hC (kX12_countsActs G d _ _ _ _ _ hO x6 q x9 (0) hv10_31_22 hv10_31_23 hv10_31_24 hv10_31_25 (by omega) x (by omega)) ly_X12_254 (ot_31 hO) rfl rfl rfl hRm (by omega) (Nat.le_of_ble_eq_true rfl) rfl eX12_act_82 (fun x13 ng14 tg14 ag14 bg14 cg14 hg14 => ?_)
          obtain ⟨hx13, qg14_0, qg14_1, qg14_2, qg14_3, qg14_4, qg14_5, rfl, rfl, rfl, rfl, frg14⟩ := hg14
          have hg14_32 : ag14 32 = vi 32 := (frg14 32 (by omega)).trans hv10_32
          have hg14_33 : ag14 33 = vi 33 := (frg14 33 (by omega)).trans hv10_33
          have qg14_4b : ag14 31 3 = vi 31 3 := by first | exact qg14_4 | rw [qg14_4, hv10_31_3] | (rw [qg14_4]; exact hv10_31_3)
          have qg14_0b : ag14 31 22 = 0 + ((a_C x6 q x9 x).2.length : Int) := by first | exact qg14_0 | rw [qg14_0, hv10_31_22] | (rw [qg14_0]; exact hv10_31_22)
          have qg14_5b : ag14 44 = bput (vi 44) (0) (a_C x6 q x9 x).2 := by first | exact qg14_5 | rw [qg14_5, hv10_44] | (rw [qg14_5]; exact hv10_44)
          have qg14_1b : ag14 31 23 = x6 := by first | exact qg14_1 | rw [qg14_1, hv10_31_23] | (rw [qg14_1]; exact hv10_31_23)
          have qg14_2b : ag14 31 24 = q := by first | exact qg14_2 | rw [qg14_2, hv10_31_24] | (rw [qg14_2]; exact hv10_31_24)
          have qg14_3b : ag14 31 25 = x9 := by first | exact qg14_3 | rw [qg14_3, hv10_31_25] | (rw [qg14_3]; exact hv10_31_25)
          have frvig14 : ∀ k : Nat, (k < 31 ∨ 44 < k) → ag14 k = vi k := fun k hk => (frg14 k (by omega)).trans (frv10 k hk)
          exact vx_iret hC hM rfl eX12_act_85 (⟨_, rfl, by unfold sp_act; (repeat (first | rw [if_pos (by omega)] | rw [if_neg (by omega)])); all_goals (first | rfl | simp only [*]), rfl, rfl, rfl, hg14_32, hg14_33, qg14_4b, (by unfold sp_act; (repeat (first | rw [if_pos (by omega)] | rw [if_neg (by omega)])); all_goals (first | exact qg14_0b | (rw [qg14_0b]; simp only [Int.zero_add, hx6, hx9]) | (rw [qg14_0b]; simp))), (by unfold sp_act; (repeat (first | rw [if_pos (by omega)] | rw [if_neg (by omega)])); all_goals (first | exact qg14_5b | (rw [qg14_5b]; simp only [hx6, hx9]) | rfl)), fun k hk => ⟨frvig14 k hk, rfl⟩⟩)
        · refine vx_aload_n hC 0 rfl eX12_act_72 ?_
          refine vx_iload_n hC 3 rfl eX12_act_73 ?_
          refine vx_callV_i hC (kX12_throwsActs G (d + 2) _ _ _ _ _ hO x6 q x9 (0) hv10_31_22 hv10_31_23 hv10_31_24 hv10_31_25 (by omega) x (by omega)) ly_X12_248 (ot_31 hO) rfl rfl rfl hRm (by omega) (Nat.le_of_ble_eq_true rfl) rfl eX12_act_74 (fun x15 ng16 tg16 ag16 bg16 cg16 hg16 => ?_)
          obtain ⟨hx15, qg16_0, qg16_1, qg16_2, qg16_3, qg16_4, qg16_5, rfl, rfl, rfl, rfl, frg16⟩ := hg16
          have hg16_32 : ag16 32 = vi 32 := (frg16 32 (by omega)).trans hv10_32
          have hg16_33 : ag16 33 = vi 33 := (frg16 33 (by omega)).trans hv10_33
          have qg16_4b : ag16 31 3 = vi 31 3 := by first | exact qg16_4 | rw [qg16_4, hv10_31_3] | (rw [qg16_4]; exact hv10_31_3)
          have qg16_0b : ag16 31 22 = 0 + ((a_T x6 q x9 x).2.length : Int) := by first | exact qg16_0 | rw [qg16_0, hv10_31_22] | (rw [qg16_0]; exact hv10_31_22)
          have qg16_5b : ag16 44 = bput (vi 44) (0) (a_T x6 q x9 x).2 := by first | exact qg16_5 | rw [qg16_5, hv10_44] | (rw [qg16_5]; exact hv10_44)
          have qg16_1b : ag16 31 23 = x6 := by first | exact qg16_1 | rw [qg16_1, hv10_31_23] | (rw [qg16_1]; exact hv10_31_23)
          have qg16_2b : ag16 31 24 = q := by first | exact qg16_2 | rw [qg16_2, hv10_31_24] | (rw [qg16_2]; exact hv10_31_24)
          have qg16_3b : ag16 31 25 = x9 := by first | exact qg16_3 | rw [qg16_3, hv10_31_25] | (rw [qg16_3]; exact hv10_31_25)
          have frvig16 : ∀ k : Nat, (k < 31 ∨ 44 < k) → ag16 k = vi k := fun k hk => (frg16 k (by omega)).trans (frv10 k hk)
          refine vx_goto hC (tgt := 85) (by decide) eX12_act_77 ?_
          exact vx_iret hC hM rfl eX12_act_85 (⟨_, rfl, by unfold sp_act; (repeat (first | rw [if_pos (by omega)] | rw [if_neg (by omega)])); all_goals (first | rfl | simp only [*]), rfl, rfl, rfl, hg16_32, hg16_33, qg16_4b, (by unfold sp_act; (repeat (first | rw [if_pos (by omega)] | rw [if_neg (by omega)])); all_goals (first | exact qg16_0b | (rw [qg16_0b]; simp only [Int.zero_add, hx6, hx9]) | (rw [qg16_0b]; simp))), (by unfold sp_act; (repeat (first | rw [if_pos (by omega)] | rw [if_neg (by omega)])); all_goals (first | exact qg16_5b | (rw [qg16_5b]; simp only [hx6, hx9]) | rfl)), fun k hk => ⟨frvig16 k hk, rfl⟩⟩)
      · refine vx_aload_n hC 0 rfl eX12_act_59 ?_
        refine vx_iload_n hC 3 rfl eX12_act_60 ?_
        refine vx_callV_i hC (kX12_stakesActs G (d + 4) _ _ _ _ _ hO x6 q x9 (0) hv10_31_22 hv10_31_23 hv10_31_24 hv10_31_25 (by omega) x (by omega)) ly_X12_239 (ot_31 hO) rfl rfl rfl hRm (by omega) (Nat.le_of_ble_eq_true rfl) rfl eX12_act_61 (fun x17 ng18 tg18 ag18 bg18 cg18 hg18 => ?_)
        obtain ⟨hx17, qg18_0, qg18_1, qg18_2, qg18_3, qg18_4, qg18_5, rfl, rfl, rfl, rfl, frg18⟩ := hg18
        have hg18_32 : ag18 32 = vi 32 := (frg18 32 (by omega)).trans hv10_32
        have hg18_33 : ag18 33 = vi 33 := (frg18 33 (by omega)).trans hv10_33
        have qg18_4b : ag18 31 3 = vi 31 3 := by first | exact qg18_4 | rw [qg18_4, hv10_31_3] | (rw [qg18_4]; exact hv10_31_3)
        have qg18_0b : ag18 31 22 = 0 + ((a_S x6 q x).2.length : Int) := by first | exact qg18_0 | rw [qg18_0, hv10_31_22] | (rw [qg18_0]; exact hv10_31_22)
        have qg18_5b : ag18 44 = bput (vi 44) (0) (a_S x6 q x).2 := by first | exact qg18_5 | rw [qg18_5, hv10_44] | (rw [qg18_5]; exact hv10_44)
        have qg18_1b : ag18 31 23 = x6 := by first | exact qg18_1 | rw [qg18_1, hv10_31_23] | (rw [qg18_1]; exact hv10_31_23)
        have qg18_2b : ag18 31 24 = q := by first | exact qg18_2 | rw [qg18_2, hv10_31_24] | (rw [qg18_2]; exact hv10_31_24)
        have qg18_3b : ag18 31 25 = x9 := by first | exact qg18_3 | rw [qg18_3, hv10_31_25] | (rw [qg18_3]; exact hv10_31_25)
        have frvig18 : ∀ k : Nat, (k < 31 ∨ 44 < k) → ag18 k = vi k := fun k hk => (frg18 k (by omega)).trans (frv10 k hk)
        refine vx_goto hC (tgt := 85) (by decide) eX12_act_64 ?_
        exact vx_iret hC hM rfl eX12_act_85 (⟨_, rfl, by unfold sp_act; (repeat (first | rw [if_pos (by omega)] | rw [if_neg (by omega)])); all_goals (first | rfl | simp only [*]), rfl, rfl, rfl, hg18_32, hg18_33, qg18_4b, (by unfold sp_act; (repeat (first | rw [if_pos (by omega)] | rw [if_neg (by omega)])); all_goals (first | exact qg18_0b | (rw [qg18_0b]; simp only [Int.zero_add, hx6, hx9]) | (rw [qg18_0b]; simp))), (by unfold sp_act; (repeat (first | rw [if_pos (by omega)] | rw [if_neg (by omega)])); all_goals (first | exact qg18_5b | (rw [qg18_5b]; simp only [hx6, hx9]) | rfl)), fun k hk => ⟨frvig18 k hk, rfl⟩⟩)
    · refine vx_iconst hC eX12_act_22 ?_
      exact vx_iret hC hM rfl eX12_act_23 (⟨_, rfl, by unfold sp_act; (repeat (first | rw [if_pos (by omega)] | rw [if_neg (by omega)])); all_goals (first | rfl | simp only [*]), rfl, rfl, rfl, hv1_32, hv1_33, hv1_31_3, (by unfold sp_act; (repeat (first | rw [if_pos (by omega)] | rw [if_neg (by omega)])); all_goals (first | exact hv1_31_22 | (rw [hv1_31_22]; simp only [Int.zero_add, ]) | (rw [hv1_31_22]; simp))), (by unfold sp_act; (repeat (first | rw [if_pos (by omega)] | rw [if_neg (by omega)])); all_goals (first | exact hv1_44 | (rw [hv1_44]; simp only []) | rfl)), fun k hk => ⟨frv1 k hk, rfl⟩⟩)
