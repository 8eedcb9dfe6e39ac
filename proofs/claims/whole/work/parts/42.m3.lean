/-- a row with k noughts from a on -/
def fz (f : Int → Int) (a k : Int) : Int → Int := fun z => if a ≤ z ∧ z < a + k then 0 else f z
theorem fz_0 (f : Int → Int) (a : Int) : fz f a 0 = f := by funext z; unfold fz; rw [if_neg (by omega)]
theorem fz_s (f : Int → Int) (a : Int) {k : Int} (h : 0 ≤ k) : fu (fz f a k) (a + k) 0 = fz f a (k + 1) := by
  funext z; unfold fu fz
  by_cases e : z = a + k
  · rw [if_pos e, if_pos (by omega)]
  · rw [if_neg e]
    by_cases h2 : a ≤ z ∧ z < a + k
    · rw [if_pos h2, if_pos (by omega)]
    · rw [if_neg h2, if_neg (by omega)]
def sp_player (s : Int → Int) (kd v go pu : Int) : Int × (Int → Int) := if kd < 0 ∨ 6 < kd then (-1, s) else if v < 0 ∨ 9 < v ∨ go < 2 ∨ 12 < go ∨ pu < 0 ∨ go < pu then (-2, s) else if s 0 = 4 then (-4, s) else (s 0, fu (fz (fu (fu (fu (fu s (10 + s 0) kd) (14 + s 0) v) (18 + s 0) go) (22 + s 0) pu) (26 + 4 * s 0) 4) 0 (s 0 + 1))
set_option maxHeartbeats 4000000 in
set_option maxRecDepth 100000 in
theorem kX12_player (G : xg_T) (d : Nat) (n : Nat) (tau : Nat → Nat × Nat) (vi vl : Nat → Int → Int) (vr : Nat → Int → Option Nat) (hI : MI n tau vi vr) (kd v go pu : Int) (hkd : -2147483648 ≤ kd ∧ kd < 2147483648) (hv : -2147483648 ≤ v ∧ v < 2147483648) (hgo : -2147483648 ≤ go ∧ go < 2147483648) (hpu : -2147483648 ≤ pu ∧ pu < 2147483648) : xm G yX12_player cX12_player 7 (some .int) (d + 2) 0 0 [xa_r 31, xa_i kd, xa_i v, xa_i go, xa_i pu] n tau vi vl vr (xp_i (fun z9 n1 t1 a1 b1 c1 => z9 = (sp_player (vi 32) kd v go pu).1 ∧ mq ((sp_player (vi 32) kd v go pu).2) (vi 33) (vi 31 3) (vi 31 22) (vi 44) n tau vi vl vr n1 t1 a1 b1 c1)) := by
  refine xm.of (lv := [(0, xa_r 31), (1, xa_i kd), (2, xa_i v), (3, xa_i go), (4, xa_i pu)]) (by decide) (Nat.le_of_ble_eq_true rfl) rfl (fun K hC hM hRm => ?_)
  obtain ⟨hO, ⟨⟨hr, h0, h1, h2, h3, h4, h5, h6, hp0, hrow, hwon, htape, htab⟩, h60⟩, him, hran, hz1, hz2⟩ := hI
  refine vx_iload_n hC 1 rfl eX12_player_0 ?_
  refine vx_iconst hC eX12_player_1 ?_
  refine vx_bipush hC (by decide) eX12_player_2 ?_
  refine vx_callS_i hC (kX12_in G d _ _ _ _ _ _ _ _ (by omega) (by omega) (by omega)) ly_X12_57 rfl hRm (by omega) (Nat.le_of_ble_eq_true rfl) rfl eX12_player_4 (fun x1 n9 t9 a9 b9 c9 hx1 => ?_)
  obtain ⟨hx1, rfl, rfl, rfl, rfl, rfl⟩ := hx1
  refine vx_if_ne hC (tgt := 12) (by omega) (by decide) eX12_player_7 (fun c2 => ?_) (fun c2 => ?_)
  · refine vx_iload_n hC 2 rfl eX12_player_12 ?_
    refine vx_iconst hC eX12_player_13 ?_
    refine vx_bipush hC (by decide) eX12_player_14 ?_
    refine vx_callS_i hC (kX12_in G d _ _ _ _ _ _ _ _ (by omega) (by omega) (by omega)) ly_X12_57 rfl hRm (by omega) (Nat.le_of_ble_eq_true rfl) rfl eX12_player_16 (fun x3 n9 t9 a9 b9 c9 hx3 => ?_)
    obtain ⟨hx3, rfl, rfl, rfl, rfl, rfl⟩ := hx3
    refine vx_if_eq hC (tgt := 42) (by omega) (by decide) eX12_player_19 (fun c4 => ?_) (fun c4 => ?_)
    · refine vx_bipush hC (by decide) eX12_player_42 ?_
      exact vx_iret hC hM rfl eX12_player_44 (⟨_, rfl, by subst_vars; unfold sp_player; (repeat (first | rw [if_pos (by omega)] | rw [if_neg (by omega)])); all_goals (first | rfl | omega), rfl, rfl, rfl, (by (first | (obtain rfl : k = 4 := by omega) | skip); subst_vars; unfold sp_player; (repeat (first | rw [if_pos (by omega)] | rw [if_neg (by omega)])); all_goals (rfl)), rfl, rfl, rfl, rfl, fun k hk => ⟨rfl, rfl⟩⟩)
    · refine vx_iload_n hC 3 rfl eX12_player_22 ?_
      refine vx_iconst hC eX12_player_23 ?_
      refine vx_bipush hC (by decide) eX12_player_24 ?_
      refine vx_callS_i hC (kX12_in G d _ _ _ _ _ _ _ _ (by omega) (by omega) (by omega)) ly_X12_57 rfl hRm (by omega) (Nat.le_of_ble_eq_true rfl) rfl eX12_player_26 (fun x5 n9 t9 a9 b9 c9 hx5 => ?_)
      obtain ⟨hx5, rfl, rfl, rfl, rfl, rfl⟩ := hx5
      refine vx_if_eq hC (tgt := 42) (by omega) (by decide) eX12_player_29 (fun c6 => ?_) (fun c6 => ?_)
      · refine vx_bipush hC (by decide) eX12_player_42 ?_
        exact vx_iret hC hM rfl eX12_player_44 (⟨_, rfl, by subst_vars; unfold sp_player; (repeat (first | rw [if_pos (by omega)] | rw [if_neg (by omega)])); all_goals (first | rfl | omega), rfl, rfl, rfl, (by (first | (obtain rfl : k = 4 := by omega) | skip); subst_vars; unfold sp_player; (repeat (first | rw [if_pos (by omega)] | rw [if_neg (by omega)])); all_goals (rfl)), rfl, rfl, rfl, rfl, fun k hk => ⟨rfl, rfl⟩⟩)
      · refine vx_iload hC 4 rfl eX12_player_32 ?_
        refine vx_iconst hC eX12_player_34 ?_
        refine vx_iload_n hC 3 rfl eX12_player_35 ?_
        refine vx_callS_i hC (kX12_in G d _ _ _ _ _ _ _ _ (by omega) (by omega) (by omega)) ly_X12_57 rfl hRm (by omega) (Nat.le_of_ble_eq_true rfl) rfl eX12_player_36 (fun x7 n9 t9 a9 b9 c9 hx7 => ?_)
        obtain ⟨hx7, rfl, rfl, rfl, rfl, rfl⟩ := hx7
        refine vx_if_ne hC (tgt := 45) (by omega) (by decide) eX12_player_39 (fun c8 => ?_) (fun c8 => ?_)
        · refine vx_aload_n hC 0 rfl eX12_player_45 ?_
          refine vx_gr hC 1 (ot_31 hO) lf_X12_9 rfl (or_31_1 hO) eX12_player_46 ?_
          refine vx_iconst hC eX12_player_49 ?_
          refine vx_iaload hC (ot_32 hO) (by omega) (by omega) eX12_player_50 ?_
          refine vx_iconst hC eX12_player_51 ?_
          refine vx_icmp_ne hC (tgt := 58) (by omega) (by decide) eX12_player_52 (fun c9 => ?_) (fun c9 => ?_)
          · refine vx_aload_n hC 0 rfl eX12_player_58 ?_
            refine vx_gr hC 1 (ot_31 hO) lf_X12_9 rfl (or_31_1 hO) eX12_player_59 ?_
            refine vx_iconst hC eX12_player_62 ?_
            refine vx_iaload hC (ot_32 hO) (by omega) (by omega) eX12_player_63 ?_
            refine vx_top (fun x10 hx10 => ?_)
            refine vx_istore hC (lv1 := [(5, xa_i x10), (0, xa_r 31), (1, xa_i kd), (2, xa_i v), (3, xa_i go), (4, xa_i pu)]) (by decide) rfl eX12_player_64 ?_
            refine vx_aload_n hC 1 rfl eX12_player_66 ?_
            refine vx_gr hC 1 (ot_31 hO) lf_X12_9 rfl (or_31_1 hO) eX12_player_67 ?_
            refine vx_bipush hC (by decide) eX12_player_70 ?_
            refine vx_iload hC 0 rfl eX12_player_72 ?_
            refine vx_iadd hC eX12_player_74 ?_
            refine vx_iload_n hC 2 rfl eX12_player_75 ?_
            refine vx_top2 (fun x11 hx11 => ?_)
            refine vx_iastore hC (ot_32 hO) (by omega) (by omega) eX12_player_76 ?_
            refine vx_vi (fun v12 hv12 => ?_)
            obtain ⟨f13, hf13⟩ : ∃ f, f = fu (vi 32) x11 kd := ⟨_, rfl⟩
            have hv12_32 : v12 32 = f13 := by rw [hv12, hf13, xu_k]
            have hv12_33 : v12 33 = vi 33 := by rw [hv12, xu_c _ _ _ _ (by decide)]
            have hv12_31_3 : v12 31 3 = vi 31 3 := by rw [hv12, xu_c _ _ _ _ (by decide)]
            have hv12_31_22 : v12 31 22 = vi 31 22 := by rw [hv12, xu_c _ _ _ _ (by decide)]
            have hv12_44 : v12 44 = vi 44 := by rw [hv12, xu_c _ _ _ _ (by decide)]
            have frv12 : ∀ k : Nat, (k < 31 ∨ 44 < k) → v12 k = vi k := fun k hk => by rw [hv12, xu_c _ _ _ _ (by omega)]
            refine vx_aload_n hC 1 rfl eX12_player_77 ?_
            refine vx_gr hC 1 (ot_31 hO) lf_X12_9 rfl (or_31_1 hO) eX12_player_78 ?_
            refine vx_bipush hC (by decide) eX12_player_81 ?_
            refine vx_iload hC 0 rfl eX12_player_83 ?_
            refine vx_iadd hC eX12_player_85 ?_
            refine vx_iload_n hC 3 rfl eX12_player_86 ?_
            refine vx_top2 (fun x14 hx14 => ?_)
            refine vx_iastore hC (ot_32 hO) (by omega) (by omega) eX12_player_87 ?_
            refine vx_vi (fun v15 hv15 => ?_)
            obtain ⟨f16, hf16⟩ : ∃ f, f = fu (f13) x14 v := ⟨_, rfl⟩
            have hv15_32 : v15 32 = f16 := by rw [hv15, hf16, xu_k, hv12_32]
            have hv15_33 : v15 33 = vi 33 := by rw [hv15, xu_c _ _ _ _ (by decide), hv12_33]
            have hv15_31_3 : v15 31 3 = vi 31 3 := by rw [hv15, xu_c _ _ _ _ (by decide), hv12_31_3]
            have hv15_31_22 : v15 31 22 = vi 31 22 := by rw [hv15, xu_c _ _ _ _ (by decide), hv12_31_22]
            have hv15_44 : v15 44 = vi 44 := by rw [hv15, xu_c _ _ _ _ (by decide), hv12_44]
            have frv15 : ∀ k : Nat, (k < 31 ∨ 44 < k) → v15 k = vi k := fun k hk => by rw [hv15, xu_c _ _ _ _ (by omega)]; exact frv12 k hk
            refine vx_aload_n hC 1 rfl eX12_player_88 ?_
            refine vx_gr hC 1 (ot_31 hO) lf_X12_9 rfl (or_31_1 hO) eX12_player_89 ?_
            refine vx_bipush hC (by decide) eX12_player_92 ?_
            refine vx_iload hC 0 rfl eX12_player_94 ?_
            refine vx_iadd hC eX12_player_96 ?_
            refine vx_iload_n hC 4 rfl eX12_player_97 ?_
            refine vx_top2 (fun x17 hx17 => ?_)
            refine vx_iastore hC (ot_32 hO) (by omega) (by omega) eX12_player_98 ?_
            refine vx_vi (fun v18 hv18 => ?_)
            obtain ⟨f19, hf19⟩ : ∃ f, f = fu (f16) x17 go := ⟨_, rfl⟩
            have hv18_32 : v18 32 = f19 := by rw [hv18, hf19, xu_k, hv15_32]
            have hv18_33 : v18 33 = vi 33 := by rw [hv18, xu_c _ _ _ _ (by decide), hv15_33]
            have hv18_31_3 : v18 31 3 = vi 31 3 := by rw [hv18, xu_c _ _ _ _ (by decide), hv15_31_3]
            have hv18_31_22 : v18 31 22 = vi 31 22 := by rw [hv18, xu_c _ _ _ _ (by decide), hv15_31_22]
            have hv18_44 : v18 44 = vi 44 := by rw [hv18, xu_c _ _ _ _ (by decide), hv15_44]
            have frv18 : ∀ k : Nat, (k < 31 ∨ 44 < k) → v18 k = vi k := fun k hk => by rw [hv18, xu_c _ _ _ _ (by omega)]; exact frv15 k hk
            refine vx_aload_n hC 1 rfl eX12_player_99 ?_
            refine vx_gr hC 1 (ot_31 hO) lf_X12_9 rfl (or_31_1 hO) eX12_player_100 ?_
            refine vx_bipush hC (by decide) eX12_player_103 ?_
            refine vx_iload hC 0 rfl eX12_player_105 ?_
            refine vx_iadd hC eX12_player_107 ?_
            refine vx_iload hC 5 rfl eX12_player_108 ?_
            refine vx_top2 (fun x20 hx20 => ?_)
            refine vx_iastore hC (ot_32 hO) (by omega) (by omega) eX12_player_110 ?_
            refine vx_vi (fun v21 hv21 => ?_)
            obtain ⟨f22, hf22⟩ : ∃ f, f = fu (f19) x20 pu := ⟨_, rfl⟩
            have hv21_32 : v21 32 = f22 := by rw [hv21, hf22, xu_k, hv18_32]
            have hv21_33 : v21 33 = vi 33 := by rw [hv21, xu_c _ _ _ _ (by decide), hv18_33]
            have hv21_31_3 : v21 31 3 = vi 31 3 := by rw [hv21, xu_c _ _ _ _ (by decide), hv18_31_3]
            have hv21_31_22 : v21 31 22 = vi 31 22 := by rw [hv21, xu_c _ _ _ _ (by decide), hv18_31_22]
            have hv21_44 : v21 44 = vi 44 := by rw [hv21, xu_c _ _ _ _ (by decide), hv18_44]
            have frv21 : ∀ k : Nat, (k < 31 ∨ 44 < k) → v21 k = vi k := fun k hk => by rw [hv21, xu_c _ _ _ _ (by omega)]; exact frv18 k hk
            refine vx_iconst hC eX12_player_111 ?_
            refine vx_istore hC (lv1 := [(6, xa_i 0), (5, xa_i x10), (0, xa_r 31), (1, xa_i kd), (2, xa_i v), (3, xa_i go), (4, xa_i pu)]) (by decide) rfl eX12_player_112 ?_
            have LP114 : ∀ (j : Nat) (k : Int) (m2 : Nat → Int → Int) (hk : 0 ≤ k ∧ k ≤ 4) (e1 : m2 32 = fz (f22) (26 + 4 * x10) k) (e2 : m2 33 = vi 33) (e3 : m2 31 3 = vi 31 3) (e4 : m2 31 22 = vi 31 22) (e5 : m2 44 = vi 44) (fr2 : ∀ q : Nat, q < 31 ∨ 44 < q → m2 q = vi q) (hj : 4 - k < (j : Int)), xv G K 7 (xk_Q G K (xp_i (fun z9 n1 t1 a1 b1 c1 => z9 = (sp_player (vi 32) kd v go pu).1 ∧ mq ((sp_player (vi 32) kd v go pu).2) (vi 33) (vi 31 3) (vi 31 22) (vi 44) n tau vi vl vr n1 t1 a1 b1 c1)) 0 0) 0 0 n tau m2 vl vr 114 [(6, xa_i k), (5, xa_i x10), (0, xa_r 31), (1, xa_i kd), (2, xa_i v), (3, xa_i go), (4, xa_i pu)] [] := by
              intro j
              induction j with
              | zero => intro k m2 hk e1 e2 e3 e4 e5 fr2 hj; exfalso; omega
              | succ j ih =>
                intro k m2 hk e1 e2 e3 e4 e5 fr2 hj
                refine vx_iload hC 0 rfl eX12_player_114 ?_
                refine vx_iconst hC eX12_player_116 ?_
                refine vx_icmp_ge hC (tgt := 142) (by omega) (by decide) eX12_player_117 (fun c23 => ?_) (fun c23 => ?_)
                · refine vx_aload_n hC 2 rfl eX12_player_142 ?_
                  refine vx_gr hC 1 (ot_31 hO) lf_X12_9 rfl (or_31_1 hO) eX12_player_143 ?_
                  refine vx_iconst hC eX12_player_146 ?_
                  refine vx_dup2 hC rfl rfl eX12_player_147 ?_
                  refine vx_iaload hC (ot_32 hO) (by omega) (by omega) eX12_player_148 ?_
                  refine vx_eqi (congrFun e1 _) ?_
                  refine vx_eqi (y := vi 32 0) (by subst_vars; simp only [fz, fu]; rw [if_neg (by omega), if_neg (by omega), if_neg (by omega), if_neg (by omega), if_neg (by omega)]) ?_
                  refine vx_iconst hC eX12_player_149 ?_
                  refine vx_iadd hC eX12_player_150 ?_
                  refine vx_top (fun x24 hx24 => ?_)
                  refine vx_iastore hC (ot_32 hO) (by omega) (by omega) eX12_player_151 ?_
                  refine vx_vi (fun v25 hv25 => ?_)
                  obtain ⟨f26, hf26⟩ : ∃ f, f = fu (fz (f22) (26 + 4 * x10) k) 0 x24 := ⟨_, rfl⟩
                  have hv25_32 : v25 32 = f26 := by rw [hv25, hf26, xu_k, e1]
                  have hv25_33 : v25 33 = vi 33 := by rw [hv25, xu_c _ _ _ _ (by decide), e2]
                  have hv25_31_3 : v25 31 3 = vi 31 3 := by rw [hv25, xu_c _ _ _ _ (by decide), e3]
                  have hv25_31_22 : v25 31 22 = vi 31 22 := by rw [hv25, xu_c _ _ _ _ (by decide), e4]
                  have hv25_44 : v25 44 = vi 44 := by rw [hv25, xu_c _ _ _ _ (by decide), e5]
                  have frv25 : ∀ k : Nat, (k < 31 ∨ 44 < k) → v25 k = vi k := fun k hk => by rw [hv25, xu_c _ _ _ _ (by omega)]; exact fr2 k hk
                  refine vx_iload hC 1 rfl eX12_player_152 ?_
                  exact vx_iret hC hM rfl eX12_player_154 (⟨_, rfl, by subst_vars; unfold sp_player; (repeat (first | rw [if_pos (by omega)] | rw [if_neg (by omega)])); all_goals (first | rfl | omega), rfl, rfl, rfl, (by (first | (obtain rfl : k = 4 := by omega) | skip); subst_vars; unfold sp_player; (repeat (first | rw [if_pos (by omega)] | rw [if_neg (by omega)])); all_goals (first | rfl | exact hv25_32)), hv25_33, hv25_31_3, hv25_31_22, hv25_44, fun k hk => ⟨frv25 k hk, rfl⟩⟩)
                · refine vx_aload_n hC 2 rfl eX12_player_120 ?_
                  refine vx_gr hC 1 (ot_31 hO) lf_X12_9 rfl (or_31_1 hO) eX12_player_121 ?_
                  refine vx_bipush hC (by decide) eX12_player_124 ?_
                  refine vx_iconst hC eX12_player_126 ?_
                  refine vx_iload hC 1 rfl eX12_player_127 ?_
                  refine vx_imul hC eX12_player_129 ?_
                  refine vx_iadd hC eX12_player_130 ?_
                  refine vx_iload hC 0 rfl eX12_player_131 ?_
                  refine vx_iadd hC eX12_player_133 ?_
                  refine vx_iconst hC eX12_player_134 ?_
                  refine vx_top2 (fun x27 hx27 => ?_)
                  refine vx_iastore hC (ot_32 hO) (by omega) (by omega) eX12_player_135 ?_
                  refine vx_vi (fun v28 hv28 => ?_)
                  obtain ⟨f29, hf29⟩ : ∃ f, f = fu (fz (f22) (26 + 4 * x10) k) x27 0 := ⟨_, rfl⟩
                  have hv28_32 : v28 32 = f29 := by rw [hv28, hf29, xu_k, e1]
                  have hv28_33 : v28 33 = vi 33 := by rw [hv28, xu_c _ _ _ _ (by decide), e2]
                  have hv28_31_3 : v28 31 3 = vi 31 3 := by rw [hv28, xu_c _ _ _ _ (by decide), e3]
                  have hv28_31_22 : v28 31 22 = vi 31 22 := by rw [hv28, xu_c _ _ _ _ (by decide), e4]
                  have hv28_44 : v28 44 = vi 44 := by rw [hv28, xu_c _ _ _ _ (by decide), e5]
                  have frv28 : ∀ k : Nat, (k < 31 ∨ 44 < k) → v28 k = vi k := fun k hk => by rw [hv28, xu_c _ _ _ _ (by omega)]; exact fr2 k hk
                  refine vx_iinc hC (lv1 := [(6, xa_i (k + 1)), (5, xa_i x10), (0, xa_r 31), (1, xa_i kd), (2, xa_i v), (3, xa_i go), (4, xa_i pu)]) 0 rfl (by decide) rfl eX12_player_136 ?_
                  refine vx_goto hC (tgt := 114) (by decide) eX12_player_139 ?_
                  exact ih (k + 1) v28 (by omega) (by rw [hv28_32, hf29, hx27]; exact fz_s _ _ hk.1) hv28_33 hv28_31_3 hv28_31_22 hv28_44 frv28 (by omega)
            exact LP114 5 0 v21 (by omega) (by rw [hv21_32, fz_0]) hv21_33 hv21_31_3 hv21_31_22 hv21_44 frv21 (by omega)
          · refine vx_bipush hC (by decide) eX12_player_55 ?_
            exact vx_iret hC hM rfl eX12_player_57 (⟨_, rfl, by subst_vars; unfold sp_player; (repeat (first | rw [if_pos (by omega)] | rw [if_neg (by omega)])); all_goals (first | rfl | omega), rfl, rfl, rfl, (by (first | (obtain rfl : k = 4 := by omega) | skip); subst_vars; unfold sp_player; (repeat (first | rw [if_pos (by omega)] | rw [if_neg (by omega)])); all_goals (rfl)), rfl, rfl, rfl, rfl, fun k hk => ⟨rfl, rfl⟩⟩)
        · refine vx_bipush hC (by decide) eX12_player_42 ?_
          exact vx_iret hC hM rfl eX12_player_44 (⟨_, rfl, by subst_vars; unfold sp_player; (repeat (first | rw [if_pos (by omega)] | rw [if_neg (by omega)])); all_goals (first | rfl | omega), rfl, rfl, rfl, (by (first | (obtain rfl : k = 4 := by omega) | skip); subst_vars; unfold sp_player; (repeat (first | rw [if_pos (by omega)] | rw [if_neg (by omega)])); all_goals (rfl)), rfl, rfl, rfl, rfl, fun k hk => ⟨rfl, rfl⟩⟩)
  · refine vx_iconst hC eX12_player_10 ?_
    exact vx_iret hC hM rfl eX12_player_11 (⟨_, rfl, by subst_vars; unfold sp_player; (repeat (first | rw [if_pos (by omega)] | rw [if_neg (by omega)])); all_goals (first | rfl | omega), rfl, rfl, rfl, (by (first | (obtain rfl : k = 4 := by omega) | skip); subst_vars; unfold sp_player; (repeat (first | rw [if_pos (by omega)] | rw [if_neg (by omega)])); all_goals (rfl)), rfl, rfl, rfl, rfl, fun k hk => ⟨rfl, rfl⟩⟩)
/-- bodies put into the trace from place r on -/
def bput (f : Int → Int) (r : Int) : List Int → Int → Int
  | [] => f
  | b :: bs => bput (fu f r b) (r + 1) bs
theorem bput_app : ∀ (a b : List Int) (f : Int → Int) (r : Int), bput f r (a ++ b) = bput (bput f r a) (r + (a.length : Int)) b
  | [], b, f, r => by simp [bput]
  | x :: a, b, f, r => by
    show bput (fu f r x) (r + 1) (a ++ b) = bput (bput (fu f r x) (r + 1) a) (r + ((x :: a).length : Int)) b
    rw [bput_app a b (fu f r x) (r + 1), show r + ((x :: a).length : Int) = r + 1 + (a.length : Int) by rw [List.length_cons]; omega]
def ax (a b : Int) : Int := (Int32.ofInt a ^^^ Int32.ofInt b).toInt
def a_S (kd i x : Int) : Int × List Int := if kd = 1 ∨ kd = 4 then (x * 3 + i, [11, 1]) else if kd = 5 then (ax (x + i) i, [51, 1]) else (x + i, [1])
def a_pT (kd i v x : Int) : Int × List Int := ((a_S kd i x).1 - v, 2 :: (a_S kd i x).2)
def a_T (kd i v x : Int) : Int × List Int := if kd = 2 ∨ kd = 5 then (-(a_pT kd i v x).1, 21 :: (a_pT kd i v x).2) else if kd = 6 then ((a_pT kd i v x).1 + v, 61 :: (a_pT kd i v x).2) else a_pT kd i v x
def a_pC (kd i v x : Int) : Int × List Int := ((a_T kd i v x).1 * 2, 3 :: (a_T kd i v x).2)
def a_C (kd i v x : Int) : Int × List Int := if kd = 3 ∨ kd = 6 then (ax (a_pC kd i v x).1 7, 31 :: (a_pC kd i v x).2) else if kd = 4 then ((a_pC kd i v (x - 1)).1 + (a_S kd i 2).1, 41 :: ((a_pC kd i v (x - 1)).2 ++ (a_S kd i 2).2)) else a_pC kd i v x
theorem a_S_l (kd i x : Int) : 1 ≤ (a_S kd i x).2.length ∧ (a_S kd i x).2.length ≤ 2 := by
  unfold a_S
  split
  · simp
  · split <;> simp
theorem a_pT_l (kd i v x : Int) : 2 ≤ (a_pT kd i v x).2.length ∧ (a_pT kd i v x).2.length ≤ 3 := by have := a_S_l kd i x; unfold a_pT; simp only [List.length_cons]; omega
theorem a_T_l (kd i v x : Int) : 2 ≤ (a_T kd i v x).2.length ∧ (a_T kd i v x).2.length ≤ 4 := by have := a_pT_l kd i v x; unfold a_T; split; (simp only [List.length_cons]; omega); split; (simp only [List.length_cons]; omega); omega
theorem a_pC_l (kd i v x : Int) : 3 ≤ (a_pC kd i v x).2.length ∧ (a_pC kd i v x).2.length ≤ 5 := by have := a_T_l kd i v x; unfold a_pC; simp only [List.length_cons]; omega
theorem a_C_l (kd i v x : Int) : 3 ≤ (a_C kd i v x).2.length ∧ (a_C kd i v x).2.length ≤ 8 := by
  have h1 := a_pC_l kd i v x
  have h2 := a_pC_l kd i v (x - 1)
  have h3 := a_S_l kd i 2
  unfold a_C
  split
  · simp only [List.length_cons]; omega
  · split
    · simp only [List.length_cons, List.length_append]; omega
    · omega
set_option maxHeartbeats 4000000 in
set_option maxRecDepth 100000 in
theorem kX12_ranBody (G : xg_T) (d : Nat) (n : Nat) (tau : Nat → Nat × Nat) (vi vl : Nat → Int → Int) (vr : Nat → Int → Option Nat) (hO : xo n tau vr) (kd i v r : Int) (h22 : vi 31 22 = r) (h23 : vi 31 23 = kd) (h24 : vi 31 24 = i) (h25 : vi 31 25 = v) (hkd : 0 ≤ kd ∧ kd ≤ 6) (x : Int) (hx : -2147483648 ≤ x ∧ x < 2147483648) (hr : 0 ≤ r ∧ r < 20) : xm G yX12_ranBody cX12_ranBody 2 none (d + 1) 0 0 [xa_r 31, xa_i x] n tau vi vl vr (xp_v (fun n1 t1 a1 b1 c1 => (a1 31 22 = r + 1) ∧ (a1 31 23 = kd) ∧ (a1 31 24 = i) ∧ (a1 31 25 = v) ∧ (a1 31 3 = vi 31 3) ∧ (a1 44 = fu (vi 44) r x) ∧ xs_I (fun k => ¬ k = 31 ∧ ¬ k = 44) n tau vi vl vr n1 t1 a1 b1 c1)) := by
  refine xm.of (lv := [(0, xa_r 31), (1, xa_i x)]) (by decide) (Nat.le_of_ble_eq_true rfl) rfl (fun K hC hM hRm => ?_)
  refine vx_aload_n hC 0 rfl eX12_ranBody_0 ?_
  refine vx_gi hC 22 (ot_31 hO) lf_X12_219 rfl eX12_ranBody_1 ?_
  refine vx_eqi h22 ?_
  refine vx_bipush hC (by decide) eX12_ranBody_4 ?_
  refine vx_icmp_ge hC (tgt := 19) (by omega) (by decide) eX12_ranBody_6 (fun c1 => absurd c1 (by omega)) (fun c1 => ?_)
  refine vx_aload_n hC 0 rfl eX12_ranBody_9 ?_
  refine vx_gr hC 21 (ot_31 hO) lf_X12_50 rfl (or_31_21 hO) eX12_ranBody_10 ?_
  refine vx_aload_n hC 0 rfl eX12_ranBody_13 ?_
  refine vx_gi hC 22 (ot_31 hO) lf_X12_219 rfl eX12_ranBody_14 ?_
  refine vx_eqi h22 ?_
  refine vx_iload_n hC 1 rfl eX12_ranBody_17 ?_
  refine vx_iastore hC (ot_44 hO) (by omega) (by omega) eX12_ranBody_18 ?_
  refine vx_vi (fun v2 hv2 => ?_)
  have hv2_31_22 : v2 31 22 = r := by rw [hv2, xu_c _ _ _ _ (by decide), h22]
  have hv2_31_23 : v2 31 23 = kd := by rw [hv2, xu_c _ _ _ _ (by decide), h23]
  have hv2_31_24 : v2 31 24 = i := by rw [hv2, xu_c _ _ _ _ (by decide), h24]
  have hv2_31_25 : v2 31 25 = v := by rw [hv2, xu_c _ _ _ _ (by decide), h25]
  have hv2_31_3 : v2 31 3 = vi 31 3 := by rw [hv2, xu_c _ _ _ _ (by decide)]
  obtain ⟨f3, hf3⟩ : ∃ f, f = fu (vi 44) r x := ⟨_, rfl⟩
  have hv2_44 : v2 44 = f3 := by rw [hv2, hf3, xu_k]
  have frv2 : ∀ k : Nat, (¬ k = 31 ∧ ¬ k = 44) → v2 k = vi k := fun k hk => by rw [hv2, xu_c _ _ _ _ (by omega)]
  refine vx_aload_n hC 0 rfl eX12_ranBody_19 ?_
  refine vx_dup hC rfl eX12_ranBody_20 ?_
  refine vx_gi hC 22 (ot_31 hO) lf_X12_219 rfl eX12_ranBody_21 ?_
  refine vx_eqi hv2_31_22 ?_
  refine vx_iconst hC eX12_ranBody_24 ?_
  refine vx_iadd hC eX12_ranBody_25 ?_
  refine vx_top (fun x4 hx4 => ?_)
  refine vx_pi hC 22 (ot_31 hO) lp_X12_219 rfl (Or.inl rfl) (Or.inl rfl) eX12_ranBody_26 ?_
  refine vx_vi (fun v5 hv5 => ?_)
  have hv5_31_22 : v5 31 22 = x4 := by rw [hv5, xu_k, fu_s]
  have hv5_31_23 : v5 31 23 = kd := by rw [hv5, xu_k, fu_n _ _ _ (by decide), hv2_31_23]
  have hv5_31_24 : v5 31 24 = i := by rw [hv5, xu_k, fu_n _ _ _ (by decide), hv2_31_24]
  have hv5_31_25 : v5 31 25 = v := by rw [hv5, xu_k, fu_n _ _ _ (by decide), hv2_31_25]
  have hv5_31_3 : v5 31 3 = vi 31 3 := by rw [hv5, xu_k, fu_n _ _ _ (by decide), hv2_31_3]
  have hv5_44 : v5 44 = f3 := by rw [hv5, xu_c _ _ _ _ (by decide), hv2_44]
  have frv5 : ∀ k : Nat, (¬ k = 31 ∧ ¬ k = 44) → v5 k = vi k := fun k hk => by rw [hv5, xu_c _ _ _ _ (by omega)]; exact frv2 k hk
  exact vx_vret hC hM eX12_ranBody_29 (⟨rfl, (by rw [hv5_31_22]; omega), hv5_31_23, hv5_31_24, hv5_31_25, hv5_31_3, (by rw [hv5_44, hf3]), rfl, rfl, rfl, rfl, fun k hk => frv5 k hk⟩)
set_option maxHeartbeats 4000000 in
set_option maxRecDepth 100000 in
theorem kX12_plainStakes (G : xg_T) (d : Nat) (n : Nat) (tau : Nat → Nat × Nat) (vi vl : Nat → Int → Int) (vr : Nat → Int → Option Nat) (hO : xo n tau vr) (kd i v r : Int) (h22 : vi 31 22 = r) (h23 : vi 31 23 = kd) (h24 : vi 31 24 = i) (h25 : vi 31 25 = v) (hkd : 0 ≤ kd ∧ kd ≤ 6) (x : Int) (hr : 0 ≤ r ∧ r ≤ 18) : xm G yX12_plainStakes cX12_plainStakes 2 (some .int) (d + 2) 0 0 [xa_r 31, xa_i x] n tau vi vl vr (xp_i (fun z9 n1 t1 a1 b1 c1 => (z9 = x + i) ∧ (a1 31 22 = r + 1) ∧ (a1 31 23 = kd) ∧ (a1 31 24 = i) ∧ (a1 31 25 = v) ∧ (a1 31 3 = vi 31 3) ∧ (a1 44 = fu (vi 44) r 1) ∧ xs_I (fun k => ¬ k = 31 ∧ ¬ k = 44) n tau vi vl vr n1 t1 a1 b1 c1)) := by
  refine xm.of (lv := [(0, xa_r 31), (1, xa_i x)]) (by decide) (Nat.le_of_ble_eq_true rfl) rfl (fun K hC hM hRm => ?_)
  refine vx_aload_n hC 0 rfl eX12_plainStakes_0 ?_
  refine vx_iconst hC eX12_plainStakes_1 ?_
  refine vx_callV_v hC (kX12_ranBody G d _ _ _ _ _ hO kd i v (r) h22 h23 h24 h25 hkd 1 (by omega) (by omega)) ly_X12_222 (ot_31 hO) rfl rfl rfl hRm (by omega) (Nat.le_of_ble_eq_true rfl) rfl eX12_plainStakes_2 (fun ng2 tg2 ag2 bg2 cg2 hg2 => ?_)
  obtain ⟨qg2_0, qg2_1, qg2_2, qg2_3, qg2_4, qg2_5, rfl, rfl, rfl, rfl, frg2⟩ := hg2
  have qg2_0b : ag2 31 22 = r + 1 := by first | exact qg2_0 | rw [qg2_0, h22] | (rw [qg2_0]; exact h22)
  have qg2_1b : ag2 31 23 = kd := by first | exact qg2_1 | rw [qg2_1, h23] | (rw [qg2_1]; exact h23)
  have qg2_2b : ag2 31 24 = i := by first | exact qg2_2 | rw [qg2_2, h24] | (rw [qg2_2]; exact h24)
  have qg2_3b : ag2 31 25 = v := by first | exact qg2_3 | rw [qg2_3, h25] | (rw [qg2_3]; exact h25)
  have frvig2 : ∀ k : Nat, (¬ k = 31 ∧ ¬ k = 44) → ag2 k = vi k := fun k hk => (frg2 k (by omega))
  refine vx_iload_n hC 1 rfl eX12_plainStakes_5 ?_
  refine vx_aload_n hC 0 rfl eX12_plainStakes_6 ?_
  refine vx_gi hC 24 (ot_31 hO) lf_X12_225 rfl eX12_plainStakes_7 ?_
  refine vx_eqi qg2_2b ?_
  refine vx_iadd hC eX12_plainStakes_10 ?_
  exact vx_iret hC hM rfl eX12_plainStakes_11 (⟨_, rfl, (by omega), qg2_0b, qg2_1b, qg2_2b, qg2_3b, qg2_4, qg2_5, rfl, rfl, rfl, rfl, fun k hk => frvig2 k hk⟩)
set_option maxHeartbeats 4000000 in
set_option maxRecDepth 100000 in
theorem kX12_stakesActs (G : xg_T) (d : Nat) (n : Nat) (tau : Nat → Nat × Nat) (vi vl : Nat → Int → Int) (vr : Nat → Int → Option Nat) (hO : xo n tau vr) (kd i v r : Int) (h22 : vi 31 22 = r) (h23 : vi 31 23 = kd) (h24 : vi 31 24 = i) (h25 : vi 31 25 = v) (hkd : 0 ≤ kd ∧ kd ≤ 6) (x : Int) (hr : 0 ≤ r ∧ r ≤ 16) : xm G yX12_stakesActs cX12_stakesActs 2 (some .int) (d + 3) 0 0 [xa_r 31, xa_i x] n tau vi vl vr (xp_i (fun z9 n1 t1 a1 b1 c1 => (z9 = (a_S kd i x).1) ∧ (a1 31 22 = r + ((a_S kd i x).2.length : Int)) ∧ (a1 31 23 = kd) ∧ (a1 31 24 = i) ∧ (a1 31 25 = v) ∧ (a1 31 3 = vi 31 3) ∧ (a1 44 = bput (vi 44) r (a_S kd i x).2) ∧ xs_I (fun k => ¬ k = 31 ∧ ¬ k = 44) n tau vi vl vr n1 t1 a1 b1 c1)) := by
  refine xm.of (lv := [(0, xa_r 31), (1, xa_i x)]) (by decide) (Nat.le_of_ble_eq_true rfl) rfl (fun K hC hM hRm => ?_)
  refine vx_aload_n hC 0 rfl eX12_stakesActs_0 ?_
  refine vx_gi hC 23 (ot_31 hO) lf_X12_228 rfl eX12_stakesActs_1 ?_
  refine vx_eqi h23 ?_
  refine vx_iconst hC eX12_stakesActs_4 ?_
  refine vx_callS_i hC (kX12_isUnder G (d + 1) _ _ _ _ _ _ _ (by omega) (by omega)) ly_X12_231 rfl hRm (by omega) (Nat.le_of_ble_eq_true rfl) rfl eX12_stakesActs_5 (fun x1 n9 t9 a9 b9 c9 hx1 => ?_)
  obtain ⟨hx1, rfl, rfl, rfl, rfl, rfl⟩ := hx1
  refine vx_if_eq hC (tgt := 25) (by omega) (by decide) eX12_stakesActs_8 (fun c2 => ?_) (fun c2 => ?_)
  · refine vx_aload_n hC 0 rfl eX12_stakesActs_25 ?_
    refine vx_gi hC 23 (ot_31 hO) lf_X12_228 rfl eX12_stakesActs_26 ?_
    refine vx_eqi h23 ?_
    refine vx_iconst hC eX12_stakesActs_29 ?_
    refine vx_icmp_ne hC (tgt := 50) (by omega) (by decide) eX12_stakesActs_30 (fun c3 => ?_) (fun c3 => ?_)
    · refine vx_aload_n hC 0 rfl eX12_stakesActs_50 ?_
      refine vx_iload_n hC 1 rfl eX12_stakesActs_51 ?_
      refine vx_callV_i hC (kX12_plainStakes G d _ _ _ _ _ hO kd i v (r) h22 h23 h24 h25 hkd x (by omega)) ly_X12_235 (ot_31 hO) rfl rfl rfl hRm (by omega) (Nat.le_of_ble_eq_true rfl) rfl eX12_stakesActs_52 (fun x4 ng5 tg5 ag5 bg5 cg5 hg5 => ?_)
      obtain ⟨hx4, qg5_0, qg5_1, qg5_2, qg5_3, qg5_4, qg5_5, rfl, rfl, rfl, rfl, frg5⟩ := hg5
      have qg5_0b : ag5 31 22 = r + 1 := by first | exact qg5_0 | rw [qg5_0, h22] | (rw [qg5_0]; exact h22)
      have qg5_1b : ag5 31 23 = kd := by first | exact qg5_1 | rw [qg5_1, h23] | (rw [qg5_1]; exact h23)
      have qg5_2b : ag5 31 24 = i := by first | exact qg5_2 | rw [qg5_2, h24] | (rw [qg5_2]; exact h24)
      have qg5_3b : ag5 31 25 = v := by first | exact qg5_3 | rw [qg5_3, h25] | (rw [qg5_3]; exact h25)
      have frvig5 : ∀ k : Nat, (¬ k = 31 ∧ ¬ k = 44) → ag5 k = vi k := fun k hk => (frg5 k (by omega))
      exact vx_iret hC hM rfl eX12_stakesActs_55 (⟨_, rfl, (by unfold a_S ax; (repeat (first | rw [if_pos (by omega)] | rw [if_neg (by omega)])); all_goals (first | rfl | (subst_vars; rfl) | omega)), (by unfold a_S; (repeat (first | rw [if_pos (by omega)] | rw [if_neg (by omega)])); all_goals (rw [qg5_0b]; simp only [List.length_cons, List.length_nil]; omega)), qg5_1b, qg5_2b, qg5_3b, qg5_4, (by unfold a_S; (repeat (first | rw [if_pos (by omega)] | rw [if_neg (by omega)])); all_goals (rw [qg5_5]; rfl)), rfl, rfl, rfl, rfl, fun k hk => frvig5 k hk⟩)
    · refine vx_aload_n hC 0 rfl eX12_stakesActs_33 ?_
      refine vx_bipush hC (by decide) eX12_stakesActs_34 ?_
      refine vx_callV_v hC (kX12_ranBody G (d + 1) _ _ _ _ _ hO kd i v (r) h22 h23 h24 h25 hkd 51 (by omega) (by omega)) ly_X12_222 (ot_31 hO) rfl rfl rfl hRm (by omega) (Nat.le_of_ble_eq_true rfl) rfl eX12_stakesActs_36 (fun ng7 tg7 ag7 bg7 cg7 hg7 => ?_)
      obtain ⟨qg7_0, qg7_1, qg7_2, qg7_3, qg7_4, qg7_5, rfl, rfl, rfl, rfl, frg7⟩ := hg7
      have qg7_0b : ag7 31 22 = r + 1 := by first | exact qg7_0 | rw [qg7_0, h22] | (rw [qg7_0]; exact h22)
      have qg7_1b : ag7 31 23 = kd := by first | exact qg7_1 | rw [qg7_1, h23] | (rw [qg7_1]; exact h23)
      have qg7_2b : ag7 31 24 = i := by first | exact qg7_2 | rw [qg7_2, h24] | (rw [qg7_2]; exact h24)
      have qg7_3b : ag7 31 25 = v := by first | exact qg7_3 | rw [qg7_3, h25] | (rw [qg7_3]; exact h25)
      have frvig7 : ∀ k : Nat, (¬ k = 31 ∧ ¬ k = 44) → ag7 k = vi k := fun k hk => (frg7 k (by omega))
      refine vx_aload_n hC 0 rfl eX12_stakesActs_39 ?_
      refine vx_iload_n hC 1 rfl eX12_stakesActs_40 ?_
      refine vx_callV_i hC (kX12_plainStakes G d _ _ _ _ _ hO kd i v (r + 1) qg7_0b qg7_1b qg7_2b qg7_3b hkd x (by omega)) ly_X12_235 (ot_31 hO) rfl rfl rfl hRm (by omega) (Nat.le_of_ble_eq_true rfl) rfl eX12_stakesActs_41 (fun x8 ng9 tg9 ag9 bg9 cg9 hg9 => ?_)
      obtain ⟨hx8, qg9_0, qg9_1, qg9_2, qg9_3, qg9_4, qg9_5, rfl, rfl, rfl, rfl, frg9⟩ := hg9
      have qg9_0b : ag9 31 22 = r + 1 + 1 := by first | exact qg9_0 | rw [qg9_0, qg7_0b] | (rw [qg9_0]; exact qg7_0b)
      have qg9_1b : ag9 31 23 = kd := by first | exact qg9_1 | rw [qg9_1, qg7_1b] | (rw [qg9_1]; exact qg7_1b)
      have qg9_2b : ag9 31 24 = i := by first | exact qg9_2 | rw [qg9_2, qg7_2b] | (rw [qg9_2]; exact qg7_2b)
      have qg9_3b : ag9 31 25 = v := by first | exact qg9_3 | rw [qg9_3, qg7_3b] | (rw [qg9_3]; exact qg7_3b)
      have qg9_4b : ag9 31 3 = vi 31 3 := by first | exact qg9_4 | rw [qg9_4, qg7_4] | (rw [qg9_4]; exact qg7_4)
      have qg9_5b : ag9 44 = fu (fu (vi 44) (r) 51) (r + 1) 1 := by first | exact qg9_5 | rw [qg9_5, qg7_5] | (rw [qg9_5]; exact qg7_5)
      have frvig9 : ∀ k : Nat, (¬ k = 31 ∧ ¬ k = 44) → ag9 k = vi k := fun k hk => (frg9 k (by omega)).trans (frvig7 k hk)
      refine vx_aload_n hC 0 rfl eX12_stakesActs_44 ?_
      refine vx_gi hC 24 (ot_31 hO) lf_X12_225 rfl eX12_stakesActs_45 ?_
      refine vx_eqi qg9_2b ?_
      refine vx_ixor hC eX12_stakesActs_48 ?_
      exact vx_iret hC hM rfl eX12_stakesActs_49 (⟨_, rfl, (by unfold a_S ax; (repeat (first | rw [if_pos (by omega)] | rw [if_neg (by omega)])); all_goals (first | rfl | (subst_vars; rfl) | omega)), (by unfold a_S; (repeat (first | rw [if_pos (by omega)] | rw [if_neg (by omega)])); all_goals (rw [qg9_0b]; simp only [List.length_cons, List.length_nil]; omega)), qg9_1b, qg9_2b, qg9_3b, qg9_4b, (by unfold a_S; (repeat (first | rw [if_pos (by omega)] | rw [if_neg (by omega)])); all_goals (rw [qg9_5b]; rfl)), rfl, rfl, rfl, rfl, fun k hk => frvig9 k hk⟩)
  · refine vx_aload_n hC 0 rfl eX12_stakesActs_11 ?_
    refine vx_bipush hC (by decide) eX12_stakesActs_12 ?_
    refine vx_callV_v hC (kX12_ranBody G (d + 1) _ _ _ _ _ hO kd i v (r) h22 h23 h24 h25 hkd 11 (by omega) (by omega)) ly_X12_222 (ot_31 hO) rfl rfl rfl hRm (by omega) (Nat.le_of_ble_eq_true rfl) rfl eX12_stakesActs_14 (fun ng11 tg11 ag11 bg11 cg11 hg11 => ?_)
    obtain ⟨qg11_0, qg11_1, qg11_2, qg11_3, qg11_4, qg11_5, rfl, rfl, rfl, rfl, frg11⟩ := hg11
    have qg11_0b : ag11 31 22 = r + 1 := by first | exact qg11_0 | rw [qg11_0, h22] | (rw [qg11_0]; exact h22)
    have qg11_1b : ag11 31 23 = kd := by first | exact qg11_1 | rw [qg11_1, h23] | (rw [qg11_1]; exact h23)
    have qg11_2b : ag11 31 24 = i := by first | exact qg11_2 | rw [qg11_2, h24] | (rw [qg11_2]; exact h24)
    have qg11_3b : ag11 31 25 = v := by first | exact qg11_3 | rw [qg11_3, h25] | (rw [qg11_3]; exact h25)
    have frvig11 : ∀ k : Nat, (¬ k = 31 ∧ ¬ k = 44) → ag11 k = vi k := fun k hk => (frg11 k (by omega))
    refine vx_aload_n hC 0 rfl eX12_stakesActs_17 ?_
    refine vx_iload_n hC 1 rfl eX12_stakesActs_18 ?_
    refine vx_iconst hC eX12_stakesActs_19 ?_
    refine vx_imul hC eX12_stakesActs_20 ?_
    refine vx_callV_i hC (kX12_plainStakes G d _ _ _ _ _ hO kd i v (r + 1) qg11_0b qg11_1b qg11_2b qg11_3b hkd _ (by omega)) ly_X12_235 (ot_31 hO) rfl rfl rfl hRm (by omega) (Nat.le_of_ble_eq_true rfl) rfl eX12_stakesActs_21 (fun x12 ng13 tg13 ag13 bg13 cg13 hg13 => ?_)
    obtain ⟨hx12, qg13_0, qg13_1, qg13_2, qg13_3, qg13_4, qg13_5, rfl, rfl, rfl, rfl, frg13⟩ := hg13
    have qg13_0b : ag13 31 22 = r + 1 + 1 := by first | exact qg13_0 | rw [qg13_0, qg11_0b] | (rw [qg13_0]; exact qg11_0b)
    have qg13_1b : ag13 31 23 = kd := by first | exact qg13_1 | rw [qg13_1, qg11_1b] | (rw [qg13_1]; exact qg11_1b)
    have qg13_2b : ag13 31 24 = i := by first | exact qg13_2 | rw [qg13_2, qg11_2b] | (rw [qg13_2]; exact qg11_2b)
    have qg13_3b : ag13 31 25 = v := by first | exact qg13_3 | rw [qg13_3, qg11_3b] | (rw [qg13_3]; exact qg11_3b)
    have qg13_4b : ag13 31 3 = vi 31 3 := by first | exact qg13_4 | rw [qg13_4, qg11_4] | (rw [qg13_4]; exact qg11_4)
    have qg13_5b : ag13 44 = fu (fu (vi 44) (r) 11) (r + 1) 1 := by first | exact qg13_5 | rw [qg13_5, qg11_5] | (rw [qg13_5]; exact qg11_5)
    have frvig13 : ∀ k : Nat, (¬ k = 31 ∧ ¬ k = 44) → ag13 k = vi k := fun k hk => (frg13 k (by omega)).trans (frvig11 k hk)
    exact vx_iret hC hM rfl eX12_stakesActs_24 (⟨_, rfl, (by unfold a_S ax; (repeat (first | rw [if_pos (by omega)] | rw [if_neg (by omega)])); all_goals (first | rfl | (subst_vars; rfl) | omega)), (by unfold a_S; (repeat (first | rw [if_pos (by omega)] | rw [if_neg (by omega)])); all_goals (rw [qg13_0b]; simp only [List.length_cons, List.length_nil]; omega)), qg13_1b, qg13_2b, qg13_3b, qg13_4b, (by unfold a_S; (repeat (first | rw [if_pos (by omega)] | rw [if_neg (by omega)])); all_goals (rw [qg13_5b]; rfl)), rfl, rfl, rfl, rfl, fun k hk => frvig13 k hk⟩)
set_option maxHeartbeats 4000000 in
set_option maxRecDepth 100000 in
theorem kX12_plainThrows (G : xg_T) (d : Nat) (n : Nat) (tau : Nat → Nat × Nat) (vi vl : Nat → Int → Int) (vr : Nat → Int → Option Nat) (hO : xo n tau vr) (kd i v r : Int) (h22 : vi 31 22 = r) (h23 : vi 31 23 = kd) (h24 : vi 31 24 = i) (h25 : vi 31 25 = v) (hkd : 0 ≤ kd ∧ kd ≤ 6) (x : Int) (hr : 0 ≤ r ∧ r ≤ 15) : xm G yX12_plainThrows cX12_plainThrows 2 (some .int) (d + 4) 0 0 [xa_r 31, xa_i x] n tau vi vl vr (xp_i (fun z9 n1 t1 a1 b1 c1 => (z9 = (a_pT kd i v x).1) ∧ (a1 31 22 = r + ((a_pT kd i v x).2.length : Int)) ∧ (a1 31 23 = kd) ∧ (a1 31 24 = i) ∧ (a1 31 25 = v) ∧ (a1 31 3 = vi 31 3) ∧ (a1 44 = bput (vi 44) r (a_pT kd i v x).2) ∧ xs_I (fun k => ¬ k = 31 ∧ ¬ k = 44) n tau vi vl vr n1 t1 a1 b1 c1)) := by
  refine xm.of (lv := [(0, xa_r 31), (1, xa_i x)]) (by decide) (Nat.le_of_ble_eq_true rfl) rfl (fun K hC hM hRm => ?_)
  refine vx_aload_n hC 0 rfl eX12_plainThrows_0 ?_
  refine vx_iconst hC eX12_plainThrows_1 ?_
  refine vx_callV_v hC (kX12_ranBody G (d + 2) _ _ _ _ _ hO kd i v (r) h22 h23 h24 h25 hkd 2 (by omega) (by omega)) ly_X12_222 (ot_31 hO) rfl rfl rfl hRm (by omega) (Nat.le_of_ble_eq_true rfl) rfl eX12_plainThrows_2 (fun ng2 tg2 ag2 bg2 cg2 hg2 => ?_)
  obtain ⟨qg2_0, qg2_1, qg2_2, qg2_3, qg2_4, qg2_5, rfl, rfl, rfl, rfl, frg2⟩ := hg2
  have qg2_0b : ag2 31 22 = r + 1 := by first | exact qg2_0 | rw [qg2_0, h22] | (rw [qg2_0]; exact h22)
  have qg2_1b : ag2 31 23 = kd := by first | exact qg2_1 | rw [qg2_1, h23] | (rw [qg2_1]; exact h23)
  have qg2_2b : ag2 31 24 = i := by first | exact qg2_2 | rw [qg2_2, h24] | (rw [qg2_2]; exact h24)
  have qg2_3b : ag2 31 25 = v := by first | exact qg2_3 | rw [qg2_3, h25] | (rw [qg2_3]; exact h25)
  have frvig2 : ∀ k : Nat, (¬ k = 31 ∧ ¬ k = 44) → ag2 k = vi k := fun k hk => (frg2 k (by omega))
  refine vx_aload_n hC 0 rfl eX12_plainThrows_5 ?_
  refine vx_iload_n hC 1 rfl eX12_plainThrows_6 ?_
  refine vx_callV_i hC (kX12_stakesActs G d _ _ _ _ _ hO kd i v (r + 1) qg2_0b qg2_1b qg2_2b qg2_3b hkd x (by omega)) ly_X12_239 (ot_31 hO) rfl rfl rfl hRm (by omega) (Nat.le_of_ble_eq_true rfl) rfl eX12_plainThrows_7 (fun x3 ng4 tg4 ag4 bg4 cg4 hg4 => ?_)
  obtain ⟨hx3, qg4_0, qg4_1, qg4_2, qg4_3, qg4_4, qg4_5, rfl, rfl, rfl, rfl, frg4⟩ := hg4
  have qg4_0b : ag4 31 22 = r + 1 + ((a_S kd i x).2.length : Int) := by first | exact qg4_0 | rw [qg4_0, qg2_0b] | (rw [qg4_0]; exact qg2_0b)
  have qg4_1b : ag4 31 23 = kd := by first | exact qg4_1 | rw [qg4_1, qg2_1b] | (rw [qg4_1]; exact qg2_1b)
  have qg4_2b : ag4 31 24 = i := by first | exact qg4_2 | rw [qg4_2, qg2_2b] | (rw [qg4_2]; exact qg2_2b)
  have qg4_3b : ag4 31 25 = v := by first | exact qg4_3 | rw [qg4_3, qg2_3b] | (rw [qg4_3]; exact qg2_3b)
  have qg4_4b : ag4 31 3 = vi 31 3 := by first | exact qg4_4 | rw [qg4_4, qg2_4] | (rw [qg4_4]; exact qg2_4)
  have qg4_5b : ag4 44 = bput (fu (vi 44) (r) 2) (r + 1) (a_S kd i x).2 := by first | exact qg4_5 | rw [qg4_5, qg2_5] | (rw [qg4_5]; exact qg2_5)
  have frvig4 : ∀ k : Nat, (¬ k = 31 ∧ ¬ k = 44) → ag4 k = vi k := fun k hk => (frg4 k (by omega)).trans (frvig2 k hk)
  refine vx_aload_n hC 0 rfl eX12_plainThrows_10 ?_
  refine vx_gi hC 25 (ot_31 hO) lf_X12_242 rfl eX12_plainThrows_11 ?_
  refine vx_eqi qg4_3b ?_
  refine vx_isub hC eX12_plainThrows_14 ?_
  exact vx_iret hC hM rfl eX12_plainThrows_15 (⟨_, rfl, (by unfold a_pT; (repeat (first | rw [if_pos (by omega)] | rw [if_neg (by omega)])); all_goals (first | rfl | (subst_vars; rfl) | omega)), (by unfold a_pT; (repeat (first | rw [if_pos (by omega)] | rw [if_neg (by omega)])); all_goals (first | exact qg4_0b | (rw [qg4_0b]; omega) | (rw [qg4_0b]; simp only [List.length_cons, List.length_nil, List.length_append]; omega))), qg4_1b, qg4_2b, qg4_3b, qg4_4b, (by unfold a_pT; (repeat (first | rw [if_pos (by omega)] | rw [if_neg (by omega)])); all_goals (first | exact qg4_5b | (rw [qg4_5b]; rfl) | (rw [qg4_5b, bput, bput_app]))), rfl, rfl, rfl, rfl, fun k hk => frvig4 k hk⟩)
set_option maxHeartbeats 4000000 in
set_option maxRecDepth 100000 in
theorem kX12_throwsActs (G : xg_T) (d : Nat) (n : Nat) (tau : Nat → Nat × Nat) (vi vl : Nat → Int → Int) (vr : Nat → Int → Option Nat) (hO : xo n tau vr) (kd i v r : Int) (h22 : vi 31 22 = r) (h23 : vi 31 23 = kd) (h24 : vi 31 24 = i) (h25 : vi 31 25 = v) (hkd : 0 ≤ kd ∧ kd ≤ 6) (x : Int) (hr : 0 ≤ r ∧ r ≤ 14) : xm G yX12_throwsActs cX12_throwsActs 2 (some .int) (d + 5) 0 0 [xa_r 31, xa_i x] n tau vi vl vr (xp_i (fun z9 n1 t1 a1 b1 c1 => (z9 = (a_T kd i v x).1) ∧ (a1 31 22 = r + ((a_T kd i v x).2.length : Int)) ∧ (a1 31 23 = kd) ∧ (a1 31 24 = i) ∧ (a1 31 25 = v) ∧ (a1 31 3 = vi 31 3) ∧ (a1 44 = bput (vi 44) r (a_T kd i v x).2) ∧ xs_I (fun k => ¬ k = 31 ∧ ¬ k = 44) n tau vi vl vr n1 t1 a1 b1 c1)) := by
  refine xm.of (lv := [(0, xa_r 31), (1, xa_i x)]) (by decide) (Nat.le_of_ble_eq_true rfl) rfl (fun K hC hM hRm => ?_)
  have q0 := a_S_l kd i x
  have q1 := a_pT_l kd i v x
  have q2 := a_T_l kd i v x
  have q3 := a_pC_l kd i v x
  have q4 := a_pC_l kd i v (x - 1)
  refine vx_aload_n hC 0 rfl eX12_throwsActs_0 ?_
  refine vx_gi hC 23 (ot_31 hO) lf_X12_228 rfl eX12_throwsActs_1 ?_
  refine vx_eqi h23 ?_
  refine vx_iconst hC eX12_throwsActs_4 ?_
  refine vx_callS_i hC (kX12_isUnder G (d + 3) _ _ _ _ _ _ _ (by omega) (by omega)) ly_X12_231 rfl hRm (by omega) (Nat.le_of_ble_eq_true rfl) rfl eX12_throwsActs_5 (fun x1 n9 t9 a9 b9 c9 hx1 => ?_)
  obtain ⟨hx1, rfl, rfl, rfl, rfl, rfl⟩ := hx1
  refine vx_if_eq hC (tgt := 24) (by omega) (by decide) eX12_throwsActs_8 (fun c2 => ?_) (fun c2 => ?_)
  · refine vx_aload_n hC 0 rfl eX12_throwsActs_24 ?_
    refine vx_gi hC 23 (ot_31 hO) lf_X12_228 rfl eX12_throwsActs_25 ?_
    refine vx_eqi h23 ?_
    refine vx_bipush hC (by decide) eX12_throwsActs_28 ?_
    refine vx_icmp_ne hC (tgt := 50) (by omega) (by decide) eX12_throwsActs_30 (fun c3 => ?_) (fun c3 => ?_)
    · refine vx_aload_n hC 0 rfl eX12_throwsActs_50 ?_
      refine vx_iload_n hC 1 rfl eX12_throwsActs_51 ?_
      refine vx_callV_i hC (kX12_plainThrows G d _ _ _ _ _ hO kd i v (r) h22 h23 h24 h25 hkd x (by omega)) ly_X12_245 (ot_31 hO) rfl rfl rfl hRm (by omega) (Nat.le_of_ble_eq_true rfl) rfl eX12_throwsActs_52 (fun x4 ng5 tg5 ag5 bg5 cg5 hg5 => ?_)
      obtain ⟨hx4, qg5_0, qg5_1, qg5_2, qg5_3, qg5_4, qg5_5, rfl, rfl, rfl, rfl, frg5⟩ := hg5
      have qg5_0b : ag5 31 22 = r + ((a_pT kd i v x).2.length : Int) := by first | exact qg5_0 | rw [qg5_0, h22] | (rw [qg5_0]; exact h22)
      have qg5_1b : ag5 31 23 = kd := by first | exact qg5_1 | rw [qg5_1, h23] | (rw [qg5_1]; exact h23)
      have qg5_2b : ag5 31 24 = i := by first | exact qg5_2 | rw [qg5_2, h24] | (rw [qg5_2]; exact h24)
      have qg5_3b : ag5 31 25 = v := by first | exact qg5_3 | rw [qg5_3, h25] | (rw [qg5_3]; exact h25)
      have frvig5 : ∀ k : Nat, (¬ k = 31 ∧ ¬ k = 44) → ag5 k = vi k := fun k hk => (frg5 k (by omega))
      exact vx_iret hC hM rfl eX12_throwsActs_55 (⟨_, rfl, (by unfold a_T; (repeat (first | rw [if_pos (by omega)] | rw [if_neg (by omega)])); all_goals (first | rfl | (subst_vars; rfl) | omega)), (by unfold a_T; (repeat (first | rw [if_pos (by omega)] | rw [if_neg (by omega)])); all_goals (first | exact qg5_0b | (rw [qg5_0b]; omega) | (rw [qg5_0b]; simp only [List.length_cons, List.length_nil, List.length_append]; omega))), qg5_1b, qg5_2b, qg5_3b, qg5_4, (by unfold a_T; (repeat (first | rw [if_pos (by omega)] | rw [if_neg (by omega)])); all_goals (first | exact qg5_5 | (rw [qg5_5]; rfl) | (rw [qg5_5, bput, bput_app]))), rfl, rfl, rfl, rfl, fun k hk => frvig5 k hk⟩)
    · refine vx_aload_n hC 0 rfl eX12_throwsActs_33 ?_
      refine vx_bipush hC (by decide) eX12_throwsActs_34 ?_
      refine vx_callV_v hC (kX12_ranBody G (d + 3) _ _ _ _ _ hO kd i v (r) h22 h23 h24 h25 hkd 61 (by omega) (by omega)) ly_X12_222 (ot_31 hO) rfl rfl rfl hRm (by omega) (Nat.le_of_ble_eq_true rfl) rfl eX12_throwsActs_36 (fun ng7 tg7 ag7 bg7 cg7 hg7 => ?_)
      obtain ⟨qg7_0, qg7_1, qg7_2, qg7_3, qg7_4, qg7_5, rfl, rfl, rfl, rfl, frg7⟩ := hg7
      have qg7_0b : ag7 31 22 = r + 1 := by first | exact qg7_0 | rw [qg7_0, h22] | (rw [qg7_0]; exact h22)
      have qg7_1b : ag7 31 23 = kd := by first | exact qg7_1 | rw [qg7_1, h23] | (rw [qg7_1]; exact h23)
      have qg7_2b : ag7 31 24 = i := by first | exact qg7_2 | rw [qg7_2, h24] | (rw [qg7_2]; exact h24)
      have qg7_3b : ag7 31 25 = v := by first | exact qg7_3 | rw [qg7_3, h25] | (rw [qg7_3]; exact h25)
      have frvig7 : ∀ k : Nat, (¬ k = 31 ∧ ¬ k = 44) → ag7 k = vi k := fun k hk => (frg7 k (by omega))
      refine vx_aload_n hC 0 rfl eX12_throwsActs_39 ?_
      refine vx_iload_n hC 1 rfl eX12_throwsActs_40 ?_
      refine vx_callV_i hC (kX12_plainThrows G d _ _ _ _ _ hO kd i v (r + 1) qg7_0b qg7_1b qg7_2b qg7_3b hkd x (by omega)) ly_X12_245 (ot_31 hO) rfl rfl rfl hRm (by omega) (Nat.le_of_ble_eq_true rfl) rfl eX12_throwsActs_41 (fun x8 ng9 tg9 ag9 bg9 cg9 hg9 => ?_)
      obtain ⟨hx8, qg9_0, qg9_1, qg9_2, qg9_3, qg9_4, qg9_5, rfl, rfl, rfl, rfl, frg9⟩ := hg9
      have qg9_0b : ag9 31 22 = r + 1 + ((a_pT kd i v x).2.length : Int) := by first | exact qg9_0 | rw [qg9_0, qg7_0b] | (rw [qg9_0]; exact qg7_0b)
      have qg9_1b : ag9 31 23 = kd := by first | exact qg9_1 | rw [qg9_1, qg7_1b] | (rw [qg9_1]; exact qg7_1b)
      have qg9_2b : ag9 31 24 = i := by first | exact qg9_2 | rw [qg9_2, qg7_2b] | (rw [qg9_2]; exact qg7_2b)
      have qg9_3b : ag9 31 25 = v := by first | exact qg9_3 | rw [qg9_3, qg7_3b] | (rw [qg9_3]; exact qg7_3b)
      have qg9_4b : ag9 31 3 = vi 31 3 := by first | exact qg9_4 | rw [qg9_4, qg7_4] | (rw [qg9_4]; exact qg7_4)
      have qg9_5b : ag9 44 = bput (fu (vi 44) (r) 61) (r + 1) (a_pT kd i v x).2 := by first | exact qg9_5 | rw [qg9_5, qg7_5] | (rw [qg9_5]; exact qg7_5)
      have frvig9 : ∀ k : Nat, (¬ k = 31 ∧ ¬ k = 44) → ag9 k = vi k := fun k hk => (frg9 k (by omega)).trans (frvig7 k hk)
      refine vx_aload_n hC 0 rfl eX12_throwsActs_44 ?_
      refine vx_gi hC 25 (ot_31 hO) lf_X12_242 rfl eX12_throwsActs_45 ?_
      refine vx_eqi qg9_3b ?_
      refine vx_iadd hC eX12_throwsActs_48 ?_
      exact vx_iret hC hM rfl eX12_throwsActs_49 (⟨_, rfl, (by unfold a_T; (repeat (first | rw [if_pos (by omega)] | rw [if_neg (by omega)])); all_goals (first | rfl | (subst_vars; rfl) | omega)), (by unfold a_T; (repeat (first | rw [if_pos (by omega)] | rw [if_neg (by omega)])); all_goals (first | exact qg9_0b | (rw [qg9_0b]; omega) | (rw [qg9_0b]; simp only [List.length_cons, List.length_nil, List.length_append]; omega))), qg9_1b, qg9_2b, qg9_3b, qg9_4b, (by unfold a_T; (repeat (first | rw [if_pos (by omega)] | rw [if_neg (by omega)])); all_goals (first | exact qg9_5b | (rw [qg9_5b]; rfl) | (rw [qg9_5b, bput, bput_app]))), rfl, rfl, rfl, rfl, fun k hk => frvig9 k hk⟩)
  · refine vx_aload_n hC 0 rfl eX12_throwsActs_11 ?_
    refine vx_bipush hC (by decide) eX12_throwsActs_12 ?_
    refine vx_callV_v hC (kX12_ranBody G (d + 3) _ _ _ _ _ hO kd i v (r) h22 h23 h24 h25 hkd 21 (by omega) (by omega)) ly_X12_222 (ot_31 hO) rfl rfl rfl hRm (by omega) (Nat.le_of_ble_eq_true rfl) rfl eX12_throwsActs_14 (fun ng11 tg11 ag11 bg11 cg11 hg11 => ?_)
    obtain ⟨qg11_0, qg11_1, qg11_2, qg11_3, qg11_4, qg11_5, rfl, rfl, rfl, rfl, frg11⟩ := hg11
    have qg11_0b : ag11 31 22 = r + 1 := by first | exact qg11_0 | rw [qg11_0, h22] | (rw [qg11_0]; exact h22)
    have qg11_1b : ag11 31 23 = kd := by first | exact qg11_1 | rw [qg11_1, h23] | (rw [qg11_1]; exact h23)
    have qg11_2b : ag11 31 24 = i := by first | exact qg11_2 | rw [qg11_2, h24] | (rw [qg11_2]; exact h24)
    have qg11_3b : ag11 31 25 = v := by first | exact qg11_3 | rw [qg11_3, h25] | (rw [qg11_3]; exact h25)
    have frvig11 : ∀ k : Nat, (¬ k = 31 ∧ ¬ k = 44) → ag11 k = vi k := fun k hk => (frg11 k (by omega))
    refine vx_aload_n hC 0 rfl eX12_throwsActs_17 ?_
    refine vx_iload_n hC 1 rfl eX12_throwsActs_18 ?_
    refine vx_callV_i hC (kX12_plainThrows G d _ _ _ _ _ hO kd i v (r + 1) qg11_0b qg11_1b qg11_2b qg11_3b hkd x (by omega)) ly_X12_245 (ot_31 hO) rfl rfl rfl hRm (by omega) (Nat.le_of_ble_eq_true rfl) rfl eX12_throwsActs_19 (fun x12 ng13 tg13 ag13 bg13 cg13 hg13 => ?_)
    obtain ⟨hx12, qg13_0, qg13_1, qg13_2, qg13_3, qg13_4, qg13_5, rfl, rfl, rfl, rfl, frg13⟩ := hg13
    have qg13_0b : ag13 31 22 = r + 1 + ((a_pT kd i v x).2.length : Int) := by first | exact qg13_0 | rw [qg13_0, qg11_0b] | (rw [qg13_0]; exact qg11_0b)
    have qg13_1b : ag13 31 23 = kd := by first | exact qg13_1 | rw [qg13_1, qg11_1b] | (rw [qg13_1]; exact qg11_1b)
    have qg13_2b : ag13 31 24 = i := by first | exact qg13_2 | rw [qg13_2, qg11_2b] | (rw [qg13_2]; exact qg11_2b)
    have qg13_3b : ag13 31 25 = v := by first | exact qg13_3 | rw [qg13_3, qg11_3b] | (rw [qg13_3]; exact qg11_3b)
    have qg13_4b : ag13 31 3 = vi 31 3 := by first | exact qg13_4 | rw [qg13_4, qg11_4] | (rw [qg13_4]; exact qg11_4)
    have qg13_5b : ag13 44 = bput (fu (vi 44) (r) 21) (r + 1) (a_pT kd i v x).2 := by first | exact qg13_5 | rw [qg13_5, qg11_5] | (rw [qg13_5]; exact qg11_5)
    have frvig13 : ∀ k : Nat, (¬ k = 31 ∧ ¬ k = 44) → ag13 k = vi k := fun k hk => (frg13 k (by omega)).trans (frvig11 k hk)
    refine vx_ineg hC eX12_throwsActs_22 ?_
    exact vx_iret hC hM rfl eX12_throwsActs_23 (⟨_, rfl, (by unfold a_T; (repeat (first | rw [if_pos (by omega)] | rw [if_neg (by omega)])); all_goals (first | rfl | (subst_vars; rfl) | omega)), (by unfold a_T; (repeat (first | rw [if_pos (by omega)] | rw [if_neg (by omega)])); all_goals (first | exact qg13_0b | (rw [qg13_0b]; omega) | (rw [qg13_0b]; simp only [List.length_cons, List.length_nil, List.length_append]; omega))), qg13_1b, qg13_2b, qg13_3b, qg13_4b, (by unfold a_T; (repeat (first | rw [if_pos (by omega)] | rw [if_neg (by omega)])); all_goals (first | exact qg13_5b | (rw [qg13_5b]; rfl) | (rw [qg13_5b, bput, bput_app]))), rfl, rfl, rfl, rfl, fun k hk => frvig13 k hk⟩)
set_option maxHeartbeats 4000000 in
set_option maxRecDepth 100000 in
theorem kX12_plainCounts (G : xg_T) (d : Nat) (n : Nat) (tau : Nat → Nat × Nat) (vi vl : Nat → Int → Int) (vr : Nat → Int → Option Nat) (hO : xo n tau vr) (kd i v r : Int) (h22 : vi 31 22 = r) (h23 : vi 31 23 = kd) (h24 : vi 31 24 = i) (h25 : vi 31 25 = v) (hkd : 0 ≤ kd ∧ kd ≤ 6) (x : Int) (hr : 0 ≤ r ∧ r ≤ 13) : xm G yX12_plainCounts cX12_plainCounts 2 (some .int) (d + 6) 0 0 [xa_r 31, xa_i x] n tau vi vl vr (xp_i (fun z9 n1 t1 a1 b1 c1 => (z9 = (a_pC kd i v x).1) ∧ (a1 31 22 = r + ((a_pC kd i v x).2.length : Int)) ∧ (a1 31 23 = kd) ∧ (a1 31 24 = i) ∧ (a1 31 25 = v) ∧ (a1 31 3 = vi 31 3) ∧ (a1 44 = bput (vi 44) r (a_pC kd i v x).2) ∧ xs_I (fun k => ¬ k = 31 ∧ ¬ k = 44) n tau vi vl vr n1 t1 a1 b1 c1)) := by
  refine xm.of (lv := [(0, xa_r 31), (1, xa_i x)]) (by decide) (Nat.le_of_ble_eq_true rfl) rfl (fun K hC hM hRm => ?_)
  have q0 := a_S_l kd i x
  have q1 := a_pT_l kd i v x
  have q2 := a_T_l kd i v x
  have q3 := a_pC_l kd i v x
  have q4 := a_pC_l kd i v (x - 1)
  refine vx_aload_n hC 0 rfl eX12_plainCounts_0 ?_
  refine vx_iconst hC eX12_plainCounts_1 ?_
  refine vx_callV_v hC (kX12_ranBody G (d + 4) _ _ _ _ _ hO kd i v (r) h22 h23 h24 h25 hkd 3 (by omega) (by omega)) ly_X12_222 (ot_31 hO) rfl rfl rfl hRm (by omega) (Nat.le_of_ble_eq_true rfl) rfl eX12_plainCounts_2 (fun ng2 tg2 ag2 bg2 cg2 hg2 => ?_)
  obtain ⟨qg2_0, qg2_1, qg2_2, qg2_3, qg2_4, qg2_5, rfl, rfl, rfl, rfl, frg2⟩ := hg2
  have qg2_0b : ag2 31 22 = r + 1 := by first | exact qg2_0 | rw [qg2_0, h22] | (rw [qg2_0]; exact h22)
  have qg2_1b : ag2 31 23 = kd := by first | exact qg2_1 | rw [qg2_1, h23] | (rw [qg2_1]; exact h23)
  have qg2_2b : ag2 31 24 = i := by first | exact qg2_2 | rw [qg2_2, h24] | (rw [qg2_2]; exact h24)
  have qg2_3b : ag2 31 25 = v := by first | exact qg2_3 | rw [qg2_3, h25] | (rw [qg2_3]; exact h25)
  have frvig2 : ∀ k : Nat, (¬ k = 31 ∧ ¬ k = 44) → ag2 k = vi k := fun k hk => (frg2 k (by omega))
  refine vx_aload_n hC 0 rfl eX12_plainCounts_5 ?_
  refine vx_iload_n hC 1 rfl eX12_plainCounts_6 ?_
  refine vx_callV_i hC (kX12_throwsActs G d _ _ _ _ _ hO kd i v (r + 1) qg2_0b qg2_1b qg2_2b qg2_3b hkd x (by omega)) ly_X12_248 (ot_31 hO) rfl rfl rfl hRm (by omega) (Nat.le_of_ble_eq_true rfl) rfl eX12_plainCounts_7 (fun x3 ng4 tg4 ag4 bg4 cg4 hg4 => ?_)
  obtain ⟨hx3, qg4_0, qg4_1, qg4_2, qg4_3, qg4_4, qg4_5, rfl, rfl, rfl, rfl, frg4⟩ := hg4
  have qg4_0b : ag4 31 22 = r + 1 + ((a_T kd i v x).2.length : Int) := by first | exact qg4_0 | rw [qg4_0, qg2_0b] | (rw [qg4_0]; exact qg2_0b)
  have qg4_1b : ag4 31 23 = kd := by first | exact qg4_1 | rw [qg4_1, qg2_1b] | (rw [qg4_1]; exact qg2_1b)
  have qg4_2b : ag4 31 24 = i := by first | exact qg4_2 | rw [qg4_2, qg2_2b] | (rw [qg4_2]; exact qg2_2b)
  have qg4_3b : ag4 31 25 = v := by first | exact qg4_3 | rw [qg4_3, qg2_3b] | (rw [qg4_3]; exact qg2_3b)
  have qg4_4b : ag4 31 3 = vi 31 3 := by first | exact qg4_4 | rw [qg4_4, qg2_4] | (rw [qg4_4]; exact qg2_4)
  have qg4_5b : ag4 44 = bput (fu (vi 44) (r) 3) (r + 1) (a_T kd i v x).2 := by first | exact qg4_5 | rw [qg4_5, qg2_5] | (rw [qg4_5]; exact qg2_5)
  have frvig4 : ∀ k : Nat, (¬ k = 31 ∧ ¬ k = 44) → ag4 k = vi k := fun k hk => (frg4 k (by omega)).trans (frvig2 k hk)
  refine vx_iconst hC eX12_plainCounts_10 ?_
  refine vx_imul hC eX12_plainCounts_11 ?_
  exact vx_iret hC hM rfl eX12_plainCounts_12 (⟨_, rfl, (by unfold a_pC; (repeat (first | rw [if_pos (by omega)] | rw [if_neg (by omega)])); all_goals (first | rfl | (subst_vars; rfl) | omega)), (by unfold a_pC; (repeat (first | rw [if_pos (by omega)] | rw [if_neg (by omega)])); all_goals (first | exact qg4_0b | (rw [qg4_0b]; omega) | (rw [qg4_0b]; simp only [List.length_cons, List.length_nil, List.length_append]; omega))), qg4_1b, qg4_2b, qg4_3b, qg4_4b, (by unfold a_pC; (repeat (first | rw [if_pos (by omega)] | rw [if_neg (by omega)])); all_goals (first | exact qg4_5b | (rw [qg4_5b]; rfl) | (rw [qg4_5b, bput, bput_app]))), rfl, rfl, rfl, rfl, fun k hk => frvig4 k hk⟩)
set_option maxHeartbeats 4000000 in
set_option maxRecDepth 100000 in
theorem kX12_countsActs (G : xg_T) (d : Nat) (n : Nat) (tau : Nat → Nat × Nat) (vi vl : Nat → Int → Int) (vr : Nat → Int → Option Nat) (hO : xo n tau vr) (kd i v r : Int) (h22 : vi 31 22 = r) (h23 : vi 31 23 = kd) (h24 : vi 31 24 = i) (h25 : vi 31 25 = v) (hkd : 0 ≤ kd ∧ kd ≤ 6) (x : Int) (hr : 0 ≤ r ∧ r ≤ 8) : xm G yX12_countsActs cX12_countsActs 3 (some .int) (d + 7) 0 0 [xa_r 31, xa_i x] n tau vi vl vr (xp_i (fun z9 n1 t1 a1 b1 c1 => (z9 = (a_C kd i v x).1) ∧ (a1 31 22 = r + ((a_C kd i v x).2.length : Int)) ∧ (a1 31 23 = kd) ∧ (a1 31 24 = i) ∧ (a1 31 25 = v) ∧ (a1 31 3 = vi 31 3) ∧ (a1 44 = bput (vi 44) r (a_C kd i v x).2) ∧ xs_I (fun k => ¬ k = 31 ∧ ¬ k = 44) n tau vi vl vr n1 t1 a1 b1 c1)) := by
  refine xm.of (lv := [(0, xa_r 31), (1, xa_i x)]) (by decide) (Nat.le_of_ble_eq_true rfl) rfl (fun K hC hM hRm => ?_)
  have q0 := a_S_l kd i x
  have q1 := a_pT_l kd i v x
  have q2 := a_T_l kd i v x
  have q3 := a_pC_l kd i v x
  have q4 := a_pC_l kd i v (x - 1)
  refine vx_aload_n hC 0 rfl eX12_countsActs_0 ?_
  refine vx_gi hC 23 (ot_31 hO) lf_X12_228 rfl eX12_countsActs_1 ?_
  refine vx_eqi h23 ?_
  refine vx_iconst hC eX12_countsActs_4 ?_
  refine vx_callS_i hC (kX12_isUnder G (d + 5) _ _ _ _ _ _ _ (by omega) (by omega)) ly_X12_231 rfl hRm (by omega) (Nat.le_of_ble_eq_true rfl) rfl eX12_countsActs_5 (fun x1 n9 t9 a9 b9 c9 hx1 => ?_)
  obtain ⟨hx1, rfl, rfl, rfl, rfl, rfl⟩ := hx1
  refine vx_if_eq hC (tgt := 26) (by omega) (by decide) eX12_countsActs_8 (fun c2 => ?_) (fun c2 => ?_)
  · refine vx_aload_n hC 0 rfl eX12_countsActs_26 ?_
    refine vx_gi hC 23 (ot_31 hO) lf_X12_228 rfl eX12_countsActs_27 ?_
    refine vx_eqi h23 ?_
    refine vx_iconst hC eX12_countsActs_30 ?_
    refine vx_icmp_ne hC (tgt := 56) (by omega) (by decide) eX12_countsActs_31 (fun c3 => ?_) (fun c3 => ?_)
    · refine vx_aload_n hC 0 rfl eX12_countsActs_56 ?_
      refine vx_iload_n hC 1 rfl eX12_countsActs_57 ?_
      refine vx_callV_i hC (kX12_plainCounts G d _ _ _ _ _ hO kd i v (r) h22 h23 h24 h25 hkd x (by omega)) ly_X12_251 (ot_31 hO) rfl rfl rfl hRm (by omega) (Nat.le_of_ble_eq_true rfl) rfl eX12_countsActs_58 (fun x4 ng5 tg5 ag5 bg5 cg5 hg5 => ?_)
      obtain ⟨hx4, qg5_0, qg5_1, qg5_2, qg5_3, qg5_4, qg5_5, rfl, rfl, rfl, rfl, frg5⟩ := hg5
      have qg5_0b : ag5 31 22 = r + ((a_pC kd i v x).2.length : Int) := by first | exact qg5_0 | rw [qg5_0, h22] | (rw [qg5_0]; exact h22)
      have qg5_1b : ag5 31 23 = kd := by first | exact qg5_1 | rw [qg5_1, h23] | (rw [qg5_1]; exact h23)
      have qg5_2b : ag5 31 24 = i := by first | exact qg5_2 | rw [qg5_2, h24] | (rw [qg5_2]; exact h24)
      have qg5_3b : ag5 31 25 = v := by first | exact qg5_3 | rw [qg5_3, h25] | (rw [qg5_3]; exact h25)
      have frvig5 : ∀ k : Nat, (¬ k = 31 ∧ ¬ k = 44) → ag5 k = vi k := fun k hk => (frg5 k (by omega))
      exact vx_iret hC hM rfl eX12_countsActs_61 (⟨_, rfl, (by unfold a_C; (repeat (first | rw [if_pos (by omega)] | rw [if_neg (by omega)])); all_goals (first | rfl | (subst_vars; rfl) | omega)), (by unfold a_C; (repeat (first | rw [if_pos (by omega)] | rw [if_neg (by omega)])); all_goals (first | exact qg5_0b | (rw [qg5_0b]; omega) | (rw [qg5_0b]; simp only [List.length_cons, List.length_nil, List.length_append]; omega))), qg5_1b, qg5_2b, qg5_3b, qg5_4, (by unfold a_C; (repeat (first | rw [if_pos (by omega)] | rw [if_neg (by omega)])); all_goals (first | exact qg5_5 | (rw [qg5_5]; rfl) | (rw [qg5_5, bput, bput_app]))), rfl, rfl, rfl, rfl, fun k hk => frvig5 k hk⟩)
    · refine vx_aload_n hC 0 rfl eX12_countsActs_34 ?_
      refine vx_bipush hC (by decide) eX12_countsActs_35 ?_
      refine vx_callV_v hC (kX12_ranBody G (d + 5) _ _ _ _ _ hO kd i v (r) h22 h23 h24 h25 hkd 41 (by omega) (by omega)) ly_X12_222 (ot_31 hO) rfl rfl rfl hRm (by omega) (Nat.le_of_ble_eq_true rfl) rfl eX12_countsActs_37 (fun ng7 tg7 ag7 bg7 cg7 hg7 => ?_)
      obtain ⟨qg7_0, qg7_1, qg7_2, qg7_3, qg7_4, qg7_5, rfl, rfl, rfl, rfl, frg7⟩ := hg7
      have qg7_0b : ag7 31 22 = r + 1 := by first | exact qg7_0 | rw [qg7_0, h22] | (rw [qg7_0]; exact h22)
      have qg7_1b : ag7 31 23 = kd := by first | exact qg7_1 | rw [qg7_1, h23] | (rw [qg7_1]; exact h23)
      have qg7_2b : ag7 31 24 = i := by first | exact qg7_2 | rw [qg7_2, h24] | (rw [qg7_2]; exact h24)
      have qg7_3b : ag7 31 25 = v := by first | exact qg7_3 | rw [qg7_3, h25] | (rw [qg7_3]; exact h25)
      have frvig7 : ∀ k : Nat, (¬ k = 31 ∧ ¬ k = 44) → ag7 k = vi k := fun k hk => (frg7 k (by omega))
      refine vx_aload_n hC 0 rfl eX12_countsActs_40 ?_
      refine vx_iload_n hC 1 rfl eX12_countsActs_41 ?_
      refine vx_iconst hC eX12_countsActs_42 ?_
      refine vx_isub hC eX12_countsActs_43 ?_
      refine vx_callV_i hC (kX12_plainCounts G d _ _ _ _ _ hO kd i v (r + 1) qg7_0b qg7_1b qg7_2b qg7_3b hkd (x - 1) (by omega)) ly_X12_251 (ot_31 hO) rfl rfl rfl hRm (by omega) (Nat.le_of_ble_eq_true rfl) rfl eX12_countsActs_44 (fun x8 ng9 tg9 ag9 bg9 cg9 hg9 => ?_)
      obtain ⟨hx8, qg9_0, qg9_1, qg9_2, qg9_3, qg9_4, qg9_5, rfl, rfl, rfl, rfl, frg9⟩ := hg9
      have qg9_0b : ag9 31 22 = r + 1 + ((a_pC kd i v (x - 1)).2.length : Int) := by first | exact qg9_0 | rw [qg9_0, qg7_0b] | (rw [qg9_0]; exact qg7_0b)
      have qg9_1b : ag9 31 23 = kd := by first | exact qg9_1 | rw [qg9_1, qg7_1b] | (rw [qg9_1]; exact qg7_1b)
      have qg9_2b : ag9 31 24 = i := by first | exact qg9_2 | rw [qg9_2, qg7_2b] | (rw [qg9_2]; exact qg7_2b)
      have qg9_3b : ag9 31 25 = v := by first | exact qg9_3 | rw [qg9_3, qg7_3b] | (rw [qg9_3]; exact qg7_3b)
      have qg9_4b : ag9 31 3 = vi 31 3 := by first | exact qg9_4 | rw [qg9_4, qg7_4] | (rw [qg9_4]; exact qg7_4)
      have qg9_5b : ag9 44 = bput (fu (vi 44) (r) 41) (r + 1) (a_pC kd i v (x - 1)).2 := by first | exact qg9_5 | rw [qg9_5, qg7_5] | (rw [qg9_5]; exact qg7_5)
      have frvig9 : ∀ k : Nat, (¬ k = 31 ∧ ¬ k = 44) → ag9 k = vi k := fun k hk => (frg9 k (by omega)).trans (frvig7 k hk)
      refine vx_istore_n hC (lv1 := [(2, xa_i x8), (0, xa_r 31), (1, xa_i x)]) (by decide) rfl eX12_countsActs_47 ?_
      refine vx_iload_n hC 0 rfl eX12_countsActs_48 ?_
      refine vx_aload_n hC 1 rfl eX12_countsActs_49 ?_
      refine vx_iconst hC eX12_countsActs_50 ?_
      refine vx_callV_i hC (kX12_stakesActs G (d + 3) _ _ _ _ _ hO kd i v (r + 1 + ((a_pC kd i v (x - 1)).2.length : Int)) qg9_0b qg9_1b qg9_2b qg9_3b hkd 2 (by omega)) ly_X12_239 (ot_31 hO) rfl rfl rfl hRm (by omega) (Nat.le_of_ble_eq_true rfl) rfl eX12_countsActs_51 (fun x10 ng11 tg11 ag11 bg11 cg11 hg11 => ?_)
      obtain ⟨hx10, qg11_0, qg11_1, qg11_2, qg11_3, qg11_4, qg11_5, rfl, rfl, rfl, rfl, frg11⟩ := hg11
      have qg11_0b : ag11 31 22 = r + 1 + ((a_pC kd i v (x - 1)).2.length : Int) + ((a_S kd i 2).2.length : Int) := by first | exact qg11_0 | rw [qg11_0, qg9_0b] | (rw [qg11_0]; exact qg9_0b)
      have qg11_1b : ag11 31 23 = kd := by first | exact qg11_1 | rw [qg11_1, qg9_1b] | (rw [qg11_1]; exact qg9_1b)
      have qg11_2b : ag11 31 24 = i := by first | exact qg11_2 | rw [qg11_2, qg9_2b] | (rw [qg11_2]; exact qg9_2b)
      have qg11_3b : ag11 31 25 = v := by first | exact qg11_3 | rw [qg11_3, qg9_3b] | (rw [qg11_3]; exact qg9_3b)
      have qg11_4b : ag11 31 3 = vi 31 3 := by first | exact qg11_4 | rw [qg11_4, qg9_4b] | (rw [qg11_4]; exact qg9_4b)
      have qg11_5b : ag11 44 = bput (bput (fu (vi 44) (r) 41) (r + 1) (a_pC kd i v (x - 1)).2) (r + 1 + ((a_pC kd i v (x - 1)).2.length : Int)) (a_S kd i 2).2 := by first | exact qg11_5 | rw [qg11_5, qg9_5b] | (rw [qg11_5]; exact qg9_5b)
      have frvig11 : ∀ k : Nat, (¬ k = 31 ∧ ¬ k = 44) → ag11 k = vi k := fun k hk => (frg11 k (by omega)).trans (frvig9 k hk)
      refine vx_iadd hC eX12_countsActs_54 ?_
      exact vx_iret hC hM rfl eX12_countsActs_55 (⟨_, rfl, (by unfold a_C; (repeat (first | rw [if_pos (by omega)] | rw [if_neg (by omega)])); all_goals (first | rfl | (subst_vars; rfl) | omega)), (by unfold a_C; (repeat (first | rw [if_pos (by omega)] | rw [if_neg (by omega)])); all_goals (first | exact qg11_0b | (rw [qg11_0b]; omega) | (rw [qg11_0b]; simp only [List.length_cons, List.length_nil, List.length_append]; omega))), qg11_1b, qg11_2b, qg11_3b, qg11_4b, (by unfold a_C; (repeat (first | rw [if_pos (by omega)] | rw [if_neg (by omega)])); all_goals (first | exact qg11_5b | (rw [qg11_5b]; rfl) | (rw [qg11_5b, bput, bput_app]))), rfl, rfl, rfl, rfl, fun k hk => frvig11 k hk⟩)
  · refine vx_aload_n hC 0 rfl eX12_countsActs_11 ?_
    refine vx_bipush hC (by decide) eX12_countsActs_12 ?_
    refine vx_callV_v hC (kX12_ranBody G (d + 5) _ _ _ _ _ hO kd i v (r) h22 h23 h24 h25 hkd 31 (by omega) (by omega)) ly_X12_222 (ot_31 hO) rfl rfl rfl hRm (by omega) (Nat.le_of_ble_eq_true rfl) rfl eX12_countsActs_14 (fun ng13 tg13 ag13 bg13 cg13 hg13 => ?_)
    obtain ⟨qg13_0, qg13_1, qg13_2, qg13_3, qg13_4, qg13_5, rfl, rfl, rfl, rfl, frg13⟩ := hg13
    have qg13_0b : ag13 31 22 = r + 1 := by first | exact qg13_0 | rw [qg13_0, h22] | (rw [qg13_0]; exact h22)
    have qg13_1b : ag13 31 23 = kd := by first | exact qg13_1 | rw [qg13_1, h23] | (rw [qg13_1]; exact h23)
    have qg13_2b : ag13 31 24 = i := by first | exact qg13_2 | rw [qg13_2, h24] | (rw [qg13_2]; exact h24)
    have qg13_3b : ag13 31 25 = v := by first | exact qg13_3 | rw [qg13_3, h25] | (rw [qg13_3]; exact h25)
    have frvig13 : ∀ k : Nat, (¬ k = 31 ∧ ¬ k = 44) → ag13 k = vi k := fun k hk => (frg13 k (by omega))
    refine vx_aload_n hC 0 rfl eX12_countsActs_17 ?_
    refine vx_iload_n hC 1 rfl eX12_countsActs_18 ?_
    refine vx_callV_i hC (kX12_plainCounts G d _ _ _ _ _ hO kd i v (r + 1) qg13_0b qg13_1b qg13_2b qg13_3b hkd x (by omega)) ly_X12_251 (ot_31 hO) rfl rfl rfl hRm (by omega) (Nat.le_of_ble_eq_true rfl) rfl eX12_countsActs_19 (fun x14 ng15 tg15 ag15 bg15 cg15 hg15 => ?_)
    obtain ⟨hx14, qg15_0, qg15_1, qg15_2, qg15_3, qg15_4, qg15_5, rfl, rfl, rfl, rfl, frg15⟩ := hg15
    have qg15_0b : ag15 31 22 = r + 1 + ((a_pC kd i v x).2.length : Int) := by first | exact qg15_0 | rw [qg15_0, qg13_0b] | (rw [qg15_0]; exact qg13_0b)
    have qg15_1b : ag15 31 23 = kd := by first | exact qg15_1 | rw [qg15_1, qg13_1b] | (rw [qg15_1]; exact qg13_1b)
    have qg15_2b : ag15 31 24 = i := by first | exact qg15_2 | rw [qg15_2, qg13_2b] | (rw [qg15_2]; exact qg13_2b)
    have qg15_3b : ag15 31 25 = v := by first | exact qg15_3 | rw [qg15_3, qg13_3b] | (rw [qg15_3]; exact qg13_3b)
    have qg15_4b : ag15 31 3 = vi 31 3 := by first | exact qg15_4 | rw [qg15_4, qg13_4] | (rw [qg15_4]; exact qg13_4)
    have qg15_5b : ag15 44 = bput (fu (vi 44) (r) 31) (r + 1) (a_pC kd i v x).2 := by first | exact qg15_5 | rw [qg15_5, qg13_5] | (rw [qg15_5]; exact qg13_5)
    have frvig15 : ∀ k : Nat, (¬ k = 31 ∧ ¬ k = 44) → ag15 k = vi k := fun k hk => (frg15 k (by omega)).trans (frvig13 k hk)
    refine vx_bipush hC (by decide) eX12_countsActs_22 ?_
    refine vx_ixor hC eX12_countsActs_24 ?_
    exact vx_iret hC hM rfl eX12_countsActs_25 (⟨_, rfl, (by unfold a_C; (repeat (first | rw [if_pos (by omega)] | rw [if_neg (by omega)])); all_goals (first | rfl | (subst_vars; rfl) | omega)), (by unfold a_C; (repeat (first | rw [if_pos (by omega)] | rw [if_neg (by omega)])); all_goals (first | exact qg15_0b | (rw [qg15_0b]; omega) | (rw [qg15_0b]; simp only [List.length_cons, List.length_nil, List.length_append]; omega))), qg15_1b, qg15_2b, qg15_3b, qg15_4b, (by unfold a_C; (repeat (first | rw [if_pos (by omega)] | rw [if_neg (by omega)])); all_goals (first | exact qg15_5b | (rw [qg15_5b]; rfl) | (rw [qg15_5b, bput, bput_app]))), rfl, rfl, rfl, rfl, fun k hk => frvig15 k hk⟩)
/-- an act of a player: the answer, the bodies -/
def sp_act (s : Int → Int) (q a x : Int) : Int × List Int := if q < 0 ∨ s 0 ≤ q ∨ a < 0 ∨ 2 < a then (0, []) else if a = 0 then a_S (s (10 + q)) q x else if a = 1 then a_T (s (10 + q)) q (s (14 + q)) x else a_C (s (10 + q)) q (s (14 + q)) x
