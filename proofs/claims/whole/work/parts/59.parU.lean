theorem pTab_s (h : Int → Int) (k : Nat) (sp lim : Int) (em : List Int) (cl : List (List Int × Int)) : pTab h (k + 1) sp lim em cl = if (pCl h sp lim).1 = 0 ∧ 0 < k ∧ h (pCl h sp lim).2.1 = 59 then pTab h k ((pCl h sp lim).2.1 + 1) (pCl h sp lim).2.2.2.2 (em ++ pEm (pCl h sp lim)) (cl ++ pCs (pCl h sp lim)) else ((pCl h sp lim).1, (pCl h sp lim).2.1, (pCl h sp lim).2.2.2.2, em ++ pEm (pCl h sp lim), cl ++ pCs (pCl h sp lim)) := by rw [pTab]
set_option maxHeartbeats 4000000 in
set_option maxRecDepth 100000 in
theorem kX12_table (G : xg_T) (d : Nat) (n : Nat) (tau : Nat → Nat × Nat) (vi vl : Nat → Int → Int) (vr : Nat → Int → Option Nat) (hI : MI n tau vi vr)  : xm G yX12_table cX12_table 2 (some .int) (d + 27) 0 0 [xa_r 31] n tau vi vl vr (xp_i (fun z9 n1 t1 a1 b1 c1 => z9 = (sp_table (vi 32)).1 ∧ mq ((sp_table (vi 32)).2) (vi 33) (vi 31 3) (vi 31 22) (vi 44) n tau vi vl vr n1 t1 a1 b1 c1)) := by
  refine xm.of (lv := [(0, xa_r 31)]) (by decide) (Nat.le_of_ble_eq_true rfl) rfl (fun K hC hM hRm => ?_)
  obtain ⟨hO, ⟨⟨hr, h0, h1, h2, h3, h4, h5, h6, hp0, hrow, hwon, htape, htab⟩, h60⟩, him, hran, hz1, hz2⟩ := hI
  have hW : ms_W (vi 32) := ⟨hr, h0, h1, h2, h3, h4, h5, h6, hp0, hrow, hwon, htape, htab⟩
  refine vx_aload_n hC 0 rfl eX12_table_0 ?_
  refine vx_gr hC 1 (ot_31 hO) lf_X12_9 rfl (or_31_1 hO) eX12_table_1 ?_
  refine vx_iconst hC eX12_table_4 ?_
  refine vx_iaload hC (ot_32 hO) (by omega) (by omega) eX12_table_5 ?_
  refine vx_iconst hC eX12_table_6 ?_
  refine vx_icmp_ne hC (tgt := 13) (by omega) (by decide) eX12_table_7 (fun c1 => ?_) (fun c1 => ?_)
  · refine vx_aload_n hC 0 rfl eX12_table_13 ?_
    refine vx_aload_n hC 0 rfl eX12_table_14 ?_
    refine vx_gr hC 1 (ot_31 hO) lf_X12_9 rfl (or_31_1 hO) eX12_table_15 ?_
    refine vx_iconst hC eX12_table_18 ?_
    refine vx_iaload hC (ot_32 hO) (by omega) (by omega) eX12_table_19 ?_
    refine vx_top (fun x2 hx2 => ?_)
    refine vx_pi hC 4 (ot_31 hO) lp_X12_88 rfl (Or.inl rfl) (Or.inl rfl) eX12_table_20 ?_
    refine vx_vi (fun v3 hv3 => ?_)
    have hv3_32 : v3 32 = vi 32 := by rw [hv3, xu_c _ _ _ _ (by decide)]
    have hv3_31_4 : v3 31 4 = x2 := by rw [hv3, xu_k, fu_s]
    have hv3_31_5 : v3 31 5 = vi 31 5 := by rw [hv3, xu_k, fu_n _ _ _ (by decide)]
    have hv3_31_6 : v3 31 6 = vi 31 6 := by rw [hv3, xu_k, fu_n _ _ _ (by decide)]
    have hv3_31_7 : v3 31 7 = vi 31 7 := by rw [hv3, xu_k, fu_n _ _ _ (by decide)]
    have hv3_31_8 : v3 31 8 = vi 31 8 := by rw [hv3, xu_k, fu_n _ _ _ (by decide)]
    have hv3_31_3 : v3 31 3 = vi 31 3 := by rw [hv3, xu_k, fu_n _ _ _ (by decide)]
    have hv3_31_22 : v3 31 22 = vi 31 22 := by rw [hv3, xu_k, fu_n _ _ _ (by decide)]
    have frv3 : ∀ k : Nat, (¬ k = 31 ∧ ¬ k = 32) → v3 k = vi k := fun k hk => by rw [hv3, xu_c _ _ _ _ (by omega)]
    refine vx_aload_n hC 0 rfl eX12_table_23 ?_
    refine vx_aload_n hC 0 rfl eX12_table_24 ?_
    refine vx_gr hC 1 (ot_31 hO) lf_X12_9 rfl (or_31_1 hO) eX12_table_25 ?_
    refine vx_iconst hC eX12_table_28 ?_
    refine vx_iaload hC (ot_32 hO) (by omega) (by omega) eX12_table_29 ?_
    refine vx_eqi (congrFun hv3_32 _) ?_
    refine vx_top (fun x4 hx4 => ?_)
    refine vx_pi hC 6 (ot_31 hO) lp_X12_64 rfl (Or.inl rfl) (Or.inl rfl) eX12_table_30 ?_
    refine vx_vi (fun v5 hv5 => ?_)
    have hv5_32 : v5 32 = vi 32 := by rw [hv5, xu_c _ _ _ _ (by decide), hv3_32]
    have hv5_31_4 : v5 31 4 = x2 := by rw [hv5, xu_k, fu_n _ _ _ (by decide), hv3_31_4]
    have hv5_31_5 : v5 31 5 = vi 31 5 := by rw [hv5, xu_k, fu_n _ _ _ (by decide), hv3_31_5]
    have hv5_31_6 : v5 31 6 = x4 := by rw [hv5, xu_k, fu_s]
    have hv5_31_7 : v5 31 7 = vi 31 7 := by rw [hv5, xu_k, fu_n _ _ _ (by decide), hv3_31_7]
    have hv5_31_8 : v5 31 8 = vi 31 8 := by rw [hv5, xu_k, fu_n _ _ _ (by decide), hv3_31_8]
    have hv5_31_3 : v5 31 3 = vi 31 3 := by rw [hv5, xu_k, fu_n _ _ _ (by decide), hv3_31_3]
    have hv5_31_22 : v5 31 22 = vi 31 22 := by rw [hv5, xu_k, fu_n _ _ _ (by decide), hv3_31_22]
    have frv5 : ∀ k : Nat, (¬ k = 31 ∧ ¬ k = 32) → v5 k = vi k := fun k hk => by rw [hv5, xu_c _ _ _ _ (by omega)]; exact frv3 k hk
    refine vx_aload_n hC 0 rfl eX12_table_33 ?_
    refine vx_gr hC 1 (ot_31 hO) lf_X12_9 rfl (or_31_1 hO) eX12_table_34 ?_
    refine vx_iconst hC eX12_table_37 ?_
    refine vx_iconst hC eX12_table_38 ?_
    refine vx_iastore hC (ot_32 hO) (by omega) (by omega) eX12_table_39 ?_
    refine vx_vi (fun v6 hv6 => ?_)
    obtain ⟨f7, hf7⟩ : ∃ f, f = fu (vi 32) 3 0 := ⟨_, rfl⟩
    have hv6_32 : v6 32 = f7 := by rw [hv6, hf7, xu_k, hv5_32]
    have hv6_31_4 : v6 31 4 = x2 := by rw [hv6, xu_c _ _ _ _ (by decide), hv5_31_4]
    have hv6_31_5 : v6 31 5 = vi 31 5 := by rw [hv6, xu_c _ _ _ _ (by decide), hv5_31_5]
    have hv6_31_6 : v6 31 6 = x4 := by rw [hv6, xu_c _ _ _ _ (by decide), hv5_31_6]
    have hv6_31_7 : v6 31 7 = vi 31 7 := by rw [hv6, xu_c _ _ _ _ (by decide), hv5_31_7]
    have hv6_31_8 : v6 31 8 = vi 31 8 := by rw [hv6, xu_c _ _ _ _ (by decide), hv5_31_8]
    have hv6_31_3 : v6 31 3 = vi 31 3 := by rw [hv6, xu_c _ _ _ _ (by decide), hv5_31_3]
    have hv6_31_22 : v6 31 22 = vi 31 22 := by rw [hv6, xu_c _ _ _ _ (by decide), hv5_31_22]
    have frv6 : ∀ k : Nat, (¬ k = 31 ∧ ¬ k = 32) → v6 k = vi k := fun k hk => by rw [hv6, xu_c _ _ _ _ (by omega)]; exact frv5 k hk
    refine vx_aload_n hC 0 rfl eX12_table_40 ?_
    refine vx_gr hC 1 (ot_31 hO) lf_X12_9 rfl (or_31_1 hO) eX12_table_41 ?_
    refine vx_sipush hC (by decide) eX12_table_44 ?_
    refine vx_aload_n hC 0 rfl eX12_table_47 ?_
    refine vx_gi hC 4 (ot_31 hO) lf_X12_88 rfl eX12_table_48 ?_
    refine vx_eqi hv6_31_4 ?_
    refine vx_iadd hC eX12_table_51 ?_
    refine vx_bipush hC (by decide) eX12_table_52 ?_
    refine vx_top2 (fun x8 hx8 => ?_)
    refine vx_iastore hC (ot_32 hO) (by omega) (by omega) eX12_table_54 ?_
    refine vx_vi (fun v9 hv9 => ?_)
    obtain ⟨f10, hf10⟩ : ∃ f, f = fu (f7) x8 99 := ⟨_, rfl⟩
    have hv9_32 : v9 32 = f10 := by rw [hv9, hf10, xu_k, hv6_32]
    have hv9_31_4 : v9 31 4 = x2 := by rw [hv9, xu_c _ _ _ _ (by decide), hv6_31_4]
    have hv9_31_5 : v9 31 5 = vi 31 5 := by rw [hv9, xu_c _ _ _ _ (by decide), hv6_31_5]
    have hv9_31_6 : v9 31 6 = x4 := by rw [hv9, xu_c _ _ _ _ (by decide), hv6_31_6]
    have hv9_31_7 : v9 31 7 = vi 31 7 := by rw [hv9, xu_c _ _ _ _ (by decide), hv6_31_7]
    have hv9_31_8 : v9 31 8 = vi 31 8 := by rw [hv9, xu_c _ _ _ _ (by decide), hv6_31_8]
    have hv9_31_3 : v9 31 3 = vi 31 3 := by rw [hv9, xu_c _ _ _ _ (by decide), hv6_31_3]
    have hv9_31_22 : v9 31 22 = vi 31 22 := by rw [hv9, xu_c _ _ _ _ (by decide), hv6_31_22]
    have frv9 : ∀ k : Nat, (¬ k = 31 ∧ ¬ k = 32) → v9 k = vi k := fun k hk => by rw [hv9, xu_c _ _ _ _ (by omega)]; exact frv6 k hk
    refine vx_aload_n hC 0 rfl eX12_table_55 ?_
    refine vx_gr hC 1 (ot_31 hO) lf_X12_9 rfl (or_31_1 hO) eX12_table_56 ?_
    refine vx_sipush hC (by decide) eX12_table_59 ?_
    refine vx_aload_n hC 0 rfl eX12_table_62 ?_
    refine vx_gi hC 4 (ot_31 hO) lf_X12_88 rfl eX12_table_63 ?_
    refine vx_eqi hv9_31_4 ?_
    refine vx_iadd hC eX12_table_66 ?_
    refine vx_iconst hC eX12_table_67 ?_
    refine vx_top2 (fun x11 hx11 => ?_)
    refine vx_iastore hC (ot_32 hO) (by omega) (by omega) eX12_table_68 ?_
    refine vx_vi (fun v12 hv12 => ?_)
    obtain ⟨f13, hf13⟩ : ∃ f, f = fu (f10) x11 0 := ⟨_, rfl⟩
    have hv12_32 : v12 32 = f13 := by rw [hv12, hf13, xu_k, hv9_32]
    have hv12_31_4 : v12 31 4 = x2 := by rw [hv12, xu_c _ _ _ _ (by decide), hv9_31_4]
    have hv12_31_5 : v12 31 5 = vi 31 5 := by rw [hv12, xu_c _ _ _ _ (by decide), hv9_31_5]
    have hv12_31_6 : v12 31 6 = x4 := by rw [hv12, xu_c _ _ _ _ (by decide), hv9_31_6]
    have hv12_31_7 : v12 31 7 = vi 31 7 := by rw [hv12, xu_c _ _ _ _ (by decide), hv9_31_7]
    have hv12_31_8 : v12 31 8 = vi 31 8 := by rw [hv12, xu_c _ _ _ _ (by decide), hv9_31_8]
    have hv12_31_3 : v12 31 3 = vi 31 3 := by rw [hv12, xu_c _ _ _ _ (by decide), hv9_31_3]
    have hv12_31_22 : v12 31 22 = vi 31 22 := by rw [hv12, xu_c _ _ _ _ (by decide), hv9_31_22]
    have frv12 : ∀ k : Nat, (¬ k = 31 ∧ ¬ k = 32) → v12 k = vi k := fun k hk => by rw [hv12, xu_c _ _ _ _ (by omega)]; exact frv9 k hk
    refine vx_aload_n hC 0 rfl eX12_table_69 ?_
    refine vx_iconst hC eX12_table_70 ?_
    refine vx_pi hC 5 (ot_31 hO) lp_X12_61 rfl (Or.inl rfl) (Or.inl rfl) eX12_table_71 ?_
    refine vx_vi (fun v14 hv14 => ?_)
    have hv14_32 : v14 32 = f13 := by rw [hv14, xu_c _ _ _ _ (by decide), hv12_32]
    have hv14_31_4 : v14 31 4 = x2 := by rw [hv14, xu_k, fu_n _ _ _ (by decide), hv12_31_4]
    have hv14_31_5 : v14 31 5 = 0 := by rw [hv14, xu_k, fu_s]
    have hv14_31_6 : v14 31 6 = x4 := by rw [hv14, xu_k, fu_n _ _ _ (by decide), hv12_31_6]
    have hv14_31_7 : v14 31 7 = vi 31 7 := by rw [hv14, xu_k, fu_n _ _ _ (by decide), hv12_31_7]
    have hv14_31_8 : v14 31 8 = vi 31 8 := by rw [hv14, xu_k, fu_n _ _ _ (by decide), hv12_31_8]
    have hv14_31_3 : v14 31 3 = vi 31 3 := by rw [hv14, xu_k, fu_n _ _ _ (by decide), hv12_31_3]
    have hv14_31_22 : v14 31 22 = vi 31 22 := by rw [hv14, xu_k, fu_n _ _ _ (by decide), hv12_31_22]
    have frv14 : ∀ k : Nat, (¬ k = 31 ∧ ¬ k = 32) → v14 k = vi k := fun k hk => by rw [hv14, xu_c _ _ _ _ (by omega)]; exact frv12 k hk
    refine vx_aload_n hC 0 rfl eX12_table_74 ?_
    refine vx_iconst hC eX12_table_75 ?_
    refine vx_pi hC 7 (ot_31 hO) lp_X12_67 rfl (Or.inl rfl) (Or.inr ⟨rfl, by omega⟩) eX12_table_76 ?_
    refine vx_vi (fun v15 hv15 => ?_)
    have hv15_32 : v15 32 = f13 := by rw [hv15, xu_c _ _ _ _ (by decide), hv14_32]
    have hv15_31_4 : v15 31 4 = x2 := by rw [hv15, xu_k, fu_n _ _ _ (by decide), hv14_31_4]
    have hv15_31_5 : v15 31 5 = 0 := by rw [hv15, xu_k, fu_n _ _ _ (by decide), hv14_31_5]
    have hv15_31_6 : v15 31 6 = x4 := by rw [hv15, xu_k, fu_n _ _ _ (by decide), hv14_31_6]
    have hv15_31_7 : v15 31 7 = 0 := by rw [hv15, xu_k, fu_s]
    have hv15_31_8 : v15 31 8 = vi 31 8 := by rw [hv15, xu_k, fu_n _ _ _ (by decide), hv14_31_8]
    have hv15_31_3 : v15 31 3 = vi 31 3 := by rw [hv15, xu_k, fu_n _ _ _ (by decide), hv14_31_3]
    have hv15_31_22 : v15 31 22 = vi 31 22 := by rw [hv15, xu_k, fu_n _ _ _ (by decide), hv14_31_22]
    have frv15 : ∀ k : Nat, (¬ k = 31 ∧ ¬ k = 32) → v15 k = vi k := fun k hk => by rw [hv15, xu_c _ _ _ _ (by omega)]; exact frv14 k hk
    refine vx_aload_n hC 0 rfl eX12_table_79 ?_
    refine vx_iconst hC eX12_table_80 ?_
    refine vx_pi hC 8 (ot_31 hO) lp_X12_91 rfl (Or.inl rfl) (Or.inl rfl) eX12_table_81 ?_
    refine vx_vi (fun v16 hv16 => ?_)
    have hv16_32 : v16 32 = f13 := by rw [hv16, xu_c _ _ _ _ (by decide), hv15_32]
    have hv16_31_4 : v16 31 4 = x2 := by rw [hv16, xu_k, fu_n _ _ _ (by decide), hv15_31_4]
    have hv16_31_5 : v16 31 5 = 0 := by rw [hv16, xu_k, fu_n _ _ _ (by decide), hv15_31_5]
    have hv16_31_6 : v16 31 6 = x4 := by rw [hv16, xu_k, fu_n _ _ _ (by decide), hv15_31_6]
    have hv16_31_7 : v16 31 7 = 0 := by rw [hv16, xu_k, fu_n _ _ _ (by decide), hv15_31_7]
    have hv16_31_8 : v16 31 8 = 0 := by rw [hv16, xu_k, fu_s]
    have hv16_31_3 : v16 31 3 = vi 31 3 := by rw [hv16, xu_k, fu_n _ _ _ (by decide), hv15_31_3]
    have hv16_31_22 : v16 31 22 = vi 31 22 := by rw [hv16, xu_k, fu_n _ _ _ (by decide), hv15_31_22]
    have frv16 : ∀ k : Nat, (¬ k = 31 ∧ ¬ k = 32) → v16 k = vi k := fun k hk => by rw [hv16, xu_c _ _ _ _ (by omega)]; exact frv15 k hk
    obtain ⟨ac, hac9⟩ : ∃ z : Int, z = vi 32 1 := ⟨_, rfl⟩
    obtain ⟨en, hen9⟩ : ∃ z : Int, z = vi 32 3 := ⟨_, rfl⟩
    obtain ⟨h, hh9⟩ : ∃ f : Int → Int, f = ph (vi 32) (vi 32 3) := ⟨_, rfl⟩
    obtain ⟨u0, hu9⟩ : ∃ f : Int → Int, f = fu (vi 32) 3 0 := ⟨_, rfl⟩
    have hen0 : pH h u0 en := by rw [hh9, hu9, hen9]; exact pH_ph hW
    have hac : 0 ≤ ac ∧ ac ≤ 4 := by omega
    have hnil : (([] : List Int).length : Int) = 0 := rfl
    have he := hen0.1
    have hh := hen0.2
    have e32 : v16 32 = pput (fu u0 (166 + ac) 99) ac [] := by rw [hv16_32, hf13, hf10, hf7]; rw [← pput_nil, hu9]; congr 1; (first | rfl | omega | (simp only [hx2, hx4, hx8, hx11]; rfl) | skip); all_goals (first | rfl | omega | (congr 1; omega))
    have e314 : v16 31 4 = ac := by rw [hv16_31_4]; omega
    have e316 : v16 31 6 = en := by rw [hv16_31_6]; omega
    refine vx_iconst hC eX12_table_84 ?_
    refine vx_istore_n hC (lv1 := [(1, xa_i 1), (0, xa_r 31)]) (by decide) rfl eX12_table_85 ?_
    refine vx_aload_n hC 1 rfl eX12_table_86 ?_
    refine vx_callV_v hC (kX12_clauseHere G d _ _ _ _ _ hO h (fu u0 (166 + ac) 99) ac en 0 ([]) e32 e314 hv16_31_5 e316 hv16_31_7 hv16_31_8 hac (hen0.fu (by omega)) (by omega) (by omega) (by omega) 99 (fu_s _ _ _)) ly_X12_134 (ot_31 hO) rfl rfl rfl hRm (by omega) (Nat.le_of_ble_eq_true rfl) rfl eX12_table_87 (fun ng18 tg18 ag18 bg18 cg18 hg18 => ?_)
    obtain ⟨qg18_0, qg18_1, qg18_2, qg18_3, qg18_4, qg18_5, qg18_6, qg18_7, rfl, rfl, rfl, rfl, frg18⟩ := hg18
    have qg18_0b : ag18 32 = pput (fu (fu u0 (166 + ac) 99) (166 + ac) (pCl h 0 99).2.2.2.2) ac (([]) ++ pEm (pCl h 0 99)) := by first | exact qg18_0 | rw [qg18_0, e32] | (rw [qg18_0]; exact e32)
    have qg18_1b : ag18 31 4 = ac := by first | exact qg18_1 | rw [qg18_1, e314] | (rw [qg18_1]; exact e314)
    have qg18_2b : ag18 31 5 = (pCl h 0 99).2.1 := by first | exact qg18_2 | rw [qg18_2, hv16_31_5] | (rw [qg18_2]; exact hv16_31_5)
    have qg18_3b : ag18 31 6 = en := by first | exact qg18_3 | rw [qg18_3, e316] | (rw [qg18_3]; exact e316)
    have qg18_4b : ag18 31 7 = (pCl h 0 99).1 := by first | exact qg18_4 | rw [qg18_4, hv16_31_7] | (rw [qg18_4]; exact hv16_31_7)
    have qg18_5b : ag18 31 8 = 0 := by first | exact qg18_5 | rw [qg18_5, hv16_31_8] | (rw [qg18_5]; exact hv16_31_8)
    have qg18_6b : ag18 31 3 = vi 31 3 := by first | exact qg18_6 | rw [qg18_6, hv16_31_3] | (rw [qg18_6]; exact hv16_31_3)
    have qg18_7b : ag18 31 22 = vi 31 22 := by first | exact qg18_7 | rw [qg18_7, hv16_31_22] | (rw [qg18_7]; exact hv16_31_22)
    have frvig18 : ∀ k : Nat, (¬ k = 31 ∧ ¬ k = 32) → ag18 k = vi k := fun k hk => (frg18 k (by omega)).trans (frv16 k hk)
    obtain ⟨sp19, hsp19⟩ : ∃ z : Int, z = (pCl h 0 99).2.1 := ⟨_, rfl⟩
    have esp19 : ag18 31 5 = sp19 := by rw [hsp19]; exact qg18_2b
    obtain ⟨w20, hw20⟩ : ∃ z : Int, z = (pCl h 0 99).1 := ⟨_, rfl⟩
    have ew20 : ag18 31 7 = w20 := by rw [hw20]; exact qg18_4b
    obtain ⟨L21, hL21⟩ : ∃ z : List Int, z = ([]) ++ pEm (pCl h 0 99) := ⟨_, rfl⟩
    have eL21 : ag18 32 = pput (fu (fu u0 (166 + ac) 99) (166 + ac) (pCl h 0 99).2.2.2.2) ac L21 := by rw [hL21]; exact qg18_0b
    have hoksp19 := pCl_ok hen0 (sp := 0) (lim := 99) (by omega) (by omega)
    obtain ⟨lm22, hlm22⟩ : ∃ z : Int, z = (pCl h 0 99).2.2.2.2 := ⟨_, rfl⟩
    have eulm22 : ag18 32 = pput (fu u0 (166 + ac) lm22) ac L21 := by rw [hlm22, eL21, fu_fu]
    obtain ⟨k1sp19, k2sp19, k3sp19, k4sp19, k5sp19, k6sp19, k7sp19⟩ := hoksp19
    have hlllm22 : (L21.length : Int) = ((([]) : List Int).length : Int) + ((pEm (pCl h 0 99)).length : Int) := by rw [hL21, List.length_append]; omega
    have LP90 : ∀ (j : Nat) (k : Nat) (nn : Int) (sp1 : Int) (w1 : Int) (lim1 : Int) (em1 : List Int) (cl1 : List (List Int × Int)) (m2 : Nat → Int → Int) (hk : nn + (k : Int) = 10 ∧ 1 ≤ nn) (hs1 : 0 ≤ sp1 ∧ sp1 ≤ en) (hw1 : w1 = 0 ∨ w1 = 1) (hem : (em1.length : Int) ≤ sp1) (hlm : 1 ≤ lim1 ∧ lim1 ≤ 99) (hres : (if w1 = 0 ∧ 0 < k ∧ h sp1 = 59 then pTab h k (sp1 + 1) lim1 em1 cl1 else (w1, sp1, lim1, em1, cl1)) = tbR (vi 32)) (eq0 : m2 32 = pput (fu u0 (166 + ac) lim1) ac em1) (eq1 : m2 31 4 = ac) (eq2 : m2 31 5 = sp1) (eq3 : m2 31 6 = en) (eq4 : m2 31 7 = w1) (eq5 : m2 31 8 = 0) (eq6 : m2 31 3 = vi 31 3) (eq7 : m2 31 22 = vi 31 22) (frq : ∀ k : Nat, (¬ k = 31 ∧ ¬ k = 32) → m2 k = vi k) (hj : (k : Int) < (j : Int)), xv G K 2 (xk_Q G K (xp_i (fun z9 n1 t1 a1 b1 c1 => z9 = (sp_table (vi 32)).1 ∧ mq ((sp_table (vi 32)).2) (vi 33) (vi 31 3) (vi 31 22) (vi 44) n tau vi vl vr n1 t1 a1 b1 c1)) 0 0) 0 0 n tau m2 vl vr 90 [(1, xa_i nn), (0, xa_r 31)] [] := by
      intro j
      induction j with
      | zero => intro k nn sp1 w1 lim1 em1 cl1 m2 hk hs1 hw1 hem hlm hres eq0 eq1 eq2 eq3 eq4 eq5 eq6 eq7 frq hj; exfalso; omega
      | succ j ih =>
        intro k nn sp1 w1 lim1 em1 cl1 m2 hk hs1 hw1 hem hlm hres eq0 eq1 eq2 eq3 eq4 eq5 eq6 eq7 frq hj
        refine vx_aload_n hC 1 rfl eX12_table_90 ?_
        refine vx_gi hC 7 (ot_31 hO) lf_X12_67 rfl eX12_table_91 ?_
        refine vx_eqi eq4 ?_
        refine vx_if_ne hC (tgt := 132) (by omega) (by decide) eX12_table_94 (fun c23 => ?_) (fun c23 => ?_)
        · have hR : (w1, sp1, lim1, em1, cl1) = tbR (vi 32) := by rw [← hres, if_neg (by omega)]
          have hU : pput (fu u0 (166 + ac) lim1) ac em1 = tbU (vi 32) := by unfold tbU; rw [← hR, hu9, hac9]
          refine vx_aload_n hC 1 rfl eX12_table_132 ?_
          refine vx_gi hC 7 (ot_31 hO) lf_X12_67 rfl eX12_table_133 ?_
          refine vx_eqi eq4 ?_
          refine vx_if_ne hC (tgt := 150) (by omega) (by decide) eX12_table_136 (fun c24 => ?_) (fun c24 => ?_)
          · refine vx_bipush hC (by decide) eX12_table_150 ?_
            refine vx_aload_n hC 1 rfl eX12_table_152 ?_
            refine vx_gi hC 5 (ot_31 hO) lf_X12_61 rfl eX12_table_153 ?_
            refine vx_eqi eq2 ?_
            refine vx_isub hC eX12_table_156 ?_
            exact vx_iret hC hM rfl eX12_table_157 (⟨_, rfl, by unfold sp_table; rw [if_neg (by omega), ← hR, if_neg (by show ¬ (w1 = 0 ∧ sp1 = vi 32 3); omega)], rfl, rfl, rfl, by unfold sp_table; rw [if_neg (by omega), ← hR, if_neg (by show ¬ (w1 = 0 ∧ sp1 = vi 32 3); omega), ← hU]; exact eq0, frq 33 (by omega), eq6, eq7, frq 44 (by omega), fun k hk => ⟨frq k (by omega), rfl⟩⟩)
          · refine vx_aload_n hC 1 rfl eX12_table_139 ?_
            refine vx_gi hC 5 (ot_31 hO) lf_X12_61 rfl eX12_table_140 ?_
            refine vx_eqi eq2 ?_
            refine vx_aload_n hC 1 rfl eX12_table_143 ?_
            refine vx_gi hC 6 (ot_31 hO) lf_X12_64 rfl eX12_table_144 ?_
            refine vx_eqi eq3 ?_
            refine vx_icmp_eq hC (tgt := 158) (by omega) (by decide) eX12_table_147 (fun c25 => ?_) (fun c25 => ?_)
            · refine vx_aload_n hC 1 rfl eX12_table_158 ?_
              refine vx_gr hC 1 (ot_31 hO) lf_X12_9 rfl (or_31_1 hO) eX12_table_159 ?_
              refine vx_iconst hC eX12_table_162 ?_
              refine vx_dup2 hC rfl rfl eX12_table_163 ?_
              refine vx_iaload hC (ot_32 hO) (by omega) (by omega) eX12_table_164 ?_
              refine vx_eqi (congrFun eq0 _) ?_
              refine vx_eqi (y := ac) (by rw [pput_lo _ _ _ hac.1 (by omega), fu_n _ _ _ (by omega), hu9, fu_n _ _ _ (by omega), hac9]) ?_
              refine vx_iconst hC eX12_table_165 ?_
              refine vx_iadd hC eX12_table_166 ?_
              refine vx_top (fun x26 hx26 => ?_)
              refine vx_iastore hC (ot_32 hO) (by omega) (by omega) eX12_table_167 ?_
              refine vx_vi (fun v27 hv27 => ?_)
              obtain ⟨f28, hf28⟩ : ∃ f, f = fu (pput (fu u0 (166 + ac) lim1) ac em1) 1 x26 := ⟨_, rfl⟩
              have hv27_32 : v27 32 = f28 := by rw [hv27, hf28, xu_k, eq0]
              have hv27_31_4 : v27 31 4 = ac := by rw [hv27, xu_c _ _ _ _ (by decide), eq1]
              have hv27_31_5 : v27 31 5 = sp1 := by rw [hv27, xu_c _ _ _ _ (by decide), eq2]
              have hv27_31_6 : v27 31 6 = en := by rw [hv27, xu_c _ _ _ _ (by decide), eq3]
              have hv27_31_7 : v27 31 7 = w1 := by rw [hv27, xu_c _ _ _ _ (by decide), eq4]
              have hv27_31_8 : v27 31 8 = 0 := by rw [hv27, xu_c _ _ _ _ (by decide), eq5]
              have hv27_31_3 : v27 31 3 = vi 31 3 := by rw [hv27, xu_c _ _ _ _ (by decide), eq6]
              have hv27_31_22 : v27 31 22 = vi 31 22 := by rw [hv27, xu_c _ _ _ _ (by decide), eq7]
              have frv27 : ∀ k : Nat, (¬ k = 31 ∧ ¬ k = 32) → v27 k = vi k := fun k hk => by rw [hv27, xu_c _ _ _ _ (by omega)]; exact frq k hk
              refine vx_aload_n hC 1 rfl eX12_table_168 ?_
              refine vx_gr hC 1 (ot_31 hO) lf_X12_9 rfl (or_31_1 hO) eX12_table_169 ?_
              refine vx_iconst hC eX12_table_172 ?_
              refine vx_aload_n hC 1 rfl eX12_table_173 ?_
              refine vx_gi hC 4 (ot_31 hO) lf_X12_88 rfl eX12_table_174 ?_
              refine vx_eqi hv27_31_4 ?_
              refine vx_iastore hC (ot_32 hO) (by omega) (by omega) eX12_table_177 ?_
              refine vx_vi (fun v29 hv29 => ?_)
              obtain ⟨f30, hf30⟩ : ∃ f, f = fu (f28) 4 ac := ⟨_, rfl⟩
              have hv29_32 : v29 32 = f30 := by rw [hv29, hf30, xu_k, hv27_32]
              have hv29_31_4 : v29 31 4 = ac := by rw [hv29, xu_c _ _ _ _ (by decide), hv27_31_4]
              have hv29_31_5 : v29 31 5 = sp1 := by rw [hv29, xu_c _ _ _ _ (by decide), hv27_31_5]
              have hv29_31_6 : v29 31 6 = en := by rw [hv29, xu_c _ _ _ _ (by decide), hv27_31_6]
              have hv29_31_7 : v29 31 7 = w1 := by rw [hv29, xu_c _ _ _ _ (by decide), hv27_31_7]
              have hv29_31_8 : v29 31 8 = 0 := by rw [hv29, xu_c _ _ _ _ (by decide), hv27_31_8]
              have hv29_31_3 : v29 31 3 = vi 31 3 := by rw [hv29, xu_c _ _ _ _ (by decide), hv27_31_3]
              have hv29_31_22 : v29 31 22 = vi 31 22 := by rw [hv29, xu_c _ _ _ _ (by decide), hv27_31_22]
              have frv29 : ∀ k : Nat, (¬ k = 31 ∧ ¬ k = 32) → v29 k = vi k := fun k hk => by rw [hv29, xu_c _ _ _ _ (by omega)]; exact frv27 k hk
              refine vx_aload_n hC 1 rfl eX12_table_178 ?_
              refine vx_gi hC 4 (ot_31 hO) lf_X12_88 rfl eX12_table_179 ?_
              refine vx_eqi hv29_31_4 ?_
              exact vx_iret hC hM rfl eX12_table_182 (⟨_, rfl, by unfold sp_table; rw [if_neg (by omega), ← hR, if_pos (by show w1 = 0 ∧ sp1 = vi 32 3; omega)]; show _ = vi 32 1; omega, rfl, rfl, rfl, by unfold sp_table; rw [if_neg (by omega), ← hR, if_pos (by show w1 = 0 ∧ sp1 = vi 32 3; omega), ← hU, ← hac9]; rw [hv29_32, hf30, hf28]; show _ = fu (fu (pput (fu u0 (166 + ac) lim1) ac em1) 1 (ac + 1)) 4 ac; rw [show x26 = ac + 1 by omega], frv29 33 (by omega), hv29_31_3, hv29_31_22, frv29 44 (by omega), fun k hk => ⟨frv29 k (by omega), rfl⟩⟩)
            · refine vx_bipush hC (by decide) eX12_table_150 ?_
              refine vx_aload_n hC 1 rfl eX12_table_152 ?_
              refine vx_gi hC 5 (ot_31 hO) lf_X12_61 rfl eX12_table_153 ?_
              refine vx_eqi eq2 ?_
              refine vx_isub hC eX12_table_156 ?_
              exact vx_iret hC hM rfl eX12_table_157 (⟨_, rfl, by unfold sp_table; rw [if_neg (by omega), ← hR, if_neg (by show ¬ (w1 = 0 ∧ sp1 = vi 32 3); omega)], rfl, rfl, rfl, by unfold sp_table; rw [if_neg (by omega), ← hR, if_neg (by show ¬ (w1 = 0 ∧ sp1 = vi 32 3); omega), ← hU]; exact eq0, frq 33 (by omega), eq6, eq7, frq 44 (by omega), fun k hk => ⟨frq k (by omega), rfl⟩⟩)
        · have ew0 : m2 31 7 = 0 := by rw [eq4]; omega
          refine vx_iload_n hC 0 rfl eX12_table_97 ?_
          refine vx_bipush hC (by decide) eX12_table_98 ?_
          refine vx_icmp_ge hC (tgt := 132) (by omega) (by decide) eX12_table_100 (fun c31 => ?_) (fun c31 => ?_)
          · have hR : (w1, sp1, lim1, em1, cl1) = tbR (vi 32) := by rw [← hres, if_neg (by omega)]
            have hU : pput (fu u0 (166 + ac) lim1) ac em1 = tbU (vi 32) := by unfold tbU; rw [← hR, hu9, hac9]
            refine vx_aload_n hC 1 rfl eX12_table_132 ?_
            refine vx_gi hC 7 (ot_31 hO) lf_X12_67 rfl eX12_table_133 ?_
            refine vx_eqi ew0 ?_
            refine vx_if_ne hC (tgt := 150) (by omega) (by decide) eX12_table_136 (fun c32 => ?_) (fun c32 => ?_)
            · refine vx_bipush hC (by decide) eX12_table_150 ?_
              refine vx_aload_n hC 1 rfl eX12_table_152 ?_
              refine vx_gi hC 5 (ot_31 hO) lf_X12_61 rfl eX12_table_153 ?_
              refine vx_eqi eq2 ?_
              refine vx_isub hC eX12_table_156 ?_
              exact vx_iret hC hM rfl eX12_table_157 (⟨_, rfl, by unfold sp_table; rw [if_neg (by omega), ← hR, if_neg (by show ¬ (w1 = 0 ∧ sp1 = vi 32 3); omega)], rfl, rfl, rfl, by unfold sp_table; rw [if_neg (by omega), ← hR, if_neg (by show ¬ (w1 = 0 ∧ sp1 = vi 32 3); omega), ← hU]; exact eq0, frq 33 (by omega), eq6, eq7, frq 44 (by omega), fun k hk => ⟨frq k (by omega), rfl⟩⟩)
            · refine vx_aload_n hC 1 rfl eX12_table_139 ?_
              refine vx_gi hC 5 (ot_31 hO) lf_X12_61 rfl eX12_table_140 ?_
              refine vx_eqi eq2 ?_
              refine vx_aload_n hC 1 rfl eX12_table_143 ?_
              refine vx_gi hC 6 (ot_31 hO) lf_X12_64 rfl eX12_table_144 ?_
              refine vx_eqi eq3 ?_
              refine vx_icmp_eq hC (tgt := 158) (by omega) (by decide) eX12_table_147 (fun c33 => ?_) (fun c33 => ?_)
              · refine vx_aload_n hC 1 rfl eX12_table_158 ?_
                refine vx_gr hC 1 (ot_31 hO) lf_X12_9 rfl (or_31_1 hO) eX12_table_159 ?_
                refine vx_iconst hC eX12_table_162 ?_
                refine vx_dup2 hC rfl rfl eX12_table_163 ?_
                refine vx_iaload hC (ot_32 hO) (by omega) (by omega) eX12_table_164 ?_
                refine vx_eqi (congrFun eq0 _) ?_
                refine vx_eqi (y := ac) (by rw [pput_lo _ _ _ hac.1 (by omega), fu_n _ _ _ (by omega), hu9, fu_n _ _ _ (by omega), hac9]) ?_
                refine vx_iconst hC eX12_table_165 ?_
                refine vx_iadd hC eX12_table_166 ?_
                refine vx_top (fun x34 hx34 => ?_)
                refine vx_iastore hC (ot_32 hO) (by omega) (by omega) eX12_table_167 ?_
                refine vx_vi (fun v35 hv35 => ?_)
                obtain ⟨f36, hf36⟩ : ∃ f, f = fu (pput (fu u0 (166 + ac) lim1) ac em1) 1 x34 := ⟨_, rfl⟩
                have hv35_32 : v35 32 = f36 := by rw [hv35, hf36, xu_k, eq0]
                have hv35_31_4 : v35 31 4 = ac := by rw [hv35, xu_c _ _ _ _ (by decide), eq1]
                have hv35_31_5 : v35 31 5 = sp1 := by rw [hv35, xu_c _ _ _ _ (by decide), eq2]
                have hv35_31_6 : v35 31 6 = en := by rw [hv35, xu_c _ _ _ _ (by decide), eq3]
                have hv35_31_7 : v35 31 7 = 0 := by rw [hv35, xu_c _ _ _ _ (by decide), ew0]
                have hv35_31_8 : v35 31 8 = 0 := by rw [hv35, xu_c _ _ _ _ (by decide), eq5]
                have hv35_31_3 : v35 31 3 = vi 31 3 := by rw [hv35, xu_c _ _ _ _ (by decide), eq6]
                have hv35_31_22 : v35 31 22 = vi 31 22 := by rw [hv35, xu_c _ _ _ _ (by decide), eq7]
                have frv35 : ∀ k : Nat, (¬ k = 31 ∧ ¬ k = 32) → v35 k = vi k := fun k hk => by rw [hv35, xu_c _ _ _ _ (by omega)]; exact frq k hk
                refine vx_aload_n hC 1 rfl eX12_table_168 ?_
                refine vx_gr hC 1 (ot_31 hO) lf_X12_9 rfl (or_31_1 hO) eX12_table_169 ?_
                refine vx_iconst hC eX12_table_172 ?_
                refine vx_aload_n hC 1 rfl eX12_table_173 ?_
                refine vx_gi hC 4 (ot_31 hO) lf_X12_88 rfl eX12_table_174 ?_
                refine vx_eqi hv35_31_4 ?_
                refine vx_iastore hC (ot_32 hO) (by omega) (by omega) eX12_table_177 ?_
                refine vx_vi (fun v37 hv37 => ?_)
                obtain ⟨f38, hf38⟩ : ∃ f, f = fu (f36) 4 ac := ⟨_, rfl⟩
                have hv37_32 : v37 32 = f38 := by rw [hv37, hf38, xu_k, hv35_32]
                have hv37_31_4 : v37 31 4 = ac := by rw [hv37, xu_c _ _ _ _ (by decide), hv35_31_4]
                have hv37_31_5 : v37 31 5 = sp1 := by rw [hv37, xu_c _ _ _ _ (by decide), hv35_31_5]
                have hv37_31_6 : v37 31 6 = en := by rw [hv37, xu_c _ _ _ _ (by decide), hv35_31_6]
                have hv37_31_7 : v37 31 7 = 0 := by rw [hv37, xu_c _ _ _ _ (by decide), hv35_31_7]
                have hv37_31_8 : v37 31 8 = 0 := by rw [hv37, xu_c _ _ _ _ (by decide), hv35_31_8]
                have hv37_31_3 : v37 31 3 = vi 31 3 := by rw [hv37, xu_c _ _ _ _ (by decide), hv35_31_3]
                have hv37_31_22 : v37 31 22 = vi 31 22 := by rw [hv37, xu_c _ _ _ _ (by decide), hv35_31_22]
                have frv37 : ∀ k : Nat, (¬ k = 31 ∧ ¬ k = 32) → v37 k = vi k := fun k hk => by rw [hv37, xu_c _ _ _ _ (by omega)]; exact frv35 k hk
                refine vx_aload_n hC 1 rfl eX12_table_178 ?_
                refine vx_gi hC 4 (ot_31 hO) lf_X12_88 rfl eX12_table_179 ?_
                refine vx_eqi hv37_31_4 ?_
                exact vx_iret hC hM rfl eX12_table_182 (⟨_, rfl, by unfold sp_table; rw [if_neg (by omega), ← hR, if_pos (by show w1 = 0 ∧ sp1 = vi 32 3; omega)]; show _ = vi 32 1; omega, rfl, rfl, rfl, by unfold sp_table; rw [if_neg (by omega), ← hR, if_pos (by show w1 = 0 ∧ sp1 = vi 32 3; omega), ← hU, ← hac9]; rw [hv37_32, hf38, hf36]; show _ = fu (fu (pput (fu u0 (166 + ac) lim1) ac em1) 1 (ac + 1)) 4 ac; rw [show x34 = ac + 1 by omega], frv37 33 (by omega), hv37_31_3, hv37_31_22, frv37 44 (by omega), fun k hk => ⟨frv37 k (by omega), rfl⟩⟩)
              · refine vx_bipush hC (by decide) eX12_table_150 ?_
                refine vx_aload_n hC 1 rfl eX12_table_152 ?_
                refine vx_gi hC 5 (ot_31 hO) lf_X12_61 rfl eX12_table_153 ?_
                refine vx_eqi eq2 ?_
                refine vx_isub hC eX12_table_156 ?_
                exact vx_iret hC hM rfl eX12_table_157 (⟨_, rfl, by unfold sp_table; rw [if_neg (by omega), ← hR, if_neg (by show ¬ (w1 = 0 ∧ sp1 = vi 32 3); omega)], rfl, rfl, rfl, by unfold sp_table; rw [if_neg (by omega), ← hR, if_neg (by show ¬ (w1 = 0 ∧ sp1 = vi 32 3); omega), ← hU]; exact eq0, frq 33 (by omega), eq6, eq7, frq 44 (by omega), fun k hk => ⟨frq k (by omega), rfl⟩⟩)
          · refine vx_aload_n hC 1 rfl eX12_table_103 ?_
            refine vx_callV_i hC (kX12_hereP G (d + 25) _ _ _ _ _ hO h (fu u0 (166 + ac) lim1) ac en sp1 0 0 em1 eq0 eq1 eq2 eq3 ew0 eq5 hac (hen0.fu (by omega)) (by omega) (by omega) (by omega)) ly_X12_71 (ot_31 hO) rfl rfl rfl hRm (by omega) (Nat.le_of_ble_eq_true rfl) rfl eX12_table_104 (fun x39 n9 t9 a9 b9 c9 hx39 => ?_)
            obtain ⟨hx39, rfl, rfl, rfl, rfl, rfl⟩ := hx39
            have hrx39 := hh sp1
            refine vx_bipush hC (by decide) eX12_table_107 ?_
            refine vx_icmp_ne hC (tgt := 132) (by omega) (by decide) eX12_table_109 (fun c40 => ?_) (fun c40 => ?_)
            · have hR : (w1, sp1, lim1, em1, cl1) = tbR (vi 32) := by rw [← hres, if_neg (by omega)]
              have hU : pput (fu u0 (166 + ac) lim1) ac em1 = tbU (vi 32) := by unfold tbU; rw [← hR, hu9, hac9]
              refine vx_aload_n hC 1 rfl eX12_table_132 ?_
              refine vx_gi hC 7 (ot_31 hO) lf_X12_67 rfl eX12_table_133 ?_
              refine vx_eqi ew0 ?_
              refine vx_if_ne hC (tgt := 150) (by omega) (by decide) eX12_table_136 (fun c41 => ?_) (fun c41 => ?_)
              · refine vx_bipush hC (by decide) eX12_table_150 ?_
                refine vx_aload_n hC 1 rfl eX12_table_152 ?_
                refine vx_gi hC 5 (ot_31 hO) lf_X12_61 rfl eX12_table_153 ?_
                refine vx_eqi eq2 ?_
                refine vx_isub hC eX12_table_156 ?_
                exact vx_iret hC hM rfl eX12_table_157 (⟨_, rfl, by unfold sp_table; rw [if_neg (by omega), ← hR, if_neg (by show ¬ (w1 = 0 ∧ sp1 = vi 32 3); omega)], rfl, rfl, rfl, by unfold sp_table; rw [if_neg (by omega), ← hR, if_neg (by show ¬ (w1 = 0 ∧ sp1 = vi 32 3); omega), ← hU]; exact eq0, frq 33 (by omega), eq6, eq7, frq 44 (by omega), fun k hk => ⟨frq k (by omega), rfl⟩⟩)
              · refine vx_aload_n hC 1 rfl eX12_table_139 ?_
                refine vx_gi hC 5 (ot_31 hO) lf_X12_61 rfl eX12_table_140 ?_
                refine vx_eqi eq2 ?_
                refine vx_aload_n hC 1 rfl eX12_table_143 ?_
                refine vx_gi hC 6 (ot_31 hO) lf_X12_64 rfl eX12_table_144 ?_
                refine vx_eqi eq3 ?_
                refine vx_icmp_eq hC (tgt := 158) (by omega) (by decide) eX12_table_147 (fun c42 => ?_) (fun c42 => ?_)
                · refine vx_aload_n hC 1 rfl eX12_table_158 ?_
                  refine vx_gr hC 1 (ot_31 hO) lf_X12_9 rfl (or_31_1 hO) eX12_table_159 ?_
                  refine vx_iconst hC eX12_table_162 ?_
                  refine vx_dup2 hC rfl rfl eX12_table_163 ?_
                  refine vx_iaload hC (ot_32 hO) (by omega) (by omega) eX12_table_164 ?_
                  refine vx_eqi (congrFun eq0 _) ?_
                  refine vx_eqi (y := ac) (by rw [pput_lo _ _ _ hac.1 (by omega), fu_n _ _ _ (by omega), hu9, fu_n _ _ _ (by omega), hac9]) ?_
                  refine vx_iconst hC eX12_table_165 ?_
                  refine vx_iadd hC eX12_table_166 ?_
                  refine vx_top (fun x43 hx43 => ?_)
                  refine vx_iastore hC (ot_32 hO) (by omega) (by omega) eX12_table_167 ?_
                  refine vx_vi (fun v44 hv44 => ?_)
                  obtain ⟨f45, hf45⟩ : ∃ f, f = fu (pput (fu u0 (166 + ac) lim1) ac em1) 1 x43 := ⟨_, rfl⟩
                  have hv44_32 : v44 32 = f45 := by rw [hv44, hf45, xu_k, eq0]
                  have hv44_31_4 : v44 31 4 = ac := by rw [hv44, xu_c _ _ _ _ (by decide), eq1]
                  have hv44_31_5 : v44 31 5 = sp1 := by rw [hv44, xu_c _ _ _ _ (by decide), eq2]
                  have hv44_31_6 : v44 31 6 = en := by rw [hv44, xu_c _ _ _ _ (by decide), eq3]
                  have hv44_31_7 : v44 31 7 = 0 := by rw [hv44, xu_c _ _ _ _ (by decide), ew0]
                  have hv44_31_8 : v44 31 8 = 0 := by rw [hv44, xu_c _ _ _ _ (by decide), eq5]
                  have hv44_31_3 : v44 31 3 = vi 31 3 := by rw [hv44, xu_c _ _ _ _ (by decide), eq6]
                  have hv44_31_22 : v44 31 22 = vi 31 22 := by rw [hv44, xu_c _ _ _ _ (by decide), eq7]
                  have frv44 : ∀ k : Nat, (¬ k = 31 ∧ ¬ k = 32) → v44 k = vi k := fun k hk => by rw [hv44, xu_c _ _ _ _ (by omega)]; exact frq k hk
                  refine vx_aload_n hC 1 rfl eX12_table_168 ?_
                  refine vx_gr hC 1 (ot_31 hO) lf_X12_9 rfl (or_31_1 hO) eX12_table_169 ?_
                  refine vx_iconst hC eX12_table_172 ?_
                  refine vx_aload_n hC 1 rfl eX12_table_173 ?_
                  refine vx_gi hC 4 (ot_31 hO) lf_X12_88 rfl eX12_table_174 ?_
                  refine vx_eqi hv44_31_4 ?_
                  refine vx_iastore hC (ot_32 hO) (by omega) (by omega) eX12_table_177 ?_
                  refine vx_vi (fun v46 hv46 => ?_)
                  obtain ⟨f47, hf47⟩ : ∃ f, f = fu (f45) 4 ac := ⟨_, rfl⟩
                  have hv46_32 : v46 32 = f47 := by rw [hv46, hf47, xu_k, hv44_32]
                  have hv46_31_4 : v46 31 4 = ac := by rw [hv46, xu_c _ _ _ _ (by decide), hv44_31_4]
                  have hv46_31_5 : v46 31 5 = sp1 := by rw [hv46, xu_c _ _ _ _ (by decide), hv44_31_5]
                  have hv46_31_6 : v46 31 6 = en := by rw [hv46, xu_c _ _ _ _ (by decide), hv44_31_6]
                  have hv46_31_7 : v46 31 7 = 0 := by rw [hv46, xu_c _ _ _ _ (by decide), hv44_31_7]
                  have hv46_31_8 : v46 31 8 = 0 := by rw [hv46, xu_c _ _ _ _ (by decide), hv44_31_8]
                  have hv46_31_3 : v46 31 3 = vi 31 3 := by rw [hv46, xu_c _ _ _ _ (by decide), hv44_31_3]
                  have hv46_31_22 : v46 31 22 = vi 31 22 := by rw [hv46, xu_c _ _ _ _ (by decide), hv44_31_22]
                  have frv46 : ∀ k : Nat, (¬ k = 31 ∧ ¬ k = 32) → v46 k = vi k := fun k hk => by rw [hv46, xu_c _ _ _ _ (by omega)]; exact frv44 k hk
                  refine vx_aload_n hC 1 rfl eX12_table_178 ?_
                  refine vx_gi hC 4 (ot_31 hO) lf_X12_88 rfl eX12_table_179 ?_
                  refine vx_eqi hv46_31_4 ?_
                  exact vx_iret hC hM rfl eX12_table_182 (⟨_, rfl, by unfold sp_table; rw [if_neg (by omega), ← hR, if_pos (by show w1 = 0 ∧ sp1 = vi 32 3; omega)]; show _ = vi 32 1; omega, rfl, rfl, rfl, by unfold sp_table; rw [if_neg (by omega), ← hR, if_pos (by show w1 = 0 ∧ sp1 = vi 32 3; omega), ← hU, ← hac9]; rw [hv46_32, hf47, hf45]; show _ = fu (fu (pput (fu u0 (166 + ac) lim1) ac em1) 1 (ac + 1)) 4 ac; rw [show x43 = ac + 1 by omega], frv46 33 (by omega), hv46_31_3, hv46_31_22, frv46 44 (by omega), fun k hk => ⟨frv46 k (by omega), rfl⟩⟩)
                · refine vx_bipush hC (by decide) eX12_table_150 ?_
                  refine vx_aload_n hC 1 rfl eX12_table_152 ?_
                  refine vx_gi hC 5 (ot_31 hO) lf_X12_61 rfl eX12_table_153 ?_
                  refine vx_eqi eq2 ?_
                  refine vx_isub hC eX12_table_156 ?_
                  exact vx_iret hC hM rfl eX12_table_157 (⟨_, rfl, by unfold sp_table; rw [if_neg (by omega), ← hR, if_neg (by show ¬ (w1 = 0 ∧ sp1 = vi 32 3); omega)], rfl, rfl, rfl, by unfold sp_table; rw [if_neg (by omega), ← hR, if_neg (by show ¬ (w1 = 0 ∧ sp1 = vi 32 3); omega), ← hU]; exact eq0, frq 33 (by omega), eq6, eq7, frq 44 (by omega), fun k hk => ⟨frq k (by omega), rfl⟩⟩)
            · obtain ⟨k1, rfl⟩ : ∃ k1, k = k1 + 1 := ⟨k - 1, by omega⟩
              have hres2 : pTab h (k1 + 1) (sp1 + 1) lim1 em1 cl1 = tbR (vi 32) := by rw [← hres, if_pos ⟨by omega, by omega, by omega⟩]
              refine vx_aload_n hC 1 rfl eX12_table_112 ?_
              refine vx_dup hC rfl eX12_table_113 ?_
              refine vx_gi hC 5 (ot_31 hO) lf_X12_61 rfl eX12_table_114 ?_
              refine vx_eqi eq2 ?_
              refine vx_iconst hC eX12_table_117 ?_
              refine vx_iadd hC eX12_table_118 ?_
              refine vx_pi hC 5 (ot_31 hO) lp_X12_61 rfl (Or.inl rfl) (Or.inl rfl) eX12_table_119 ?_
              refine vx_vi (fun v48 hv48 => ?_)
              have hv48_32 : v48 32 = pput (fu u0 (166 + ac) lim1) ac em1 := by rw [hv48, xu_c _ _ _ _ (by decide), eq0]
              have hv48_31_4 : v48 31 4 = ac := by rw [hv48, xu_k, fu_n _ _ _ (by decide), eq1]
              have hv48_31_5 : v48 31 5 = (sp1 + 1) := by rw [hv48, xu_k, fu_s]
              have hv48_31_6 : v48 31 6 = en := by rw [hv48, xu_k, fu_n _ _ _ (by decide), eq3]
              have hv48_31_7 : v48 31 7 = 0 := by rw [hv48, xu_k, fu_n _ _ _ (by decide), ew0]
              have hv48_31_8 : v48 31 8 = 0 := by rw [hv48, xu_k, fu_n _ _ _ (by decide), eq5]
              have hv48_31_3 : v48 31 3 = vi 31 3 := by rw [hv48, xu_k, fu_n _ _ _ (by decide), eq6]
              have hv48_31_22 : v48 31 22 = vi 31 22 := by rw [hv48, xu_k, fu_n _ _ _ (by decide), eq7]
              have frv48 : ∀ k : Nat, (¬ k = 31 ∧ ¬ k = 32) → v48 k = vi k := fun k hk => by rw [hv48, xu_c _ _ _ _ (by omega)]; exact frq k hk
              refine vx_aload_n hC 1 rfl eX12_table_122 ?_
              refine vx_callV_v hC (kX12_clauseHere G d _ _ _ _ _ hO h (fu u0 (166 + ac) lim1) ac en (sp1 + 1) em1 hv48_32 hv48_31_4 hv48_31_5 hv48_31_6 hv48_31_7 hv48_31_8 hac (hen0.fu (by omega)) (by omega) (by omega) (by omega) lim1 (fu_s _ _ _)) ly_X12_134 (ot_31 hO) rfl rfl rfl hRm (by omega) (Nat.le_of_ble_eq_true rfl) rfl eX12_table_123 (fun ng50 tg50 ag50 bg50 cg50 hg50 => ?_)
              obtain ⟨qg50_0, qg50_1, qg50_2, qg50_3, qg50_4, qg50_5, qg50_6, qg50_7, rfl, rfl, rfl, rfl, frg50⟩ := hg50
              have qg50_0b : ag50 32 = pput (fu (fu u0 (166 + ac) lim1) (166 + ac) (pCl h (sp1 + 1) lim1).2.2.2.2) ac (em1 ++ pEm (pCl h (sp1 + 1) lim1)) := by first | exact qg50_0 | rw [qg50_0, hv48_32] | (rw [qg50_0]; exact hv48_32)
              have qg50_1b : ag50 31 4 = ac := by first | exact qg50_1 | rw [qg50_1, hv48_31_4] | (rw [qg50_1]; exact hv48_31_4)
              have qg50_2b : ag50 31 5 = (pCl h (sp1 + 1) lim1).2.1 := by first | exact qg50_2 | rw [qg50_2, hv48_31_5] | (rw [qg50_2]; exact hv48_31_5)
              have qg50_3b : ag50 31 6 = en := by first | exact qg50_3 | rw [qg50_3, hv48_31_6] | (rw [qg50_3]; exact hv48_31_6)
              have qg50_4b : ag50 31 7 = (pCl h (sp1 + 1) lim1).1 := by first | exact qg50_4 | rw [qg50_4, hv48_31_7] | (rw [qg50_4]; exact hv48_31_7)
              have qg50_5b : ag50 31 8 = 0 := by first | exact qg50_5 | rw [qg50_5, hv48_31_8] | (rw [qg50_5]; exact hv48_31_8)
              have qg50_6b : ag50 31 3 = vi 31 3 := by first | exact qg50_6 | rw [qg50_6, hv48_31_3] | (rw [qg50_6]; exact hv48_31_3)
              have qg50_7b : ag50 31 22 = vi 31 22 := by first | exact qg50_7 | rw [qg50_7, hv48_31_22] | (rw [qg50_7]; exact hv48_31_22)
              have frvig50 : ∀ k : Nat, (¬ k = 31 ∧ ¬ k = 32) → ag50 k = vi k := fun k hk => (frg50 k (by omega)).trans (frv48 k hk)
              obtain ⟨sp51, hsp51⟩ : ∃ z : Int, z = (pCl h (sp1 + 1) lim1).2.1 := ⟨_, rfl⟩
              have esp51 : ag50 31 5 = sp51 := by rw [hsp51]; exact qg50_2b
              obtain ⟨w52, hw52⟩ : ∃ z : Int, z = (pCl h (sp1 + 1) lim1).1 := ⟨_, rfl⟩
              have ew52 : ag50 31 7 = w52 := by rw [hw52]; exact qg50_4b
              obtain ⟨L53, hL53⟩ : ∃ z : List Int, z = em1 ++ pEm (pCl h (sp1 + 1) lim1) := ⟨_, rfl⟩
              have eL53 : ag50 32 = pput (fu (fu u0 (166 + ac) lim1) (166 + ac) (pCl h (sp1 + 1) lim1).2.2.2.2) ac L53 := by rw [hL53]; exact qg50_0b
              have hoksp51 := pCl_ok hen0 (sp := (sp1 + 1)) (lim := lim1) (by omega) (by omega)
              obtain ⟨lm54, hlm54⟩ : ∃ z : Int, z = (pCl h (sp1 + 1) lim1).2.2.2.2 := ⟨_, rfl⟩
              have eulm54 : ag50 32 = pput (fu u0 (166 + ac) lm54) ac L53 := by rw [hlm54, eL53, fu_fu]
              obtain ⟨k1sp51, k2sp51, k3sp51, k4sp51, k5sp51, k6sp51, k7sp51⟩ := hoksp51
              have hlllm54 : (L53.length : Int) = ((em1 : List Int).length : Int) + ((pEm (pCl h (sp1 + 1) lim1)).length : Int) := by rw [hL53, List.length_append]; omega
              refine vx_iinc hC (lv1 := [(1, xa_i (nn + 1)), (0, xa_r 31)]) 0 rfl (by decide) rfl eX12_table_126 ?_
              refine vx_goto hC (tgt := 90) (by decide) eX12_table_129 ?_
              exact ih k1 (nn + 1) sp51 w52 lm54 L53 (cl1 ++ pCs (pCl h (sp1 + 1) lim1)) ag50 (by omega) (by omega) (by omega) (by omega) (by omega) (by rw [← hres2, pTab, hsp51, hw52, hlm54, hL53]) eulm54 qg50_1b esp51 qg50_3b ew52 qg50_5b qg50_6b qg50_7b frvig50 (by omega)
    exact LP90 10 9 1 sp19 w20 lm22 L21 ([] ++ pCs (pCl h 0 99)) ag18 (by omega) (by omega) (by omega) (by omega) (by omega) (by unfold tbR; rw [← hh9, show (10 : Nat) = 9 + 1 from rfl, pTab_s h 9 0 99 [] [], hsp19, hw20, hlm22, hL21]) eulm22 qg18_1b esp19 qg18_3b ew20 qg18_5b qg18_6b qg18_7b frvig18 (by omega)
  · refine vx_bipush hC (by decide) eX12_table_10 ?_
    exact vx_iret hC hM rfl eX12_table_12 (⟨_, rfl, by unfold sp_table; rw [if_pos (by omega)], rfl, rfl, rfl, by unfold sp_table; rw [if_pos (by omega)], rfl, rfl, rfl, rfl, fun k hk => ⟨rfl, rfl⟩⟩)
