set_option maxHeartbeats 4000000 in
set_option maxRecDepth 100000 in
theorem kX12_factor0 (G : xg_T) (h u : Int → Int) (ac en : Int) (hac : 0 ≤ ac ∧ ac ≤ 4) (hen : pH h u en)  : FC G yX12_factor cX12_factor 5 (6) h u ac en 5 (pF h 0) := by
  unfold FC
  intro d n tau vi vl vr hO sp L h32 h4 h5 h6 h7 h8 hsp hL
  refine xm.of (lv := [(0, xa_r 31)]) (by decide) (Nat.le_of_ble_eq_true rfl) rfl (fun K hC hM hRm => ?_)
  have he := hen.1
  have hh := hen.2
  have hhs := hh sp
  refine vx_aload_n hC 0 rfl eX12_factor_0 ?_
  refine vx_gi hC 7 (ot_31 hO) lf_X12_67 rfl eX12_factor_1 ?_
  refine vx_eqi h7 ?_
  refine vx_if_eq hC (tgt := 8) (by omega) (by decide) eX12_factor_4 (fun c1 => ?_) (fun c1 => absurd c1 (by omega))
  refine vx_aload_n hC 0 rfl eX12_factor_8 ?_
  refine vx_callV_i hC (kX12_hereP G d _ _ _ _ _ hO h u ac en sp 0 5 L h32 h4 h5 h6 h7 h8 hac hen (by omega) (by omega) (by omega)) ly_X12_71 (ot_31 hO) rfl rfl rfl hRm (by omega) (Nat.le_of_ble_eq_true rfl) rfl eX12_factor_9 (fun x2 n9 t9 a9 b9 c9 hx2 => ?_)
  obtain ⟨hx2, rfl, rfl, rfl, rfl, rfl⟩ := hx2
  have hrx2 := hh sp
  refine vx_istore_n hC (lv1 := [(1, xa_i x2), (0, xa_r 31)]) (by decide) rfl eX12_factor_12 ?_
  refine vx_iload_n hC 0 rfl eX12_factor_13 ?_
  refine vx_bipush hC (by decide) eX12_factor_14 ?_
  refine vx_icmp_eq hC (tgt := 25) (by omega) (by decide) eX12_factor_16 (fun c3 => ?_) (fun c3 => ?_)
  · refine vx_aload_n hC 1 rfl eX12_factor_25 ?_
    refine vx_aload_n hC 1 rfl eX12_factor_26 ?_
    refine vx_gi hC 8 (ot_31 hO) lf_X12_91 rfl eX12_factor_27 ?_
    refine vx_eqi h8 ?_
    refine vx_iconst hC eX12_factor_30 ?_
    refine vx_icmp_ne hC (tgt := 38) (by omega) (by decide) eX12_factor_31 (fun c4 => absurd c4 (by omega)) (fun c4 => ?_)
    refine vx_iconst hC eX12_factor_34 ?_
    refine vx_goto hC (tgt := 39) (by decide) eX12_factor_35 ?_
    refine vx_pi hC 7 (ot_31 hO) lp_X12_67 rfl (Or.inl rfl) (Or.inr ⟨rfl, by omega⟩) eX12_factor_39 ?_
    refine vx_vi (fun v5 hv5 => ?_)
    have hv5_32 : v5 32 = pput u ac L := by rw [hv5, xu_c _ _ _ _ (by decide), h32]
    have hv5_31_4 : v5 31 4 = ac := by rw [hv5, xu_k, fu_n _ _ _ (by decide), h4]
    have hv5_31_5 : v5 31 5 = sp := by rw [hv5, xu_k, fu_n _ _ _ (by decide), h5]
    have hv5_31_6 : v5 31 6 = en := by rw [hv5, xu_k, fu_n _ _ _ (by decide), h6]
    have hv5_31_7 : v5 31 7 = 1 := by rw [hv5, xu_k, fu_s]
    have hv5_31_8 : v5 31 8 = 5 := by rw [hv5, xu_k, fu_n _ _ _ (by decide), h8]
    have hv5_31_3 : v5 31 3 = vi 31 3 := by rw [hv5, xu_k, fu_n _ _ _ (by decide)]
    have hv5_31_22 : v5 31 22 = vi 31 22 := by rw [hv5, xu_k, fu_n _ _ _ (by decide)]
    have frv5 : ∀ k : Nat, (¬ k = 31 ∧ ¬ k = 32) → v5 k = vi k := fun k hk => by rw [hv5, xu_c _ _ _ _ (by omega)]
    refine vx_aload_n hC 1 rfl eX12_factor_42 ?_
    refine vx_dup hC rfl eX12_factor_43 ?_
    refine vx_gi hC 8 (ot_31 hO) lf_X12_91 rfl eX12_factor_44 ?_
    refine vx_eqi hv5_31_8 ?_
    refine vx_iconst hC eX12_factor_47 ?_
    refine vx_iadd hC eX12_factor_48 ?_
    refine vx_pi hC 8 (ot_31 hO) lp_X12_91 rfl (Or.inl rfl) (Or.inl rfl) eX12_factor_49 ?_
    refine vx_vi (fun v6 hv6 => ?_)
    have hv6_32 : v6 32 = pput u ac L := by rw [hv6, xu_c _ _ _ _ (by decide), hv5_32]
    have hv6_31_4 : v6 31 4 = ac := by rw [hv6, xu_k, fu_n _ _ _ (by decide), hv5_31_4]
    have hv6_31_5 : v6 31 5 = sp := by rw [hv6, xu_k, fu_n _ _ _ (by decide), hv5_31_5]
    have hv6_31_6 : v6 31 6 = en := by rw [hv6, xu_k, fu_n _ _ _ (by decide), hv5_31_6]
    have hv6_31_7 : v6 31 7 = 1 := by rw [hv6, xu_k, fu_n _ _ _ (by decide), hv5_31_7]
    have hv6_31_8 : v6 31 8 = (5 + 1) := by rw [hv6, xu_k, fu_s]
    have hv6_31_3 : v6 31 3 = vi 31 3 := by rw [hv6, xu_k, fu_n _ _ _ (by decide), hv5_31_3]
    have hv6_31_22 : v6 31 22 = vi 31 22 := by rw [hv6, xu_k, fu_n _ _ _ (by decide), hv5_31_22]
    have frv6 : ∀ k : Nat, (¬ k = 31 ∧ ¬ k = 32) → v6 k = vi k := fun k hk => by rw [hv6, xu_c _ _ _ _ (by omega)]; exact frv5 k hk
    refine vx_aload_n hC 1 rfl eX12_factor_52 ?_
    refine vx_dup hC rfl eX12_factor_53 ?_
    refine vx_gi hC 5 (ot_31 hO) lf_X12_61 rfl eX12_factor_54 ?_
    refine vx_eqi hv6_31_5 ?_
    refine vx_aload_n hC 1 rfl eX12_factor_57 ?_
    refine vx_gi hC 7 (ot_31 hO) lf_X12_67 rfl eX12_factor_58 ?_
    refine vx_eqi hv6_31_7 ?_
    refine vx_if_eq hC (tgt := 68) (by omega) (by decide) eX12_factor_61 (fun c7 => absurd c7 (by omega)) (fun c7 => ?_)
    refine vx_iconst hC eX12_factor_64 ?_
    refine vx_goto hC (tgt := 69) (by decide) eX12_factor_65 ?_
    refine vx_iadd hC eX12_factor_69 ?_
    refine vx_pi hC 5 (ot_31 hO) lp_X12_61 rfl (Or.inl rfl) (Or.inl rfl) eX12_factor_70 ?_
    refine vx_vi (fun v8 hv8 => ?_)
    have hv8_32 : v8 32 = pput u ac L := by rw [hv8, xu_c _ _ _ _ (by decide), hv6_32]
    have hv8_31_4 : v8 31 4 = ac := by rw [hv8, xu_k, fu_n _ _ _ (by decide), hv6_31_4]
    have hv8_31_5 : v8 31 5 = (sp + 0) := by rw [hv8, xu_k, fu_s]
    have hv8_31_6 : v8 31 6 = en := by rw [hv8, xu_k, fu_n _ _ _ (by decide), hv6_31_6]
    have hv8_31_7 : v8 31 7 = 1 := by rw [hv8, xu_k, fu_n _ _ _ (by decide), hv6_31_7]
    have hv8_31_8 : v8 31 8 = (5 + 1) := by rw [hv8, xu_k, fu_n _ _ _ (by decide), hv6_31_8]
    have hv8_31_3 : v8 31 3 = vi 31 3 := by rw [hv8, xu_k, fu_n _ _ _ (by decide), hv6_31_3]
    have hv8_31_22 : v8 31 22 = vi 31 22 := by rw [hv8, xu_k, fu_n _ _ _ (by decide), hv6_31_22]
    have frv8 : ∀ k : Nat, (¬ k = 31 ∧ ¬ k = 32) → v8 k = vi k := fun k hk => by rw [hv8, xu_c _ _ _ _ (by omega)]; exact frv6 k hk
    refine vx_iload_n hC 0 rfl eX12_factor_73 ?_
    refine vx_bipush hC (by decide) eX12_factor_74 ?_
    refine vx_icmp_ne hC (tgt := 91) (by omega) (by decide) eX12_factor_76 (fun c9 => absurd c9 (by omega)) (fun c9 => ?_)
    refine vx_aload_n hC 1 rfl eX12_factor_79 ?_
    refine vx_callV_v hC (kX12_factorW G d _ _ _ _ _ hO hv8_31_7) ly_X12_94 (ot_31 hO) rfl rfl rfl hRm (by omega) (Nat.le_of_ble_eq_true rfl) rfl eX12_factor_80 (fun n9 t9 a9 b9 c9 hx10 => ?_)
    obtain ⟨rfl, rfl, rfl, rfl, rfl⟩ := hx10
    refine vx_aload_n hC 1 rfl eX12_factor_83 ?_
    refine vx_iconst hC eX12_factor_84 ?_
    refine vx_callV_v hC (kX12_emits G d _ _ _ _ _ hO h u ac en (sp + 0) 1 (5 + 1) L hv8_32 hv8_31_4 hv8_31_5 hv8_31_6 hv8_31_7 hv8_31_8 hac hen (by omega) (by omega) (by omega) (-1)) ly_X12_97 (ot_31 hO) rfl rfl rfl hRm (by omega) (Nat.le_of_ble_eq_true rfl) rfl eX12_factor_85 (fun ng12 tg12 ag12 bg12 cg12 hg12 => ?_)
    obtain ⟨qg12_0, qg12_1, qg12_2, qg12_3, qg12_4, qg12_5, qg12_6, qg12_7, rfl, rfl, rfl, rfl, frg12⟩ := hg12
    have qg12_0b : ag12 32 = pput u ac (pE 1 L (-1)) := by first | exact qg12_0 | rw [qg12_0, hv8_32] | (rw [qg12_0]; exact hv8_32)
    have qg12_1b : ag12 31 4 = ac := by first | exact qg12_1 | rw [qg12_1, hv8_31_4] | (rw [qg12_1]; exact hv8_31_4)
    have qg12_2b : ag12 31 5 = (sp + 0) := by first | exact qg12_2 | rw [qg12_2, hv8_31_5] | (rw [qg12_2]; exact hv8_31_5)
    have qg12_3b : ag12 31 6 = en := by first | exact qg12_3 | rw [qg12_3, hv8_31_6] | (rw [qg12_3]; exact hv8_31_6)
    have qg12_4b : ag12 31 7 = 1 := by first | exact qg12_4 | rw [qg12_4, hv8_31_7] | (rw [qg12_4]; exact hv8_31_7)
    have qg12_5b : ag12 31 8 = (5 + 1) := by first | exact qg12_5 | rw [qg12_5, hv8_31_8] | (rw [qg12_5]; exact hv8_31_8)
    have qg12_6b : ag12 31 3 = vi 31 3 := by first | exact qg12_6 | rw [qg12_6, hv8_31_3] | (rw [qg12_6]; exact hv8_31_3)
    have qg12_7b : ag12 31 22 = vi 31 22 := by first | exact qg12_7 | rw [qg12_7, hv8_31_22] | (rw [qg12_7]; exact hv8_31_22)
    have frvig12 : ∀ k : Nat, (¬ k = 31 ∧ ¬ k = 32) → ag12 k = vi k := fun k hk => (frg12 k (by omega)).trans (frv8 k hk)
    obtain ⟨L13, hL13⟩ : ∃ z : List Int, z = pE 1 L (-1) := ⟨_, rfl⟩
    have eL13 : ag12 32 = pput u ac L13 := by rw [hL13]; exact qg12_0b
    have hfL13 := pE_len 1 L (-1)
    rw [← hL13] at hfL13
    refine vx_goto hC (tgt := 101) (by decide) eX12_factor_88 ?_
    refine vx_aload_n hC 1 rfl eX12_factor_101 ?_
    refine vx_dup hC rfl eX12_factor_102 ?_
    refine vx_gi hC 8 (ot_31 hO) lf_X12_91 rfl eX12_factor_103 ?_
    refine vx_eqi qg12_5b ?_
    refine vx_iconst hC eX12_factor_106 ?_
    refine vx_isub hC eX12_factor_107 ?_
    refine vx_top (fun x14 hx14 => ?_)
    refine vx_pi hC 8 (ot_31 hO) lp_X12_91 rfl (Or.inl rfl) (Or.inl rfl) eX12_factor_108 ?_
    refine vx_vi (fun v15 hv15 => ?_)
    have hv15_32 : v15 32 = pput u ac L13 := by rw [hv15, xu_c _ _ _ _ (by decide), eL13]
    have hv15_31_4 : v15 31 4 = ac := by rw [hv15, xu_k, fu_n _ _ _ (by decide), qg12_1b]
    have hv15_31_5 : v15 31 5 = (sp + 0) := by rw [hv15, xu_k, fu_n _ _ _ (by decide), qg12_2b]
    have hv15_31_6 : v15 31 6 = en := by rw [hv15, xu_k, fu_n _ _ _ (by decide), qg12_3b]
    have hv15_31_7 : v15 31 7 = 1 := by rw [hv15, xu_k, fu_n _ _ _ (by decide), qg12_4b]
    have hv15_31_8 : v15 31 8 = x14 := by rw [hv15, xu_k, fu_s]
    have hv15_31_3 : v15 31 3 = vi 31 3 := by rw [hv15, xu_k, fu_n _ _ _ (by decide), qg12_6b]
    have hv15_31_22 : v15 31 22 = vi 31 22 := by rw [hv15, xu_k, fu_n _ _ _ (by decide), qg12_7b]
    have frv15 : ∀ k : Nat, (¬ k = 31 ∧ ¬ k = 32) → v15 k = vi k := fun k hk => by rw [hv15, xu_c _ _ _ _ (by omega)]; exact frvig12 k hk
    have hE : pF h 0 sp = (0, sp, []) := pTest_0 (by omega)
    exact vx_vret hC hM eX12_factor_111 (⟨rfl, (by rw [hE, hv15_32]; show pput u ac L13 = pput u ac (L ++ []); rw [List.append_nil]; rw [hfL13.2.2.2 (by omega)]), hv15_31_4, (by rw [hE, hv15_31_5]; show _ = sp; omega), hv15_31_6, (by rw [hE, hv15_31_7]; show _ = 1 - (0 : Int); omega), (by rw [hv15_31_8]; omega), hv15_31_3, hv15_31_22, rfl, rfl, rfl, rfl, fun k hk => frv15 k hk⟩)
  · refine vx_iload_n hC 0 rfl eX12_factor_19 ?_
    refine vx_bipush hC (by decide) eX12_factor_20 ?_
    refine vx_icmp_ne hC (tgt := 112) (by omega) (by decide) eX12_factor_22 (fun c16 => ?_) (fun c16 => ?_)
    · refine vx_aload_n hC 1 rfl eX12_factor_112 ?_
      refine vx_ldcs hC (i := 4) (tx := "nkpgsd") (by decide) eX12_factor_113 ?_
      refine vx_callV_i hC (kX12_among G d _ _ _ _ _ hO h u ac en sp 0 5 L h32 h4 h5 h6 h7 h8 hac hen (by omega) (by omega) (by omega) 4 (by decide)) ly_X12_105 (ot_31 hO) rfl rfl rfl hRm (by omega) (Nat.le_of_ble_eq_true rfl) rfl eX12_factor_115 (fun x17 ng18 tg18 ag18 bg18 cg18 hg18 => ?_)
      obtain ⟨hx17, qg18_0, qg18_1, qg18_2, qg18_3, qg18_4, qg18_5, qg18_6, qg18_7, rfl, rfl, rfl, rfl, frg18⟩ := hg18
      have qg18_0b : ag18 32 = pput u ac L := by first | exact qg18_0 | rw [qg18_0, h32] | (rw [qg18_0]; exact h32)
      have qg18_1b : ag18 31 4 = ac := by first | exact qg18_1 | rw [qg18_1, h4] | (rw [qg18_1]; exact h4)
      have qg18_2b : ag18 31 5 = (if pA1 h sp = -1 then sp else sp + 1) := by first | exact qg18_2 | rw [qg18_2, h5] | (rw [qg18_2]; exact h5)
      have qg18_3b : ag18 31 6 = en := by first | exact qg18_3 | rw [qg18_3, h6] | (rw [qg18_3]; exact h6)
      have qg18_4b : ag18 31 7 = 0 := by first | exact qg18_4 | rw [qg18_4, h7] | (rw [qg18_4]; exact h7)
      have qg18_5b : ag18 31 8 = 5 := by first | exact qg18_5 | rw [qg18_5, h8] | (rw [qg18_5]; exact h8)
      have frvig18 : ∀ k : Nat, (¬ k = 31 ∧ ¬ k = 32) → ag18 k = vi k := fun k hk => (frg18 k (by omega))
      obtain ⟨sp19, hsp19⟩ : ∃ z : Int, z = (if pA1 h sp = -1 then sp else sp + 1) := ⟨_, rfl⟩
      have esp19 : ag18 31 5 = sp19 := by rw [hsp19]; exact qg18_2b
      have hrx17 := pA1_r h sp
      replace hx17 : x17 = pA1 h sp := hx17
      rw [← hx17] at hrx17 hsp19
      have hbx17 := hh sp
      refine vx_istore_n hC (lv1 := [(2, xa_i x17), (1, xa_i x2), (0, xa_r 31)]) (by decide) rfl eX12_factor_118 ?_
      refine vx_aload_n hC 2 rfl eX12_factor_119 ?_
      refine vx_iload_n hC 0 rfl eX12_factor_120 ?_
      refine vx_iconst hC eX12_factor_121 ?_
      refine vx_icmp_ne hC (tgt := 129) (by omega) (by decide) eX12_factor_122 (fun c20 => ?_) (fun c20 => ?_)
      · refine vx_iconst hC eX12_factor_129 ?_
        refine vx_pi hC 7 (ot_31 hO) lp_X12_67 rfl (Or.inl rfl) (Or.inr ⟨rfl, by omega⟩) eX12_factor_130 ?_
        refine vx_vi (fun v21 hv21 => ?_)
        have hv21_32 : v21 32 = pput u ac L := by rw [hv21, xu_c _ _ _ _ (by decide), qg18_0b]
        have hv21_31_4 : v21 31 4 = ac := by rw [hv21, xu_k, fu_n _ _ _ (by decide), qg18_1b]
        have hv21_31_5 : v21 31 5 = sp19 := by rw [hv21, xu_k, fu_n _ _ _ (by decide), esp19]
        have hv21_31_6 : v21 31 6 = en := by rw [hv21, xu_k, fu_n _ _ _ (by decide), qg18_3b]
        have hv21_31_7 : v21 31 7 = 0 := by rw [hv21, xu_k, fu_s]
        have hv21_31_8 : v21 31 8 = 5 := by rw [hv21, xu_k, fu_n _ _ _ (by decide), qg18_5b]
        have hv21_31_3 : v21 31 3 = vi 31 3 := by rw [hv21, xu_k, fu_n _ _ _ (by decide), qg18_6]
        have hv21_31_22 : v21 31 22 = vi 31 22 := by rw [hv21, xu_k, fu_n _ _ _ (by decide), qg18_7]
        have frv21 : ∀ k : Nat, (¬ k = 31 ∧ ¬ k = 32) → v21 k = vi k := fun k hk => by rw [hv21, xu_c _ _ _ _ (by omega)]; exact frvig18 k hk
        refine vx_aload_n hC 2 rfl eX12_factor_133 ?_
        refine vx_gi hC 7 (ot_31 hO) lf_X12_67 rfl eX12_factor_134 ?_
        refine vx_eqi hv21_31_7 ?_
        refine vx_if_eq hC (tgt := 144) (by omega) (by decide) eX12_factor_137 (fun c22 => ?_) (fun c22 => absurd c22 (by omega))
        refine vx_aload_n hC 2 rfl eX12_factor_144 ?_
        refine vx_ldcs hC (i := 5) (tx := "<=>") (by decide) eX12_factor_145 ?_
        refine vx_callV_i hC (kX12_among G d _ _ _ _ _ hO h u ac en sp19 0 5 L hv21_32 hv21_31_4 hv21_31_5 hv21_31_6 hv21_31_7 hv21_31_8 hac hen (by omega) (by omega) (by omega) 5 (by decide)) ly_X12_105 (ot_31 hO) rfl rfl rfl hRm (by omega) (Nat.le_of_ble_eq_true rfl) rfl eX12_factor_147 (fun x23 ng24 tg24 ag24 bg24 cg24 hg24 => ?_)
        obtain ⟨hx23, qg24_0, qg24_1, qg24_2, qg24_3, qg24_4, qg24_5, qg24_6, qg24_7, rfl, rfl, rfl, rfl, frg24⟩ := hg24
        have qg24_0b : ag24 32 = pput u ac L := by first | exact qg24_0 | rw [qg24_0, hv21_32] | (rw [qg24_0]; exact hv21_32)
        have qg24_1b : ag24 31 4 = ac := by first | exact qg24_1 | rw [qg24_1, hv21_31_4] | (rw [qg24_1]; exact hv21_31_4)
        have qg24_2b : ag24 31 5 = (if pA2 h sp19 = -1 then sp19 else sp19 + 1) := by first | exact qg24_2 | rw [qg24_2, hv21_31_5] | (rw [qg24_2]; exact hv21_31_5)
        have qg24_3b : ag24 31 6 = en := by first | exact qg24_3 | rw [qg24_3, hv21_31_6] | (rw [qg24_3]; exact hv21_31_6)
        have qg24_4b : ag24 31 7 = 0 := by first | exact qg24_4 | rw [qg24_4, hv21_31_7] | (rw [qg24_4]; exact hv21_31_7)
        have qg24_5b : ag24 31 8 = 5 := by first | exact qg24_5 | rw [qg24_5, hv21_31_8] | (rw [qg24_5]; exact hv21_31_8)
        have qg24_6b : ag24 31 3 = vi 31 3 := by first | exact qg24_6 | rw [qg24_6, hv21_31_3] | (rw [qg24_6]; exact hv21_31_3)
        have qg24_7b : ag24 31 22 = vi 31 22 := by first | exact qg24_7 | rw [qg24_7, hv21_31_22] | (rw [qg24_7]; exact hv21_31_22)
        have frvig24 : ∀ k : Nat, (¬ k = 31 ∧ ¬ k = 32) → ag24 k = vi k := fun k hk => (frg24 k (by omega)).trans (frv21 k hk)
        obtain ⟨sp25, hsp25⟩ : ∃ z : Int, z = (if pA2 h sp19 = -1 then sp19 else sp19 + 1) := ⟨_, rfl⟩
        have esp25 : ag24 31 5 = sp25 := by rw [hsp25]; exact qg24_2b
        have hrx23 := pA2_r h sp19
        replace hx23 : x23 = pA2 h sp19 := hx23
        rw [← hx23] at hrx23 hsp25
        have hbx23 := hh sp19
        refine vx_istore_n hC (lv1 := [(3, xa_i x23), (2, xa_i x17), (1, xa_i x2), (0, xa_r 31)]) (by decide) rfl eX12_factor_150 ?_
        refine vx_aload_n hC 3 rfl eX12_factor_151 ?_
        refine vx_aload_n hC 3 rfl eX12_factor_152 ?_
        refine vx_gi hC 7 (ot_31 hO) lf_X12_67 rfl eX12_factor_153 ?_
        refine vx_eqi qg24_4b ?_
        refine vx_if_ne hC (tgt := 164) (by omega) (by decide) eX12_factor_156 (fun c26 => absurd c26 (by omega)) (fun c26 => ?_)
        refine vx_iload_n hC 0 rfl eX12_factor_159 ?_
        refine vx_iconst hC eX12_factor_160 ?_
        refine vx_icmp_ne hC (tgt := 168) (by omega) (by decide) eX12_factor_161 (fun c27 => ?_) (fun c27 => ?_)
        · refine vx_iconst hC eX12_factor_168 ?_
          refine vx_pi hC 7 (ot_31 hO) lp_X12_67 rfl (Or.inl rfl) (Or.inr ⟨rfl, by omega⟩) eX12_factor_169 ?_
          refine vx_vi (fun v28 hv28 => ?_)
          have hv28_32 : v28 32 = pput u ac L := by rw [hv28, xu_c _ _ _ _ (by decide), qg24_0b]
          have hv28_31_4 : v28 31 4 = ac := by rw [hv28, xu_k, fu_n _ _ _ (by decide), qg24_1b]
          have hv28_31_5 : v28 31 5 = sp25 := by rw [hv28, xu_k, fu_n _ _ _ (by decide), esp25]
          have hv28_31_6 : v28 31 6 = en := by rw [hv28, xu_k, fu_n _ _ _ (by decide), qg24_3b]
          have hv28_31_7 : v28 31 7 = 0 := by rw [hv28, xu_k, fu_s]
          have hv28_31_8 : v28 31 8 = 5 := by rw [hv28, xu_k, fu_n _ _ _ (by decide), qg24_5b]
          have hv28_31_3 : v28 31 3 = vi 31 3 := by rw [hv28, xu_k, fu_n _ _ _ (by decide), qg24_6b]
          have hv28_31_22 : v28 31 22 = vi 31 22 := by rw [hv28, xu_k, fu_n _ _ _ (by decide), qg24_7b]
          have frv28 : ∀ k : Nat, (¬ k = 31 ∧ ¬ k = 32) → v28 k = vi k := fun k hk => by rw [hv28, xu_c _ _ _ _ (by omega)]; exact frvig24 k hk
          refine vx_aload_n hC 3 rfl eX12_factor_172 ?_
          refine vx_callV_i hC (kX12_figures G d _ _ _ _ _ hO h u ac en sp25 0 5 L hv28_32 hv28_31_4 hv28_31_5 hv28_31_6 hv28_31_7 hv28_31_8 hac hen (by omega) (by omega) (by omega)) ly_X12_111 (ot_31 hO) rfl rfl rfl hRm (by omega) (Nat.le_of_ble_eq_true rfl) rfl eX12_factor_173 (fun x29 ng30 tg30 ag30 bg30 cg30 hg30 => ?_)
          obtain ⟨hx29, qg30_0, qg30_1, qg30_2, qg30_3, qg30_4, qg30_5, qg30_6, qg30_7, rfl, rfl, rfl, rfl, frg30⟩ := hg30
          have qg30_0b : ag30 32 = pput u ac L := by first | exact qg30_0 | rw [qg30_0, hv28_32] | (rw [qg30_0]; exact hv28_32)
          have qg30_1b : ag30 31 4 = ac := by first | exact qg30_1 | rw [qg30_1, hv28_31_4] | (rw [qg30_1]; exact hv28_31_4)
          have qg30_2b : ag30 31 5 = pNs h 0 sp25 := by first | exact qg30_2 | rw [qg30_2, hv28_31_5] | (rw [qg30_2]; exact hv28_31_5)
          have qg30_3b : ag30 31 6 = en := by first | exact qg30_3 | rw [qg30_3, hv28_31_6] | (rw [qg30_3]; exact hv28_31_6)
          have qg30_4b : ag30 31 7 = pNw h 0 sp25 := by first | exact qg30_4 | rw [qg30_4, hv28_31_7] | (rw [qg30_4]; exact hv28_31_7)
          have qg30_5b : ag30 31 8 = 5 := by first | exact qg30_5 | rw [qg30_5, hv28_31_8] | (rw [qg30_5]; exact hv28_31_8)
          have qg30_6b : ag30 31 3 = vi 31 3 := by first | exact qg30_6 | rw [qg30_6, hv28_31_3] | (rw [qg30_6]; exact hv28_31_3)
          have qg30_7b : ag30 31 22 = vi 31 22 := by first | exact qg30_7 | rw [qg30_7, hv28_31_22] | (rw [qg30_7]; exact hv28_31_22)
          have frvig30 : ∀ k : Nat, (¬ k = 31 ∧ ¬ k = 32) → ag30 k = vi k := fun k hk => (frg30 k (by omega)).trans (frv28 k hk)
          obtain ⟨sp31, hsp31⟩ : ∃ z : Int, z = pNs h 0 sp25 := ⟨_, rfl⟩
          have esp31 : ag30 31 5 = sp31 := by rw [hsp31]; exact qg30_2b
          obtain ⟨w32, hw32⟩ : ∃ z : Int, z = pNw h 0 sp25 := ⟨_, rfl⟩
          have ew32 : ag30 31 7 = w32 := by rw [hw32]; exact qg30_4b
          have hfsp31 := pN_r (w := 0) hen (sp := sp25) (by omega)
          rw [← hsp31, ← hw32, ← hx29] at hfsp31
          refine vx_istore hC (lv1 := [(4, xa_i x29), (3, xa_i x23), (2, xa_i x17), (1, xa_i x2), (0, xa_r 31)]) (by decide) rfl eX12_factor_176 ?_
          refine vx_aload_n hC 4 rfl eX12_factor_178 ?_
          refine vx_iload_n hC 2 rfl eX12_factor_179 ?_
          refine vx_bipush hC (by decide) eX12_factor_180 ?_
          refine vx_iload_n hC 1 rfl eX12_factor_182 ?_
          refine vx_imul hC eX12_factor_183 ?_
          refine vx_iadd hC eX12_factor_184 ?_
          refine vx_bipush hC (by decide) eX12_factor_185 ?_
          refine vx_iload hC 0 rfl eX12_factor_187 ?_
          refine vx_imul hC eX12_factor_189 ?_
          refine vx_iadd hC eX12_factor_190 ?_
          refine vx_callV_v hC (kX12_emits G d _ _ _ _ _ hO h u ac en sp31 w32 5 L qg30_0b qg30_1b esp31 qg30_3b ew32 qg30_5b hac hen (by omega) (by omega) (by omega) (x17 + 8 * x23 + 32 * x29)) ly_X12_97 (ot_31 hO) rfl rfl rfl hRm (by omega) (Nat.le_of_ble_eq_true rfl) rfl eX12_factor_191 (fun ng34 tg34 ag34 bg34 cg34 hg34 => ?_)
          obtain ⟨qg34_0, qg34_1, qg34_2, qg34_3, qg34_4, qg34_5, qg34_6, qg34_7, rfl, rfl, rfl, rfl, frg34⟩ := hg34
          have qg34_0b : ag34 32 = pput u ac (pE w32 L (x17 + 8 * x23 + 32 * x29)) := by first | exact qg34_0 | rw [qg34_0, qg30_0b] | (rw [qg34_0]; exact qg30_0b)
          have qg34_1b : ag34 31 4 = ac := by first | exact qg34_1 | rw [qg34_1, qg30_1b] | (rw [qg34_1]; exact qg30_1b)
          have qg34_2b : ag34 31 5 = sp31 := by first | exact qg34_2 | rw [qg34_2, esp31] | (rw [qg34_2]; exact esp31)
          have qg34_3b : ag34 31 6 = en := by first | exact qg34_3 | rw [qg34_3, qg30_3b] | (rw [qg34_3]; exact qg30_3b)
          have qg34_4b : ag34 31 7 = w32 := by first | exact qg34_4 | rw [qg34_4, ew32] | (rw [qg34_4]; exact ew32)
          have qg34_5b : ag34 31 8 = 5 := by first | exact qg34_5 | rw [qg34_5, qg30_5b] | (rw [qg34_5]; exact qg30_5b)
          have qg34_6b : ag34 31 3 = vi 31 3 := by first | exact qg34_6 | rw [qg34_6, qg30_6b] | (rw [qg34_6]; exact qg30_6b)
          have qg34_7b : ag34 31 22 = vi 31 22 := by first | exact qg34_7 | rw [qg34_7, qg30_7b] | (rw [qg34_7]; exact qg30_7b)
          have frvig34 : ∀ k : Nat, (¬ k = 31 ∧ ¬ k = 32) → ag34 k = vi k := fun k hk => (frg34 k (by omega)).trans (frvig30 k hk)
          obtain ⟨L35, hL35⟩ : ∃ z : List Int, z = pE w32 L (x17 + 8 * x23 + 32 * x29) := ⟨_, rfl⟩
          have eL35 : ag34 32 = pput u ac L35 := by rw [hL35]; exact qg34_0b
          have hfL35 := pE_len w32 L (x17 + 8 * x23 + 32 * x29)
          rw [← hL35] at hfL35
          have hE0 : pF h 0 sp = pTest h sp := pF_tst (by omega) (by omega)
          have hs1 : sp19 = sp + 1 := by omega
          have hs2 : sp25 = sp + 2 := by omega
          have hE := hE0.trans (pTest_3 hs1 hs2 hx17 hx23 (by omega) (by omega))
          exact vx_vret hC hM eX12_factor_194 (⟨rfl, (by rw [hE, eL35]; show pput u ac L35 = pput u ac (L ++ pE (pNw h 0 sp25) [] (x17 + 8 * x23 + 32 * pNv h 0 sp25)); rw [hL35, ← pE_nil, hw32, hx29]), qg34_1b, (by rw [hE, qg34_2b, hsp31]), qg34_3b, (by rw [hE, qg34_4b]; show _ = 1 - (1 - pNw h 0 sp25); rw [hw32]; omega), qg34_5b, qg34_6b, qg34_7b, rfl, rfl, rfl, rfl, fun k hk => frvig34 k hk⟩)
        · refine vx_iconst hC eX12_factor_164 ?_
          refine vx_goto hC (tgt := 169) (by decide) eX12_factor_165 ?_
          refine vx_pi hC 7 (ot_31 hO) lp_X12_67 rfl (Or.inl rfl) (Or.inr ⟨rfl, by omega⟩) eX12_factor_169 ?_
          refine vx_vi (fun v36 hv36 => ?_)
          have hv36_32 : v36 32 = pput u ac L := by rw [hv36, xu_c _ _ _ _ (by decide), qg24_0b]
          have hv36_31_4 : v36 31 4 = ac := by rw [hv36, xu_k, fu_n _ _ _ (by decide), qg24_1b]
          have hv36_31_5 : v36 31 5 = sp25 := by rw [hv36, xu_k, fu_n _ _ _ (by decide), esp25]
          have hv36_31_6 : v36 31 6 = en := by rw [hv36, xu_k, fu_n _ _ _ (by decide), qg24_3b]
          have hv36_31_7 : v36 31 7 = 1 := by rw [hv36, xu_k, fu_s]
          have hv36_31_8 : v36 31 8 = 5 := by rw [hv36, xu_k, fu_n _ _ _ (by decide), qg24_5b]
          have hv36_31_3 : v36 31 3 = vi 31 3 := by rw [hv36, xu_k, fu_n _ _ _ (by decide), qg24_6b]
          have hv36_31_22 : v36 31 22 = vi 31 22 := by rw [hv36, xu_k, fu_n _ _ _ (by decide), qg24_7b]
          have frv36 : ∀ k : Nat, (¬ k = 31 ∧ ¬ k = 32) → v36 k = vi k := fun k hk => by rw [hv36, xu_c _ _ _ _ (by omega)]; exact frvig24 k hk
          refine vx_aload_n hC 3 rfl eX12_factor_172 ?_
          refine vx_callV_i hC (kX12_figures G d _ _ _ _ _ hO h u ac en sp25 1 5 L hv36_32 hv36_31_4 hv36_31_5 hv36_31_6 hv36_31_7 hv36_31_8 hac hen (by omega) (by omega) (by omega)) ly_X12_111 (ot_31 hO) rfl rfl rfl hRm (by omega) (Nat.le_of_ble_eq_true rfl) rfl eX12_factor_173 (fun x37 ng38 tg38 ag38 bg38 cg38 hg38 => ?_)
          obtain ⟨hx37, qg38_0, qg38_1, qg38_2, qg38_3, qg38_4, qg38_5, qg38_6, qg38_7, rfl, rfl, rfl, rfl, frg38⟩ := hg38
          have qg38_0b : ag38 32 = pput u ac L := by first | exact qg38_0 | rw [qg38_0, hv36_32] | (rw [qg38_0]; exact hv36_32)
          have qg38_1b : ag38 31 4 = ac := by first | exact qg38_1 | rw [qg38_1, hv36_31_4] | (rw [qg38_1]; exact hv36_31_4)
          have qg38_2b : ag38 31 5 = pNs h 1 sp25 := by first | exact qg38_2 | rw [qg38_2, hv36_31_5] | (rw [qg38_2]; exact hv36_31_5)
          have qg38_3b : ag38 31 6 = en := by first | exact qg38_3 | rw [qg38_3, hv36_31_6] | (rw [qg38_3]; exact hv36_31_6)
          have qg38_4b : ag38 31 7 = pNw h 1 sp25 := by first | exact qg38_4 | rw [qg38_4, hv36_31_7] | (rw [qg38_4]; exact hv36_31_7)
          have qg38_5b : ag38 31 8 = 5 := by first | exact qg38_5 | rw [qg38_5, hv36_31_8] | (rw [qg38_5]; exact hv36_31_8)
          have qg38_6b : ag38 31 3 = vi 31 3 := by first | exact qg38_6 | rw [qg38_6, hv36_31_3] | (rw [qg38_6]; exact hv36_31_3)
          have qg38_7b : ag38 31 22 = vi 31 22 := by first | exact qg38_7 | rw [qg38_7, hv36_31_22] | (rw [qg38_7]; exact hv36_31_22)
          have frvig38 : ∀ k : Nat, (¬ k = 31 ∧ ¬ k = 32) → ag38 k = vi k := fun k hk => (frg38 k (by omega)).trans (frv36 k hk)
          obtain ⟨sp39, hsp39⟩ : ∃ z : Int, z = pNs h 1 sp25 := ⟨_, rfl⟩
          have esp39 : ag38 31 5 = sp39 := by rw [hsp39]; exact qg38_2b
          obtain ⟨w40, hw40⟩ : ∃ z : Int, z = pNw h 1 sp25 := ⟨_, rfl⟩
          have ew40 : ag38 31 7 = w40 := by rw [hw40]; exact qg38_4b
          have hfsp39 := pN_r (w := 1) hen (sp := sp25) (by omega)
          rw [← hsp39, ← hw40, ← hx37] at hfsp39
          refine vx_istore hC (lv1 := [(4, xa_i x37), (3, xa_i x23), (2, xa_i x17), (1, xa_i x2), (0, xa_r 31)]) (by decide) rfl eX12_factor_176 ?_
          refine vx_aload_n hC 4 rfl eX12_factor_178 ?_
          refine vx_iload_n hC 2 rfl eX12_factor_179 ?_
          refine vx_bipush hC (by decide) eX12_factor_180 ?_
          refine vx_iload_n hC 1 rfl eX12_factor_182 ?_
          refine vx_imul hC eX12_factor_183 ?_
          refine vx_iadd hC eX12_factor_184 ?_
          refine vx_bipush hC (by decide) eX12_factor_185 ?_
          refine vx_iload hC 0 rfl eX12_factor_187 ?_
          refine vx_imul hC eX12_factor_189 ?_
          refine vx_iadd hC eX12_factor_190 ?_
          refine vx_callV_v hC (kX12_emits G d _ _ _ _ _ hO h u ac en sp39 w40 5 L qg38_0b qg38_1b esp39 qg38_3b ew40 qg38_5b hac hen (by omega) (by omega) (by omega) (x17 + 8 * x23 + 32 * x37)) ly_X12_97 (ot_31 hO) rfl rfl rfl hRm (by omega) (Nat.le_of_ble_eq_true rfl) rfl eX12_factor_191 (fun ng42 tg42 ag42 bg42 cg42 hg42 => ?_)
          obtain ⟨qg42_0, qg42_1, qg42_2, qg42_3, qg42_4, qg42_5, qg42_6, qg42_7, rfl, rfl, rfl, rfl, frg42⟩ := hg42
          have qg42_0b : ag42 32 = pput u ac (pE w40 L (x17 + 8 * x23 + 32 * x37)) := by first | exact qg42_0 | rw [qg42_0, qg38_0b] | (rw [qg42_0]; exact qg38_0b)
          have qg42_1b : ag42 31 4 = ac := by first | exact qg42_1 | rw [qg42_1, qg38_1b] | (rw [qg42_1]; exact qg38_1b)
          have qg42_2b : ag42 31 5 = sp39 := by first | exact qg42_2 | rw [qg42_2, esp39] | (rw [qg42_2]; exact esp39)
          have qg42_3b : ag42 31 6 = en := by first | exact qg42_3 | rw [qg42_3, qg38_3b] | (rw [qg42_3]; exact qg38_3b)
          have qg42_4b : ag42 31 7 = w40 := by first | exact qg42_4 | rw [qg42_4, ew40] | (rw [qg42_4]; exact ew40)
          have qg42_5b : ag42 31 8 = 5 := by first | exact qg42_5 | rw [qg42_5, qg38_5b] | (rw [qg42_5]; exact qg38_5b)
          have qg42_6b : ag42 31 3 = vi 31 3 := by first | exact qg42_6 | rw [qg42_6, qg38_6b] | (rw [qg42_6]; exact qg38_6b)
          have qg42_7b : ag42 31 22 = vi 31 22 := by first | exact qg42_7 | rw [qg42_7, qg38_7b] | (rw [qg42_7]; exact qg38_7b)
          have frvig42 : ∀ k : Nat, (¬ k = 31 ∧ ¬ k = 32) → ag42 k = vi k := fun k hk => (frg42 k (by omega)).trans (frvig38 k hk)
          obtain ⟨L43, hL43⟩ : ∃ z : List Int, z = pE w40 L (x17 + 8 * x23 + 32 * x37) := ⟨_, rfl⟩
          have eL43 : ag42 32 = pput u ac L43 := by rw [hL43]; exact qg42_0b
          have hfL43 := pE_len w40 L (x17 + 8 * x23 + 32 * x37)
          rw [← hL43] at hfL43
          have hE0 : pF h 0 sp = pTest h sp := pF_tst (by omega) (by omega)
          have hs1 : sp19 = sp + 1 := by omega
          have hE := hE0.trans (pTest_2 hs1 (by omega) (by omega))
          exact vx_vret hC hM eX12_factor_194 (⟨rfl, (by rw [hE, eL43]; show pput u ac L43 = pput u ac (L ++ []); rw [List.append_nil]; rw [hfL43.2.2.2 (by omega)]), qg42_1b, (by rw [hE, qg42_2b]; show _ = sp19; omega), qg42_3b, (by rw [hE, qg42_4b]; show _ = 1 - (0 : Int); omega), qg42_5b, qg42_6b, qg42_7b, rfl, rfl, rfl, rfl, fun k hk => frvig42 k hk⟩)
      · refine vx_iconst hC eX12_factor_125 ?_
        refine vx_goto hC (tgt := 130) (by decide) eX12_factor_126 ?_
        refine vx_pi hC 7 (ot_31 hO) lp_X12_67 rfl (Or.inl rfl) (Or.inr ⟨rfl, by omega⟩) eX12_factor_130 ?_
        refine vx_vi (fun v44 hv44 => ?_)
        have hv44_32 : v44 32 = pput u ac L := by rw [hv44, xu_c _ _ _ _ (by decide), qg18_0b]
        have hv44_31_4 : v44 31 4 = ac := by rw [hv44, xu_k, fu_n _ _ _ (by decide), qg18_1b]
        have hv44_31_5 : v44 31 5 = sp19 := by rw [hv44, xu_k, fu_n _ _ _ (by decide), esp19]
        have hv44_31_6 : v44 31 6 = en := by rw [hv44, xu_k, fu_n _ _ _ (by decide), qg18_3b]
        have hv44_31_7 : v44 31 7 = 1 := by rw [hv44, xu_k, fu_s]
        have hv44_31_8 : v44 31 8 = 5 := by rw [hv44, xu_k, fu_n _ _ _ (by decide), qg18_5b]
        have hv44_31_3 : v44 31 3 = vi 31 3 := by rw [hv44, xu_k, fu_n _ _ _ (by decide), qg18_6]
        have hv44_31_22 : v44 31 22 = vi 31 22 := by rw [hv44, xu_k, fu_n _ _ _ (by decide), qg18_7]
        have frv44 : ∀ k : Nat, (¬ k = 31 ∧ ¬ k = 32) → v44 k = vi k := fun k hk => by rw [hv44, xu_c _ _ _ _ (by omega)]; exact frvig18 k hk
        refine vx_aload_n hC 2 rfl eX12_factor_133 ?_
        refine vx_gi hC 7 (ot_31 hO) lf_X12_67 rfl eX12_factor_134 ?_
        refine vx_eqi hv44_31_7 ?_
        refine vx_if_eq hC (tgt := 144) (by omega) (by decide) eX12_factor_137 (fun c45 => absurd c45 (by omega)) (fun c45 => ?_)
        refine vx_iconst hC eX12_factor_140 ?_
        refine vx_goto hC (tgt := 150) (by decide) eX12_factor_141 ?_
        refine vx_istore_n hC (lv1 := [(3, xa_i 0), (2, xa_i x17), (1, xa_i x2), (0, xa_r 31)]) (by decide) rfl eX12_factor_150 ?_
        refine vx_aload_n hC 3 rfl eX12_factor_151 ?_
        refine vx_aload_n hC 3 rfl eX12_factor_152 ?_
        refine vx_gi hC 7 (ot_31 hO) lf_X12_67 rfl eX12_factor_153 ?_
        refine vx_eqi hv44_31_7 ?_
        refine vx_if_ne hC (tgt := 164) (by omega) (by decide) eX12_factor_156 (fun c46 => ?_) (fun c46 => absurd c46 (by omega))
        refine vx_iconst hC eX12_factor_164 ?_
        refine vx_goto hC (tgt := 169) (by decide) eX12_factor_165 ?_
        refine vx_pi hC 7 (ot_31 hO) lp_X12_67 rfl (Or.inl rfl) (Or.inr ⟨rfl, by omega⟩) eX12_factor_169 ?_
        refine vx_vi (fun v47 hv47 => ?_)
        have hv47_32 : v47 32 = pput u ac L := by rw [hv47, xu_c _ _ _ _ (by decide), hv44_32]
        have hv47_31_4 : v47 31 4 = ac := by rw [hv47, xu_k, fu_n _ _ _ (by decide), hv44_31_4]
        have hv47_31_5 : v47 31 5 = sp19 := by rw [hv47, xu_k, fu_n _ _ _ (by decide), hv44_31_5]
        have hv47_31_6 : v47 31 6 = en := by rw [hv47, xu_k, fu_n _ _ _ (by decide), hv44_31_6]
        have hv47_31_7 : v47 31 7 = 1 := by rw [hv47, xu_k, fu_s]
        have hv47_31_8 : v47 31 8 = 5 := by rw [hv47, xu_k, fu_n _ _ _ (by decide), hv44_31_8]
        have hv47_31_3 : v47 31 3 = vi 31 3 := by rw [hv47, xu_k, fu_n _ _ _ (by decide), hv44_31_3]
        have hv47_31_22 : v47 31 22 = vi 31 22 := by rw [hv47, xu_k, fu_n _ _ _ (by decide), hv44_31_22]
        have frv47 : ∀ k : Nat, (¬ k = 31 ∧ ¬ k = 32) → v47 k = vi k := fun k hk => by rw [hv47, xu_c _ _ _ _ (by omega)]; exact frv44 k hk
        refine vx_aload_n hC 3 rfl eX12_factor_172 ?_
        refine vx_callV_i hC (kX12_figures G d _ _ _ _ _ hO h u ac en sp19 1 5 L hv47_32 hv47_31_4 hv47_31_5 hv47_31_6 hv47_31_7 hv47_31_8 hac hen (by omega) (by omega) (by omega)) ly_X12_111 (ot_31 hO) rfl rfl rfl hRm (by omega) (Nat.le_of_ble_eq_true rfl) rfl eX12_factor_173 (fun x48 ng49 tg49 ag49 bg49 cg49 hg49 => ?_)
        obtain ⟨hx48, qg49_0, qg49_1, qg49_2, qg49_3, qg49_4, qg49_5, qg49_6, qg49_7, rfl, rfl, rfl, rfl, frg49⟩ := hg49
        have qg49_0b : ag49 32 = pput u ac L := by first | exact qg49_0 | rw [qg49_0, hv47_32] | (rw [qg49_0]; exact hv47_32)
        have qg49_1b : ag49 31 4 = ac := by first | exact qg49_1 | rw [qg49_1, hv47_31_4] | (rw [qg49_1]; exact hv47_31_4)
        have qg49_2b : ag49 31 5 = pNs h 1 sp19 := by first | exact qg49_2 | rw [qg49_2, hv47_31_5] | (rw [qg49_2]; exact hv47_31_5)
        have qg49_3b : ag49 31 6 = en := by first | exact qg49_3 | rw [qg49_3, hv47_31_6] | (rw [qg49_3]; exact hv47_31_6)
        have qg49_4b : ag49 31 7 = pNw h 1 sp19 := by first | exact qg49_4 | rw [qg49_4, hv47_31_7] | (rw [qg49_4]; exact hv47_31_7)
        have qg49_5b : ag49 31 8 = 5 := by first | exact qg49_5 | rw [qg49_5, hv47_31_8] | (rw [qg49_5]; exact hv47_31_8)
        have qg49_6b : ag49 31 3 = vi 31 3 := by first | exact qg49_6 | rw [qg49_6, hv47_31_3] | (rw [qg49_6]; exact hv47_31_3)
        have qg49_7b : ag49 31 22 = vi 31 22 := by first | exact qg49_7 | rw [qg49_7, hv47_31_22] | (rw [qg49_7]; exact hv47_31_22)
        have frvig49 : ∀ k : Nat, (¬ k = 31 ∧ ¬ k = 32) → ag49 k = vi k := fun k hk => (frg49 k (by omega)).trans (frv47 k hk)
        obtain ⟨sp50, hsp50⟩ : ∃ z : Int, z = pNs h 1 sp19 := ⟨_, rfl⟩
        have esp50 : ag49 31 5 = sp50 := by rw [hsp50]; exact qg49_2b
        obtain ⟨w51, hw51⟩ : ∃ z : Int, z = pNw h 1 sp19 := ⟨_, rfl⟩
        have ew51 : ag49 31 7 = w51 := by rw [hw51]; exact qg49_4b
        have hfsp50 := pN_r (w := 1) hen (sp := sp19) (by omega)
        rw [← hsp50, ← hw51, ← hx48] at hfsp50
        refine vx_istore hC (lv1 := [(4, xa_i x48), (3, xa_i 0), (2, xa_i x17), (1, xa_i x2), (0, xa_r 31)]) (by decide) rfl eX12_factor_176 ?_
        refine vx_aload_n hC 4 rfl eX12_factor_178 ?_
        refine vx_iload_n hC 2 rfl eX12_factor_179 ?_
        refine vx_bipush hC (by decide) eX12_factor_180 ?_
        refine vx_iload_n hC 1 rfl eX12_factor_182 ?_
        refine vx_imul hC eX12_factor_183 ?_
        refine vx_iadd hC eX12_factor_184 ?_
        refine vx_bipush hC (by decide) eX12_factor_185 ?_
        refine vx_iload hC 0 rfl eX12_factor_187 ?_
        refine vx_imul hC eX12_factor_189 ?_
        refine vx_iadd hC eX12_factor_190 ?_
        refine vx_callV_v hC (kX12_emits G d _ _ _ _ _ hO h u ac en sp50 w51 5 L qg49_0b qg49_1b esp50 qg49_3b ew51 qg49_5b hac hen (by omega) (by omega) (by omega) (x17 + 8 * 0 + 32 * x48)) ly_X12_97 (ot_31 hO) rfl rfl rfl hRm (by omega) (Nat.le_of_ble_eq_true rfl) rfl eX12_factor_191 (fun ng53 tg53 ag53 bg53 cg53 hg53 => ?_)
        obtain ⟨qg53_0, qg53_1, qg53_2, qg53_3, qg53_4, qg53_5, qg53_6, qg53_7, rfl, rfl, rfl, rfl, frg53⟩ := hg53
        have qg53_0b : ag53 32 = pput u ac (pE w51 L (x17 + 8 * 0 + 32 * x48)) := by first | exact qg53_0 | rw [qg53_0, qg49_0b] | (rw [qg53_0]; exact qg49_0b)
        have qg53_1b : ag53 31 4 = ac := by first | exact qg53_1 | rw [qg53_1, qg49_1b] | (rw [qg53_1]; exact qg49_1b)
        have qg53_2b : ag53 31 5 = sp50 := by first | exact qg53_2 | rw [qg53_2, esp50] | (rw [qg53_2]; exact esp50)
        have qg53_3b : ag53 31 6 = en := by first | exact qg53_3 | rw [qg53_3, qg49_3b] | (rw [qg53_3]; exact qg49_3b)
        have qg53_4b : ag53 31 7 = w51 := by first | exact qg53_4 | rw [qg53_4, ew51] | (rw [qg53_4]; exact ew51)
        have qg53_5b : ag53 31 8 = 5 := by first | exact qg53_5 | rw [qg53_5, qg49_5b] | (rw [qg53_5]; exact qg49_5b)
        have qg53_6b : ag53 31 3 = vi 31 3 := by first | exact qg53_6 | rw [qg53_6, qg49_6b] | (rw [qg53_6]; exact qg49_6b)
        have qg53_7b : ag53 31 22 = vi 31 22 := by first | exact qg53_7 | rw [qg53_7, qg49_7b] | (rw [qg53_7]; exact qg49_7b)
        have frvig53 : ∀ k : Nat, (¬ k = 31 ∧ ¬ k = 32) → ag53 k = vi k := fun k hk => (frg53 k (by omega)).trans (frvig49 k hk)
        obtain ⟨L54, hL54⟩ : ∃ z : List Int, z = pE w51 L (x17 + 8 * 0 + 32 * x48) := ⟨_, rfl⟩
        have eL54 : ag53 32 = pput u ac L54 := by rw [hL54]; exact qg53_0b
        have hfL54 := pE_len w51 L (x17 + 8 * 0 + 32 * x48)
        rw [← hL54] at hfL54
        have hE0 : pF h 0 sp = pTest h sp := pF_tst (by omega) (by omega)
        have hE := hE0.trans (pTest_1 (by omega))
        exact vx_vret hC hM eX12_factor_194 (⟨rfl, (by rw [hE, eL54]; show pput u ac L54 = pput u ac (L ++ []); rw [List.append_nil]; rw [hfL54.2.2.2 (by omega)]), qg53_1b, (by rw [hE, qg53_2b]; show _ = sp; omega), qg53_3b, (by rw [hE, qg53_4b]; show _ = 1 - (0 : Int); omega), qg53_5b, qg53_6b, qg53_7b, rfl, rfl, rfl, rfl, fun k hk => frvig53 k hk⟩)
    · refine vx_aload_n hC 1 rfl eX12_factor_25 ?_
      refine vx_aload_n hC 1 rfl eX12_factor_26 ?_
      refine vx_gi hC 8 (ot_31 hO) lf_X12_91 rfl eX12_factor_27 ?_
      refine vx_eqi h8 ?_
      refine vx_iconst hC eX12_factor_30 ?_
      refine vx_icmp_ne hC (tgt := 38) (by omega) (by decide) eX12_factor_31 (fun c55 => absurd c55 (by omega)) (fun c55 => ?_)
      refine vx_iconst hC eX12_factor_34 ?_
      refine vx_goto hC (tgt := 39) (by decide) eX12_factor_35 ?_
      refine vx_pi hC 7 (ot_31 hO) lp_X12_67 rfl (Or.inl rfl) (Or.inr ⟨rfl, by omega⟩) eX12_factor_39 ?_
      refine vx_vi (fun v56 hv56 => ?_)
      have hv56_32 : v56 32 = pput u ac L := by rw [hv56, xu_c _ _ _ _ (by decide), h32]
      have hv56_31_4 : v56 31 4 = ac := by rw [hv56, xu_k, fu_n _ _ _ (by decide), h4]
      have hv56_31_5 : v56 31 5 = sp := by rw [hv56, xu_k, fu_n _ _ _ (by decide), h5]
      have hv56_31_6 : v56 31 6 = en := by rw [hv56, xu_k, fu_n _ _ _ (by decide), h6]
      have hv56_31_7 : v56 31 7 = 1 := by rw [hv56, xu_k, fu_s]
      have hv56_31_8 : v56 31 8 = 5 := by rw [hv56, xu_k, fu_n _ _ _ (by decide), h8]
      have hv56_31_3 : v56 31 3 = vi 31 3 := by rw [hv56, xu_k, fu_n _ _ _ (by decide)]
      have hv56_31_22 : v56 31 22 = vi 31 22 := by rw [hv56, xu_k, fu_n _ _ _ (by decide)]
      have frv56 : ∀ k : Nat, (¬ k = 31 ∧ ¬ k = 32) → v56 k = vi k := fun k hk => by rw [hv56, xu_c _ _ _ _ (by omega)]
      refine vx_aload_n hC 1 rfl eX12_factor_42 ?_
      refine vx_dup hC rfl eX12_factor_43 ?_
      refine vx_gi hC 8 (ot_31 hO) lf_X12_91 rfl eX12_factor_44 ?_
      refine vx_eqi hv56_31_8 ?_
      refine vx_iconst hC eX12_factor_47 ?_
      refine vx_iadd hC eX12_factor_48 ?_
      refine vx_pi hC 8 (ot_31 hO) lp_X12_91 rfl (Or.inl rfl) (Or.inl rfl) eX12_factor_49 ?_
      refine vx_vi (fun v57 hv57 => ?_)
      have hv57_32 : v57 32 = pput u ac L := by rw [hv57, xu_c _ _ _ _ (by decide), hv56_32]
      have hv57_31_4 : v57 31 4 = ac := by rw [hv57, xu_k, fu_n _ _ _ (by decide), hv56_31_4]
      have hv57_31_5 : v57 31 5 = sp := by rw [hv57, xu_k, fu_n _ _ _ (by decide), hv56_31_5]
      have hv57_31_6 : v57 31 6 = en := by rw [hv57, xu_k, fu_n _ _ _ (by decide), hv56_31_6]
      have hv57_31_7 : v57 31 7 = 1 := by rw [hv57, xu_k, fu_n _ _ _ (by decide), hv56_31_7]
      have hv57_31_8 : v57 31 8 = (5 + 1) := by rw [hv57, xu_k, fu_s]
      have hv57_31_3 : v57 31 3 = vi 31 3 := by rw [hv57, xu_k, fu_n _ _ _ (by decide), hv56_31_3]
      have hv57_31_22 : v57 31 22 = vi 31 22 := by rw [hv57, xu_k, fu_n _ _ _ (by decide), hv56_31_22]
      have frv57 : ∀ k : Nat, (¬ k = 31 ∧ ¬ k = 32) → v57 k = vi k := fun k hk => by rw [hv57, xu_c _ _ _ _ (by omega)]; exact frv56 k hk
      refine vx_aload_n hC 1 rfl eX12_factor_52 ?_
      refine vx_dup hC rfl eX12_factor_53 ?_
      refine vx_gi hC 5 (ot_31 hO) lf_X12_61 rfl eX12_factor_54 ?_
      refine vx_eqi hv57_31_5 ?_
      refine vx_aload_n hC 1 rfl eX12_factor_57 ?_
      refine vx_gi hC 7 (ot_31 hO) lf_X12_67 rfl eX12_factor_58 ?_
      refine vx_eqi hv57_31_7 ?_
      refine vx_if_eq hC (tgt := 68) (by omega) (by decide) eX12_factor_61 (fun c58 => absurd c58 (by omega)) (fun c58 => ?_)
      refine vx_iconst hC eX12_factor_64 ?_
      refine vx_goto hC (tgt := 69) (by decide) eX12_factor_65 ?_
      refine vx_iadd hC eX12_factor_69 ?_
      refine vx_pi hC 5 (ot_31 hO) lp_X12_61 rfl (Or.inl rfl) (Or.inl rfl) eX12_factor_70 ?_
      refine vx_vi (fun v59 hv59 => ?_)
      have hv59_32 : v59 32 = pput u ac L := by rw [hv59, xu_c _ _ _ _ (by decide), hv57_32]
      have hv59_31_4 : v59 31 4 = ac := by rw [hv59, xu_k, fu_n _ _ _ (by decide), hv57_31_4]
      have hv59_31_5 : v59 31 5 = (sp + 0) := by rw [hv59, xu_k, fu_s]
      have hv59_31_6 : v59 31 6 = en := by rw [hv59, xu_k, fu_n _ _ _ (by decide), hv57_31_6]
      have hv59_31_7 : v59 31 7 = 1 := by rw [hv59, xu_k, fu_n _ _ _ (by decide), hv57_31_7]
      have hv59_31_8 : v59 31 8 = (5 + 1) := by rw [hv59, xu_k, fu_n _ _ _ (by decide), hv57_31_8]
      have hv59_31_3 : v59 31 3 = vi 31 3 := by rw [hv59, xu_k, fu_n _ _ _ (by decide), hv57_31_3]
      have hv59_31_22 : v59 31 22 = vi 31 22 := by rw [hv59, xu_k, fu_n _ _ _ (by decide), hv57_31_22]
      have frv59 : ∀ k : Nat, (¬ k = 31 ∧ ¬ k = 32) → v59 k = vi k := fun k hk => by rw [hv59, xu_c _ _ _ _ (by omega)]; exact frv57 k hk
      refine vx_iload_n hC 0 rfl eX12_factor_73 ?_
      refine vx_bipush hC (by decide) eX12_factor_74 ?_
      refine vx_icmp_ne hC (tgt := 91) (by omega) (by decide) eX12_factor_76 (fun c60 => ?_) (fun c60 => absurd c60 (by omega))
      refine vx_aload_n hC 1 rfl eX12_factor_91 ?_
      refine vx_callV_v hC (kX12_someW G d _ _ _ _ _ hO hv59_31_7) ly_X12_100 (ot_31 hO) rfl rfl rfl hRm (by omega) (Nat.le_of_ble_eq_true rfl) rfl eX12_factor_92 (fun n9 t9 a9 b9 c9 hx61 => ?_)
      obtain ⟨rfl, rfl, rfl, rfl, rfl⟩ := hx61
      refine vx_aload_n hC 1 rfl eX12_factor_95 ?_
      refine vx_bipush hC (by decide) eX12_factor_96 ?_
      refine vx_callV_v hC (kX12_must G d _ _ _ _ _ hO h u ac en (sp + 0) 1 (5 + 1) L hv59_32 hv59_31_4 hv59_31_5 hv59_31_6 hv59_31_7 hv59_31_8 hac hen (by omega) (by omega) (by omega) 41 (by omega)) ly_X12_84 (ot_31 hO) rfl rfl rfl hRm (by omega) (Nat.le_of_ble_eq_true rfl) rfl eX12_factor_98 (fun ng63 tg63 ag63 bg63 cg63 hg63 => ?_)
      obtain ⟨qg63_0, qg63_1, qg63_2, qg63_3, qg63_4, qg63_5, qg63_6, qg63_7, rfl, rfl, rfl, rfl, frg63⟩ := hg63
      have qg63_0b : ag63 32 = pput u ac L := by first | exact qg63_0 | rw [qg63_0, hv59_32] | (rw [qg63_0]; exact hv59_32)
      have qg63_1b : ag63 31 4 = ac := by first | exact qg63_1 | rw [qg63_1, hv59_31_4] | (rw [qg63_1]; exact hv59_31_4)
      have qg63_2b : ag63 31 5 = pMs h 41 1 (sp + 0) := by first | exact qg63_2 | rw [qg63_2, hv59_31_5] | (rw [qg63_2]; exact hv59_31_5)
      have qg63_3b : ag63 31 6 = en := by first | exact qg63_3 | rw [qg63_3, hv59_31_6] | (rw [qg63_3]; exact hv59_31_6)
      have qg63_4b : ag63 31 7 = pMw h 41 1 (sp + 0) := by first | exact qg63_4 | rw [qg63_4, hv59_31_7] | (rw [qg63_4]; exact hv59_31_7)
      have qg63_5b : ag63 31 8 = (5 + 1) := by first | exact qg63_5 | rw [qg63_5, hv59_31_8] | (rw [qg63_5]; exact hv59_31_8)
      have qg63_6b : ag63 31 3 = vi 31 3 := by first | exact qg63_6 | rw [qg63_6, hv59_31_3] | (rw [qg63_6]; exact hv59_31_3)
      have qg63_7b : ag63 31 22 = vi 31 22 := by first | exact qg63_7 | rw [qg63_7, hv59_31_22] | (rw [qg63_7]; exact hv59_31_22)
      have frvig63 : ∀ k : Nat, (¬ k = 31 ∧ ¬ k = 32) → ag63 k = vi k := fun k hk => (frg63 k (by omega)).trans (frv59 k hk)
      obtain ⟨sp64, hsp64⟩ : ∃ z : Int, z = pMs h 41 1 (sp + 0) := ⟨_, rfl⟩
      have esp64 : ag63 31 5 = sp64 := by rw [hsp64]; exact qg63_2b
      obtain ⟨w65, hw65⟩ : ∃ z : Int, z = pMw h 41 1 (sp + 0) := ⟨_, rfl⟩
      have ew65 : ag63 31 7 = w65 := by rw [hw65]; exact qg63_4b
      have hfsp64 := pM_r (c := 41) (w := 1) hen (by omega) (sp := (sp + 0)) (by omega)
      rw [← hsp64, ← hw65] at hfsp64
      refine vx_aload_n hC 1 rfl eX12_factor_101 ?_
      refine vx_dup hC rfl eX12_factor_102 ?_
      refine vx_gi hC 8 (ot_31 hO) lf_X12_91 rfl eX12_factor_103 ?_
      refine vx_eqi qg63_5b ?_
      refine vx_iconst hC eX12_factor_106 ?_
      refine vx_isub hC eX12_factor_107 ?_
      refine vx_top (fun x66 hx66 => ?_)
      refine vx_pi hC 8 (ot_31 hO) lp_X12_91 rfl (Or.inl rfl) (Or.inl rfl) eX12_factor_108 ?_
      refine vx_vi (fun v67 hv67 => ?_)
      have hv67_32 : v67 32 = pput u ac L := by rw [hv67, xu_c _ _ _ _ (by decide), qg63_0b]
      have hv67_31_4 : v67 31 4 = ac := by rw [hv67, xu_k, fu_n _ _ _ (by decide), qg63_1b]
      have hv67_31_5 : v67 31 5 = sp64 := by rw [hv67, xu_k, fu_n _ _ _ (by decide), esp64]
      have hv67_31_6 : v67 31 6 = en := by rw [hv67, xu_k, fu_n _ _ _ (by decide), qg63_3b]
      have hv67_31_7 : v67 31 7 = w65 := by rw [hv67, xu_k, fu_n _ _ _ (by decide), ew65]
      have hv67_31_8 : v67 31 8 = x66 := by rw [hv67, xu_k, fu_s]
      have hv67_31_3 : v67 31 3 = vi 31 3 := by rw [hv67, xu_k, fu_n _ _ _ (by decide), qg63_6b]
      have hv67_31_22 : v67 31 22 = vi 31 22 := by rw [hv67, xu_k, fu_n _ _ _ (by decide), qg63_7b]
      have frv67 : ∀ k : Nat, (¬ k = 31 ∧ ¬ k = 32) → v67 k = vi k := fun k hk => by rw [hv67, xu_c _ _ _ _ (by omega)]; exact frvig63 k hk
      have hE : pF h 0 sp = (0, sp, []) := pTest_0 (by omega)
      exact vx_vret hC hM eX12_factor_111 (⟨rfl, (by rw [hE, hv67_32]; show pput u ac L = pput u ac (L ++ []); rw [List.append_nil]), hv67_31_4, (by rw [hE, hv67_31_5]; show _ = sp; omega), hv67_31_6, (by rw [hE, hv67_31_7]; show _ = 1 - (0 : Int); omega), (by rw [hv67_31_8]; omega), hv67_31_3, hv67_31_22, rfl, rfl, rfl, rfl, fun k hk => frv67 k hk⟩)
