set_option maxHeartbeats 4000000 in
set_option maxRecDepth 100000 in
theorem kX12_factorS (G : xg_T) (h u : Int → Int) (ac en : Int) (hac : 0 ≤ ac ∧ ac ≤ 4) (hen : pH h u en) (op : Int) (k ky : Nat) (hop : 0 ≤ op ∧ op ≤ 4) (hky : 6 ≤ ky) (hF : FC G yX12_factor cX12_factor 5 (ky) h u ac en (op + 1) (pF h k)) (hS : FC G yX12_some cX12_some 1 (ky + 2) h u ac en (op + 1) (pEx (pF h k) h)) : FC G yX12_factor cX12_factor 5 (ky + 3) h u ac en op (pF h (k + 1)) := by
  unfold FC
  intro d n tau vi vl vr hO sp L h32 h4 h5 h6 h7 h8 hsp hL
  refine xm.of (lv := [(0, xa_r 31)]) (by decide) (Nat.le_of_ble_eq_true rfl) rfl (fun K hC hM hRm => ?_)
  have he := hen.1
  have hh := hen.2
  have hhs := hh sp
  refine vx_aload_n hC 0 rfl eX12_factor_0 ?_
  refine vx_gi hC 7 (ot_31 hO) lf_X12_67 rfl eX12_factor_1 ?_
  refine vx_eqi h7 ?_
  refine vx_if_eq hC (tgt := 8) (by omega) (by decide) eX12_factor_4 (fun c1 => ?_) (fun c1 => absurd c1 (by omega))
  refine vx_aload_n hC 0 rfl eX12_factor_8 ?_
  refine vx_callV_i hC (kX12_hereP G d _ _ _ _ _ hO h u ac en sp 0 op L h32 h4 h5 h6 h7 h8 hac hen (by omega) (by omega) (by omega)) ly_X12_71 (ot_31 hO) rfl rfl rfl hRm (by omega) (Nat.le_of_ble_eq_true rfl) rfl eX12_factor_9 (fun x2 n9 t9 a9 b9 c9 hx2 => ?_)
  obtain ⟨hx2, rfl, rfl, rfl, rfl, rfl⟩ := hx2
  have hrx2 := hh sp
  refine vx_istore_n hC (lv1 := [(1, xa_i x2), (0, xa_r 31)]) (by decide) rfl eX12_factor_12 ?_
  refine vx_iload_n hC 0 rfl eX12_factor_13 ?_
  refine vx_bipush hC (by decide) eX12_factor_14 ?_
  refine vx_icmp_eq hC (tgt := 25) (by omega) (by decide) eX12_factor_16 (fun c3 => ?_) (fun c3 => ?_)
  · refine vx_aload_n hC 1 rfl eX12_factor_25 ?_
    refine vx_aload_n hC 1 rfl eX12_factor_26 ?_
    refine vx_gi hC 8 (ot_31 hO) lf_X12_91 rfl eX12_factor_27 ?_
    refine vx_eqi h8 ?_
    refine vx_iconst hC eX12_factor_30 ?_
    refine vx_icmp_ne hC (tgt := 38) (by omega) (by decide) eX12_factor_31 (fun c4 => ?_) (fun c4 => absurd c4 (by omega))
    refine vx_iconst hC eX12_factor_38 ?_
    refine vx_pi hC 7 (ot_31 hO) lp_X12_67 rfl (Or.inl rfl) (Or.inr ⟨rfl, by omega⟩) eX12_factor_39 ?_
    refine vx_vi (fun v5 hv5 => ?_)
    have hv5_32 : v5 32 = pput u ac L := by rw [hv5, xu_c _ _ _ _ (by decide), h32]
    have hv5_31_4 : v5 31 4 = ac := by rw [hv5, xu_k, fu_n _ _ _ (by decide), h4]
    have hv5_31_5 : v5 31 5 = sp := by rw [hv5, xu_k, fu_n _ _ _ (by decide), h5]
    have hv5_31_6 : v5 31 6 = en := by rw [hv5, xu_k, fu_n _ _ _ (by decide), h6]
    have hv5_31_7 : v5 31 7 = 0 := by rw [hv5, xu_k, fu_s]
    have hv5_31_8 : v5 31 8 = op := by rw [hv5, xu_k, fu_n _ _ _ (by decide), h8]
    have hv5_31_3 : v5 31 3 = vi 31 3 := by rw [hv5, xu_k, fu_n _ _ _ (by decide)]
    have hv5_31_22 : v5 31 22 = vi 31 22 := by rw [hv5, xu_k, fu_n _ _ _ (by decide)]
    have frv5 : ∀ k : Nat, (¬ k = 31 ∧ ¬ k = 32) → v5 k = vi k := fun k hk => by rw [hv5, xu_c _ _ _ _ (by omega)]
    refine vx_aload_n hC 1 rfl eX12_factor_42 ?_
    refine vx_dup hC rfl eX12_factor_43 ?_
    refine vx_gi hC 8 (ot_31 hO) lf_X12_91 rfl eX12_factor_44 ?_
    refine vx_eqi hv5_31_8 ?_
    refine vx_iconst hC eX12_factor_47 ?_
    refine vx_iadd hC eX12_factor_48 ?_
    refine vx_pi hC 8 (ot_31 hO) lp_X12_91 rfl (Or.inl rfl) (Or.inl rfl) eX12_factor_49 ?_
    refine vx_vi (fun v6 hv6 => ?_)
    have hv6_32 : v6 32 = pput u ac L := by rw [hv6, xu_c _ _ _ _ (by decide), hv5_32]
    have hv6_31_4 : v6 31 4 = ac := by rw [hv6, xu_k, fu_n _ _ _ (by decide), hv5_31_4]
    have hv6_31_5 : v6 31 5 = sp := by rw [hv6, xu_k, fu_n _ _ _ (by decide), hv5_31_5]
    have hv6_31_6 : v6 31 6 = en := by rw [hv6, xu_k, fu_n _ _ _ (by decide), hv5_31_6]
    have hv6_31_7 : v6 31 7 = 0 := by rw [hv6, xu_k, fu_n _ _ _ (by decide), hv5_31_7]
    have hv6_31_8 : v6 31 8 = (op + 1) := by rw [hv6, xu_k, fu_s]
    have hv6_31_3 : v6 31 3 = vi 31 3 := by rw [hv6, xu_k, fu_n _ _ _ (by decide), hv5_31_3]
    have hv6_31_22 : v6 31 22 = vi 31 22 := by rw [hv6, xu_k, fu_n _ _ _ (by decide), hv5_31_22]
    have frv6 : ∀ k : Nat, (¬ k = 31 ∧ ¬ k = 32) → v6 k = vi k := fun k hk => by rw [hv6, xu_c _ _ _ _ (by omega)]; exact frv5 k hk
    refine vx_aload_n hC 1 rfl eX12_factor_52 ?_
    refine vx_dup hC rfl eX12_factor_53 ?_
    refine vx_gi hC 5 (ot_31 hO) lf_X12_61 rfl eX12_factor_54 ?_
    refine vx_eqi hv6_31_5 ?_
    refine vx_aload_n hC 1 rfl eX12_factor_57 ?_
    refine vx_gi hC 7 (ot_31 hO) lf_X12_67 rfl eX12_factor_58 ?_
    refine vx_eqi hv6_31_7 ?_
    refine vx_if_eq hC (tgt := 68) (by omega) (by decide) eX12_factor_61 (fun c7 => ?_) (fun c7 => absurd c7 (by omega))
    refine vx_iconst hC eX12_factor_68 ?_
    refine vx_iadd hC eX12_factor_69 ?_
    refine vx_pi hC 5 (ot_31 hO) lp_X12_61 rfl (Or.inl rfl) (Or.inl rfl) eX12_factor_70 ?_
    refine vx_vi (fun v8 hv8 => ?_)
    have hv8_32 : v8 32 = pput u ac L := by rw [hv8, xu_c _ _ _ _ (by decide), hv6_32]
    have hv8_31_4 : v8 31 4 = ac := by rw [hv8, xu_k, fu_n _ _ _ (by decide), hv6_31_4]
    have hv8_31_5 : v8 31 5 = (sp + 1) := by rw [hv8, xu_k, fu_s]
    have hv8_31_6 : v8 31 6 = en := by rw [hv8, xu_k, fu_n _ _ _ (by decide), hv6_31_6]
    have hv8_31_7 : v8 31 7 = 0 := by rw [hv8, xu_k, fu_n _ _ _ (by decide), hv6_31_7]
    have hv8_31_8 : v8 31 8 = (op + 1) := by rw [hv8, xu_k, fu_n _ _ _ (by decide), hv6_31_8]
    have hv8_31_3 : v8 31 3 = vi 31 3 := by rw [hv8, xu_k, fu_n _ _ _ (by decide), hv6_31_3]
    have hv8_31_22 : v8 31 22 = vi 31 22 := by rw [hv8, xu_k, fu_n _ _ _ (by decide), hv6_31_22]
    have frv8 : ∀ k : Nat, (¬ k = 31 ∧ ¬ k = 32) → v8 k = vi k := fun k hk => by rw [hv8, xu_c _ _ _ _ (by omega)]; exact frv6 k hk
    refine vx_iload_n hC 0 rfl eX12_factor_73 ?_
    refine vx_bipush hC (by decide) eX12_factor_74 ?_
    refine vx_icmp_ne hC (tgt := 91) (by omega) (by decide) eX12_factor_76 (fun c9 => absurd c9 (by omega)) (fun c9 => ?_)
    refine vx_aload_n hC 1 rfl eX12_factor_79 ?_
    refine vx_callV_v hC (hF d _ _ _ _ _ hO (sp + 1) L hv8_32 hv8_31_4 hv8_31_5 hv8_31_6 hv8_31_7 hv8_31_8 (by omega) (by omega)) ly_X12_94 (ot_31 hO) rfl rfl rfl hRm (by omega) (Nat.le_of_ble_eq_true rfl) rfl eX12_factor_80 (fun ng11 tg11 ag11 bg11 cg11 hg11 => ?_)
    obtain ⟨qg11_0, qg11_1, qg11_2, qg11_3, qg11_4, qg11_5, qg11_6, qg11_7, rfl, rfl, rfl, rfl, frg11⟩ := hg11
    have qg11_0b : ag11 32 = pput u ac (L ++ (pF h k (sp + 1)).2.2) := by first | exact qg11_0 | rw [qg11_0, hv8_32] | (rw [qg11_0]; exact hv8_32)
    have qg11_1b : ag11 31 4 = ac := by first | exact qg11_1 | rw [qg11_1, hv8_31_4] | (rw [qg11_1]; exact hv8_31_4)
    have qg11_2b : ag11 31 5 = (pF h k (sp + 1)).2.1 := by first | exact qg11_2 | rw [qg11_2, hv8_31_5] | (rw [qg11_2]; exact hv8_31_5)
    have qg11_3b : ag11 31 6 = en := by first | exact qg11_3 | rw [qg11_3, hv8_31_6] | (rw [qg11_3]; exact hv8_31_6)
    have qg11_4b : ag11 31 7 = 1 - (pF h k (sp + 1)).1 := by first | exact qg11_4 | rw [qg11_4, hv8_31_7] | (rw [qg11_4]; exact hv8_31_7)
    have qg11_5b : ag11 31 8 = (op + 1) := by first | exact qg11_5 | rw [qg11_5, hv8_31_8] | (rw [qg11_5]; exact hv8_31_8)
    have qg11_6b : ag11 31 3 = vi 31 3 := by first | exact qg11_6 | rw [qg11_6, hv8_31_3] | (rw [qg11_6]; exact hv8_31_3)
    have qg11_7b : ag11 31 22 = vi 31 22 := by first | exact qg11_7 | rw [qg11_7, hv8_31_22] | (rw [qg11_7]; exact hv8_31_22)
    have frvig11 : ∀ k : Nat, (¬ k = 31 ∧ ¬ k = 32) → ag11 k = vi k := fun k hk => (frg11 k (by omega)).trans (frv8 k hk)
    obtain ⟨sp12, hsp12⟩ : ∃ z : Int, z = (pF h k (sp + 1)).2.1 := ⟨_, rfl⟩
    have esp12 : ag11 31 5 = sp12 := by rw [hsp12]; exact qg11_2b
    obtain ⟨w13, hw13⟩ : ∃ z : Int, z = 1 - (pF h k (sp + 1)).1 := ⟨_, rfl⟩
    have ew13 : ag11 31 7 = w13 := by rw [hw13]; exact qg11_4b
    obtain ⟨L14, hL14⟩ : ∃ z : List Int, z = L ++ (pF h k (sp + 1)).2.2 := ⟨_, rfl⟩
    have eL14 : ag11 32 = pput u ac L14 := by rw [hL14]; exact qg11_0b
    have hosp12 := (pF_ok hen k) (sp + 1) (by omega)
    have hlL14 : (L14.length : Int) = (L.length : Int) + ((pF h k (sp + 1)).2.2.length : Int) := by rw [hL14, List.length_append]; omega
    obtain ⟨o1sp12, o2sp12, o3sp12, o4sp12, o5sp12⟩ := hosp12
    refine vx_aload_n hC 1 rfl eX12_factor_83 ?_
    refine vx_iconst hC eX12_factor_84 ?_
    refine vx_callV_v hC (kX12_emits G d _ _ _ _ _ hO h u ac en sp12 w13 (op + 1) L14 eL14 qg11_1b esp12 qg11_3b ew13 qg11_5b hac hen (by omega) (by omega) (by omega) (-1)) ly_X12_97 (ot_31 hO) rfl rfl rfl hRm (by omega) (Nat.le_of_ble_eq_true rfl) rfl eX12_factor_85 (fun ng16 tg16 ag16 bg16 cg16 hg16 => ?_)
    obtain ⟨qg16_0, qg16_1, qg16_2, qg16_3, qg16_4, qg16_5, qg16_6, qg16_7, rfl, rfl, rfl, rfl, frg16⟩ := hg16
    have qg16_0b : ag16 32 = pput u ac (pE w13 L14 (-1)) := by first | exact qg16_0 | rw [qg16_0, eL14] | (rw [qg16_0]; exact eL14)
    have qg16_1b : ag16 31 4 = ac := by first | exact qg16_1 | rw [qg16_1, qg11_1b] | (rw [qg16_1]; exact qg11_1b)
    have qg16_2b : ag16 31 5 = sp12 := by first | exact qg16_2 | rw [qg16_2, esp12] | (rw [qg16_2]; exact esp12)
    have qg16_3b : ag16 31 6 = en := by first | exact qg16_3 | rw [qg16_3, qg11_3b] | (rw [qg16_3]; exact qg11_3b)
    have qg16_4b : ag16 31 7 = w13 := by first | exact qg16_4 | rw [qg16_4, ew13] | (rw [qg16_4]; exact ew13)
    have qg16_5b : ag16 31 8 = (op + 1) := by first | exact qg16_5 | rw [qg16_5, qg11_5b] | (rw [qg16_5]; exact qg11_5b)
    have qg16_6b : ag16 31 3 = vi 31 3 := by first | exact qg16_6 | rw [qg16_6, qg11_6b] | (rw [qg16_6]; exact qg11_6b)
    have qg16_7b : ag16 31 22 = vi 31 22 := by first | exact qg16_7 | rw [qg16_7, qg11_7b] | (rw [qg16_7]; exact qg11_7b)
    have frvig16 : ∀ k : Nat, (¬ k = 31 ∧ ¬ k = 32) → ag16 k = vi k := fun k hk => (frg16 k (by omega)).trans (frvig11 k hk)
    obtain ⟨L17, hL17⟩ : ∃ z : List Int, z = pE w13 L14 (-1) := ⟨_, rfl⟩
    have eL17 : ag16 32 = pput u ac L17 := by rw [hL17]; exact qg16_0b
    have hfL17 := pE_len w13 L14 (-1)
    rw [← hL17] at hfL17
    refine vx_goto hC (tgt := 101) (by decide) eX12_factor_88 ?_
    refine vx_aload_n hC 1 rfl eX12_factor_101 ?_
    refine vx_dup hC rfl eX12_factor_102 ?_
    refine vx_gi hC 8 (ot_31 hO) lf_X12_91 rfl eX12_factor_103 ?_
    refine vx_eqi qg16_5b ?_
    refine vx_iconst hC eX12_factor_106 ?_
    refine vx_isub hC eX12_factor_107 ?_
    refine vx_top (fun x18 hx18 => ?_)
    refine vx_pi hC 8 (ot_31 hO) lp_X12_91 rfl (Or.inl rfl) (Or.inl rfl) eX12_factor_108 ?_
    refine vx_vi (fun v19 hv19 => ?_)
    have hv19_32 : v19 32 = pput u ac L17 := by rw [hv19, xu_c _ _ _ _ (by decide), eL17]
    have hv19_31_4 : v19 31 4 = ac := by rw [hv19, xu_k, fu_n _ _ _ (by decide), qg16_1b]
    have hv19_31_5 : v19 31 5 = sp12 := by rw [hv19, xu_k, fu_n _ _ _ (by decide), qg16_2b]
    have hv19_31_6 : v19 31 6 = en := by rw [hv19, xu_k, fu_n _ _ _ (by decide), qg16_3b]
    have hv19_31_7 : v19 31 7 = w13 := by rw [hv19, xu_k, fu_n _ _ _ (by decide), qg16_4b]
    have hv19_31_8 : v19 31 8 = x18 := by rw [hv19, xu_k, fu_s]
    have hv19_31_3 : v19 31 3 = vi 31 3 := by rw [hv19, xu_k, fu_n _ _ _ (by decide), qg16_6b]
    have hv19_31_22 : v19 31 22 = vi 31 22 := by rw [hv19, xu_k, fu_n _ _ _ (by decide), qg16_7b]
    have frv19 : ∀ k : Nat, (¬ k = 31 ∧ ¬ k = 32) → v19 k = vi k := fun k hk => by rw [hv19, xu_c _ _ _ _ (by omega)]; exact frvig16 k hk
    have hE := pF_not (h := h) (k := k) (sp := sp) (by omega) o1sp12
    exact vx_vret hC hM eX12_factor_111 (⟨rfl, (by rw [hE, hv19_32]; show pput u ac L17 = pput u ac (L ++ pE (1 - (pF h k (sp + 1)).1) (pF h k (sp + 1)).2.2 (-1)); rw [hL17, hL14, hw13, pE_app]), hv19_31_4, (by rw [hE, hv19_31_5]; exact hsp12), hv19_31_6, (by rw [hE, hv19_31_7]; exact hw13), (by rw [hv19_31_8]; omega), hv19_31_3, hv19_31_22, rfl, rfl, rfl, rfl, fun k hk => frv19 k hk⟩)
  · refine vx_iload_n hC 0 rfl eX12_factor_19 ?_
    refine vx_bipush hC (by decide) eX12_factor_20 ?_
    refine vx_icmp_ne hC (tgt := 112) (by omega) (by decide) eX12_factor_22 (fun c20 => ?_) (fun c20 => ?_)
    · refine vx_aload_n hC 1 rfl eX12_factor_112 ?_
      refine vx_ldcs hC (i := 4) (tx := "nkpgsd") (by decide) eX12_factor_113 ?_
      refine vx_callV_i hC (kX12_among G d _ _ _ _ _ hO h u ac en sp 0 op L h32 h4 h5 h6 h7 h8 hac hen (by omega) (by omega) (by omega) 4 (by decide)) ly_X12_105 (ot_31 hO) rfl rfl rfl hRm (by omega) (Nat.le_of_ble_eq_true rfl) rfl eX12_factor_115 (fun x21 ng22 tg22 ag22 bg22 cg22 hg22 => ?_)
      obtain ⟨hx21, qg22_0, qg22_1, qg22_2, qg22_3, qg22_4, qg22_5, qg22_6, qg22_7, rfl, rfl, rfl, rfl, frg22⟩ := hg22
      have qg22_0b : ag22 32 = pput u ac L := by first | exact qg22_0 | rw [qg22_0, h32] | (rw [qg22_0]; exact h32)
      have qg22_1b : ag22 31 4 = ac := by first | exact qg22_1 | rw [qg22_1, h4] | (rw [qg22_1]; exact h4)
      have qg22_2b : ag22 31 5 = (if pA1 h sp = -1 then sp else sp + 1) := by first | exact qg22_2 | rw [qg22_2, h5] | (rw [qg22_2]; exact h5)
      have qg22_3b : ag22 31 6 = en := by first | exact qg22_3 | rw [qg22_3, h6] | (rw [qg22_3]; exact h6)
      have qg22_4b : ag22 31 7 = 0 := by first | exact qg22_4 | rw [qg22_4, h7] | (rw [qg22_4]; exact h7)
      have qg22_5b : ag22 31 8 = op := by first | exact qg22_5 | rw [qg22_5, h8] | (rw [qg22_5]; exact h8)
      have frvig22 : ∀ k : Nat, (¬ k = 31 ∧ ¬ k = 32) → ag22 k = vi k := fun k hk => (frg22 k (by omega))
      obtain ⟨sp23, hsp23⟩ : ∃ z : Int, z = (if pA1 h sp = -1 then sp else sp + 1) := ⟨_, rfl⟩
      have esp23 : ag22 31 5 = sp23 := by rw [hsp23]; exact qg22_2b
      have hrx21 := pA1_r h sp
      replace hx21 : x21 = pA1 h sp := hx21
      rw [← hx21] at hrx21 hsp23
      have hbx21 := hh sp
      refine vx_istore_n hC (lv1 := [(2, xa_i x21), (1, xa_i x2), (0, xa_r 31)]) (by decide) rfl eX12_factor_118 ?_
      refine vx_aload_n hC 2 rfl eX12_factor_119 ?_
      refine vx_iload_n hC 0 rfl eX12_factor_120 ?_
      refine vx_iconst hC eX12_factor_121 ?_
      refine vx_icmp_ne hC (tgt := 129) (by omega) (by decide) eX12_factor_122 (fun c24 => ?_) (fun c24 => ?_)
      · refine vx_iconst hC eX12_factor_129 ?_
        refine vx_pi hC 7 (ot_31 hO) lp_X12_67 rfl (Or.inl rfl) (Or.inr ⟨rfl, by omega⟩) eX12_factor_130 ?_
        refine vx_vi (fun v25 hv25 => ?_)
        have hv25_32 : v25 32 = pput u ac L := by rw [hv25, xu_c _ _ _ _ (by decide), qg22_0b]
        have hv25_31_4 : v25 31 4 = ac := by rw [hv25, xu_k, fu_n _ _ _ (by decide), qg22_1b]
        have hv25_31_5 : v25 31 5 = sp23 := by rw [hv25, xu_k, fu_n _ _ _ (by decide), esp23]
        have hv25_31_6 : v25 31 6 = en := by rw [hv25, xu_k, fu_n _ _ _ (by decide), qg22_3b]
        have hv25_31_7 : v25 31 7 = 0 := by rw [hv25, xu_k, fu_s]
        have hv25_31_8 : v25 31 8 = op := by rw [hv25, xu_k, fu_n _ _ _ (by decide), qg22_5b]
        have hv25_31_3 : v25 31 3 = vi 31 3 := by rw [hv25, xu_k, fu_n _ _ _ (by decide), qg22_6]
        have hv25_31_22 : v25 31 22 = vi 31 22 := by rw [hv25, xu_k, fu_n _ _ _ (by decide), qg22_7]
        have frv25 : ∀ k : Nat, (¬ k = 31 ∧ ¬ k = 32) → v25 k = vi k := fun k hk => by rw [hv25, xu_c _ _ _ _ (by omega)]; exact frvig22 k hk
        refine vx_aload_n hC 2 rfl eX12_factor_133 ?_
        refine vx_gi hC 7 (ot_31 hO) lf_X12_67 rfl eX12_factor_134 ?_
        refine vx_eqi hv25_31_7 ?_
        refine vx_if_eq hC (tgt := 144) (by omega) (by decide) eX12_factor_137 (fun c26 => ?_) (fun c26 => absurd c26 (by omega))
        refine vx_aload_n hC 2 rfl eX12_factor_144 ?_
        refine vx_ldcs hC (i := 5) (tx := "<=>") (by decide) eX12_factor_145 ?_
        refine vx_callV_i hC (kX12_among G d _ _ _ _ _ hO h u ac en sp23 0 op L hv25_32 hv25_31_4 hv25_31_5 hv25_31_6 hv25_31_7 hv25_31_8 hac hen (by omega) (by omega) (by omega) 5 (by decide)) ly_X12_105 (ot_31 hO) rfl rfl rfl hRm (by omega) (Nat.le_of_ble_eq_true rfl) rfl eX12_factor_147 (fun x27 ng28 tg28 ag28 bg28 cg28 hg28 => ?_)
        obtain ⟨hx27, qg28_0, qg28_1, qg28_2, qg28_3, qg28_4, qg28_5, qg28_6, qg28_7, rfl, rfl, rfl, rfl, frg28⟩ := hg28
        have qg28_0b : ag28 32 = pput u ac L := by first | exact qg28_0 | rw [qg28_0, hv25_32] | (rw [qg28_0]; exact hv25_32)
        have qg28_1b : ag28 31 4 = ac := by first | exact qg28_1 | rw [qg28_1, hv25_31_4] | (rw [qg28_1]; exact hv25_31_4)
        have qg28_2b : ag28 31 5 = (if pA2 h sp23 = -1 then sp23 else sp23 + 1) := by first | exact qg28_2 | rw [qg28_2, hv25_31_5] | (rw [qg28_2]; exact hv25_31_5)
        have qg28_3b : ag28 31 6 = en := by first | exact qg28_3 | rw [qg28_3, hv25_31_6] | (rw [qg28_3]; exact hv25_31_6)
        have qg28_4b : ag28 31 7 = 0 := by first | exact qg28_4 | rw [qg28_4, hv25_31_7] | (rw [qg28_4]; exact hv25_31_7)
        have qg28_5b : ag28 31 8 = op := by first | exact qg28_5 | rw [qg28_5, hv25_31_8] | (rw [qg28_5]; exact hv25_31_8)
        have qg28_6b : ag28 31 3 = vi 31 3 := by first | exact qg28_6 | rw [qg28_6, hv25_31_3] | (rw [qg28_6]; exact hv25_31_3)
        have qg28_7b : ag28 31 22 = vi 31 22 := by first | exact qg28_7 | rw [qg28_7, hv25_31_22] | (rw [qg28_7]; exact hv25_31_22)
        have frvig28 : ∀ k : Nat, (¬ k = 31 ∧ ¬ k = 32) → ag28 k = vi k := fun k hk => (frg28 k (by omega)).trans (frv25 k hk)
        obtain ⟨sp29, hsp29⟩ : ∃ z : Int, z = (if pA2 h sp23 = -1 then sp23 else sp23 + 1) := ⟨_, rfl⟩
        have esp29 : ag28 31 5 = sp29 := by rw [hsp29]; exact qg28_2b
        have hrx27 := pA2_r h sp23
        replace hx27 : x27 = pA2 h sp23 := hx27
        rw [← hx27] at hrx27 hsp29
        have hbx27 := hh sp23
        refine vx_istore_n hC (lv1 := [(3, xa_i x27), (2, xa_i x21), (1, xa_i x2), (0, xa_r 31)]) (by decide) rfl eX12_factor_150 ?_
        refine vx_aload_n hC 3 rfl eX12_factor_151 ?_
        refine vx_aload_n hC 3 rfl eX12_factor_152 ?_
        refine vx_gi hC 7 (ot_31 hO) lf_X12_67 rfl eX12_factor_153 ?_
        refine vx_eqi qg28_4b ?_
        refine vx_if_ne hC (tgt := 164) (by omega) (by decide) eX12_factor_156 (fun c30 => absurd c30 (by omega)) (fun c30 => ?_)
        refine vx_iload_n hC 0 rfl eX12_factor_159 ?_
        refine vx_iconst hC eX12_factor_160 ?_
        refine vx_icmp_ne hC (tgt := 168) (by omega) (by decide) eX12_factor_161 (fun c31 => ?_) (fun c31 => ?_)
        · refine vx_iconst hC eX12_factor_168 ?_
          refine vx_pi hC 7 (ot_31 hO) lp_X12_67 rfl (Or.inl rfl) (Or.inr ⟨rfl, by omega⟩) eX12_factor_169 ?_
          refine vx_vi (fun v32 hv32 => ?_)
          have hv32_32 : v32 32 = pput u ac L := by rw [hv32, xu_c _ _ _ _ (by decide), qg28_0b]
          have hv32_31_4 : v32 31 4 = ac := by rw [hv32, xu_k, fu_n _ _ _ (by decide), qg28_1b]
          have hv32_31_5 : v32 31 5 = sp29 := by rw [hv32, xu_k, fu_n _ _ _ (by decide), esp29]
          have hv32_31_6 : v32 31 6 = en := by rw [hv32, xu_k, fu_n _ _ _ (by decide), qg28_3b]
          have hv32_31_7 : v32 31 7 = 0 := by rw [hv32, xu_k, fu_s]
          have hv32_31_8 : v32 31 8 = op := by rw [hv32, xu_k, fu_n _ _ _ (by decide), qg28_5b]
          have hv32_31_3 : v32 31 3 = vi 31 3 := by rw [hv32, xu_k, fu_n _ _ _ (by decide), qg28_6b]
          have hv32_31_22 : v32 31 22 = vi 31 22 := by rw [hv32, xu_k, fu_n _ _ _ (by decide), qg28_7b]
          have frv32 : ∀ k : Nat, (¬ k = 31 ∧ ¬ k = 32) → v32 k = vi k := fun k hk => by rw [hv32, xu_c _ _ _ _ (by omega)]; exact frvig28 k hk
          refine vx_aload_n hC 3 rfl eX12_factor_172 ?_
          refine vx_callV_i hC (kX12_figures G d _ _ _ _ _ hO h u ac en sp29 0 op L hv32_32 hv32_31_4 hv32_31_5 hv32_31_6 hv32_31_7 hv32_31_8 hac hen (by omega) (by omega) (by omega)) ly_X12_111 (ot_31 hO) rfl rfl rfl hRm (by omega) (Nat.le_of_ble_eq_true rfl) rfl eX12_factor_173 (fun x33 ng34 tg34 ag34 bg34 cg34 hg34 => ?_)
          obtain ⟨hx33, qg34_0, qg34_1, qg34_2, qg34_3, qg34_4, qg34_5, qg34_6, qg34_7, rfl, rfl, rfl, rfl, frg34⟩ := hg34
          have qg34_0b : ag34 32 = pput u ac L := by first | exact qg34_0 | rw [qg34_0, hv32_32] | (rw [qg34_0]; exact hv32_32)
          have qg34_1b : ag34 31 4 = ac := by first | exact qg34_1 | rw [qg34_1, hv32_31_4] | (rw [qg34_1]; exact hv32_31_4)
          have qg34_2b : ag34 31 5 = pNs h 0 sp29 := by first | exact qg34_2 | rw [qg34_2, hv32_31_5] | (rw [qg34_2]; exact hv32_31_5)
          have qg34_3b : ag34 31 6 = en := by first | exact qg34_3 | rw [qg34_3, hv32_31_6] | (rw [qg34_3]; exact hv32_31_6)
          have qg34_4b : ag34 31 7 = pNw h 0 sp29 := by first | exact qg34_4 | rw [qg34_4, hv32_31_7] | (rw [qg34_4]; exact hv32_31_7)
          have qg34_5b : ag34 31 8 = op := by first | exact qg34_5 | rw [qg34_5, hv32_31_8] | (rw [qg34_5]; exact hv32_31_8)
          have qg34_6b : ag34 31 3 = vi 31 3 := by first | exact qg34_6 | rw [qg34_6, hv32_31_3] | (rw [qg34_6]; exact hv32_31_3)
          have qg34_7b : ag34 31 22 = vi 31 22 := by first | exact qg34_7 | rw [qg34_7, hv32_31_22] | (rw [qg34_7]; exact hv32_31_22)
          have frvig34 : ∀ k : Nat, (¬ k = 31 ∧ ¬ k = 32) → ag34 k = vi k := fun k hk => (frg34 k (by omega)).trans (frv32 k hk)
          obtain ⟨sp35, hsp35⟩ : ∃ z : Int, z = pNs h 0 sp29 := ⟨_, rfl⟩
          have esp35 : ag34 31 5 = sp35 := by rw [hsp35]; exact qg34_2b
          obtain ⟨w36, hw36⟩ : ∃ z : Int, z = pNw h 0 sp29 := ⟨_, rfl⟩
          have ew36 : ag34 31 7 = w36 := by rw [hw36]; exact qg34_4b
          have hfsp35 := pN_r (w := 0) hen (sp := sp29) (by omega)
          rw [← hsp35, ← hw36, ← hx33] at hfsp35
          refine vx_istore hC (lv1 := [(4, xa_i x33), (3, xa_i x27), (2, xa_i x21), (1, xa_i x2), (0, xa_r 31)]) (by decide) rfl eX12_factor_176 ?_
          refine vx_aload_n hC 4 rfl eX12_factor_178 ?_
          refine vx_iload_n hC 2 rfl eX12_factor_179 ?_
          refine vx_bipush hC (by decide) eX12_factor_180 ?_
          refine vx_iload_n hC 1 rfl eX12_factor_182 ?_
          refine vx_imul hC eX12_factor_183 ?_
          refine vx_iadd hC eX12_factor_184 ?_
          refine vx_bipush hC (by decide) eX12_factor_185 ?_
          refine vx_iload hC 0 rfl eX12_factor_187 ?_
          refine vx_imul hC eX12_factor_189 ?_
          refine vx_iadd hC eX12_factor_190 ?_
          refine vx_callV_v hC (kX12_emits G d _ _ _ _ _ hO h u ac en sp35 w36 op L qg34_0b qg34_1b esp35 qg34_3b ew36 qg34_5b hac hen (by omega) (by omega) (by omega) (x21 + 8 * x27 + 32 * x33)) ly_X12_97 (ot_31 hO) rfl rfl rfl hRm (by omega) (Nat.le_of_ble_eq_true rfl) rfl eX12_factor_191 (fun ng38 tg38 ag38 bg38 cg38 hg38 => ?_)
          obtain ⟨qg38_0, qg38_1, qg38_2, qg38_3, qg38_4, qg38_5, qg38_6, qg38_7, rfl, rfl, rfl, rfl, frg38⟩ := hg38
          have qg38_0b : ag38 32 = pput u ac (pE w36 L (x21 + 8 * x27 + 32 * x33)) := by first | exact qg38_0 | rw [qg38_0, qg34_0b] | (rw [qg38_0]; exact qg34_0b)
          have qg38_1b : ag38 31 4 = ac := by first | exact qg38_1 | rw [qg38_1, qg34_1b] | (rw [qg38_1]; exact qg34_1b)
          have qg38_2b : ag38 31 5 = sp35 := by first | exact qg38_2 | rw [qg38_2, esp35] | (rw [qg38_2]; exact esp35)
          have qg38_3b : ag38 31 6 = en := by first | exact qg38_3 | rw [qg38_3, qg34_3b] | (rw [qg38_3]; exact qg34_3b)
          have qg38_4b : ag38 31 7 = w36 := by first | exact qg38_4 | rw [qg38_4, ew36] | (rw [qg38_4]; exact ew36)
          have qg38_5b : ag38 31 8 = op := by first | exact qg38_5 | rw [qg38_5, qg34_5b] | (rw [qg38_5]; exact qg34_5b)
          have qg38_6b : ag38 31 3 = vi 31 3 := by first | exact qg38_6 | rw [qg38_6, qg34_6b] | (rw [qg38_6]; exact qg34_6b)
          have qg38_7b : ag38 31 22 = vi 31 22 := by first | exact qg38_7 | rw [qg38_7, qg34_7b] | (rw [qg38_7]; exact qg34_7b)
          have frvig38 : ∀ k : Nat, (¬ k = 31 ∧ ¬ k = 32) → ag38 k = vi k := fun k hk => (frg38 k (by omega)).trans (frvig34 k hk)
          obtain ⟨L39, hL39⟩ : ∃ z : List Int, z = pE w36 L (x21 + 8 * x27 + 32 * x33) := ⟨_, rfl⟩
          have eL39 : ag38 32 = pput u ac L39 := by rw [hL39]; exact qg38_0b
          have hfL39 := pE_len w36 L (x21 + 8 * x27 + 32 * x33)
          rw [← hL39] at hfL39
          have hE0 : pF h (k + 1) sp = pTest h sp := pF_tst (by omega) (by omega)
          have hs1 : sp23 = sp + 1 := by omega
          have hs2 : sp29 = sp + 2 := by omega
          have hE := hE0.trans (pTest_3 hs1 hs2 hx21 hx27 (by omega) (by omega))
          exact vx_vret hC hM eX12_factor_194 (⟨rfl, (by rw [hE, eL39]; show pput u ac L39 = pput u ac (L ++ pE (pNw h 0 sp29) [] (x21 + 8 * x27 + 32 * pNv h 0 sp29)); rw [hL39, ← pE_nil, hw36, hx33]), qg38_1b, (by rw [hE, qg38_2b, hsp35]), qg38_3b, (by rw [hE, qg38_4b]; show _ = 1 - (1 - pNw h 0 sp29); rw [hw36]; omega), qg38_5b, qg38_6b, qg38_7b, rfl, rfl, rfl, rfl, fun k hk => frvig38 k hk⟩)
        · refine vx_iconst hC eX12_factor_164 ?_
          refine vx_goto hC (tgt := 169) (by decide) eX12_factor_165 ?_
          refine vx_pi hC 7 (ot_31 hO) lp_X12_67 rfl (Or.inl rfl) (Or.inr ⟨rfl, by omega⟩) eX12_factor_169 ?_
          refine vx_vi (fun v40 hv40 => ?_)
          have hv40_32 : v40 32 = pput u ac L := by rw [hv40, xu_c _ _ _ _ (by decide), qg28_0b]
          have hv40_31_4 : v40 31 4 = ac := by rw [hv40, xu_k, fu_n _ _ _ (by decide), qg28_1b]
          have hv40_31_5 : v40 31 5 = sp29 := by rw [hv40, xu_k, fu_n _ _ _ (by decide), esp29]
          have hv40_31_6 : v40 31 6 = en := by rw [hv40, xu_k, fu_n _ _ _ (by decide), qg28_3b]
          have hv40_31_7 : v40 31 7 = 1 := by rw [hv40, xu_k, fu_s]
          have hv40_31_8 : v40 31 8 = op := by rw [hv40, xu_k, fu_n _ _ _ (by decide), qg28_5b]
          have hv40_31_3 : v40 31 3 = vi 31 3 := by rw [hv40, xu_k, fu_n _ _ _ (by decide), qg28_6b]
          have hv40_31_22 : v40 31 22 = vi 31 22 := by rw [hv40, xu_k, fu_n _ _ _ (by decide), qg28_7b]
          have frv40 : ∀ k : Nat, (¬ k = 31 ∧ ¬ k = 32) → v40 k = vi k := fun k hk => by rw [hv40, xu_c _ _ _ _ (by omega)]; exact frvig28 k hk
          refine vx_aload_n hC 3 rfl eX12_factor_172 ?_
          refine vx_callV_i hC (kX12_figures G d _ _ _ _ _ hO h u ac en sp29 1 op L hv40_32 hv40_31_4 hv40_31_5 hv40_31_6 hv40_31_7 hv40_31_8 hac hen (by omega) (by omega) (by omega)) ly_X12_111 (ot_31 hO) rfl rfl rfl hRm (by omega) (Nat.le_of_ble_eq_true rfl) rfl eX12_factor_173 (fun x41 ng42 tg42 ag42 bg42 cg42 hg42 => ?_)
          obtain ⟨hx41, qg42_0, qg42_1, qg42_2, qg42_3, qg42_4, qg42_5, qg42_6, qg42_7, rfl, rfl, rfl, rfl, frg42⟩ := hg42
          have qg42_0b : ag42 32 = pput u ac L := by first | exact qg42_0 | rw [qg42_0, hv40_32] | (rw [qg42_0]; exact hv40_32)
          have qg42_1b : ag42 31 4 = ac := by first | exact qg42_1 | rw [qg42_1, hv40_31_4] | (rw [qg42_1]; exact hv40_31_4)
          have qg42_2b : ag42 31 5 = pNs h 1 sp29 := by first | exact qg42_2 | rw [qg42_2, hv40_31_5] | (rw [qg42_2]; exact hv40_31_5)
          have qg42_3b : ag42 31 6 = en := by first | exact qg42_3 | rw [qg42_3, hv40_31_6] | (rw [qg42_3]; exact hv40_31_6)
          have qg42_4b : ag42 31 7 = pNw h 1 sp29 := by first | exact qg42_4 | rw [qg42_4, hv40_31_7] | (rw [qg42_4]; exact hv40_31_7)
          have qg42_5b : ag42 31 8 = op := by first | exact qg42_5 | rw [qg42_5, hv40_31_8] | (rw [qg42_5]; exact hv40_31_8)
          have qg42_6b : ag42 31 3 = vi 31 3 := by first | exact qg42_6 | rw [qg42_6, hv40_31_3] | (rw [qg42_6]; exact hv40_31_3)
          have qg42_7b : ag42 31 22 = vi 31 22 := by first | exact qg42_7 | rw [qg42_7, hv40_31_22] | (rw [qg42_7]; exact hv40_31_22)
          have frvig42 : ∀ k : Nat, (¬ k = 31 ∧ ¬ k = 32) → ag42 k = vi k := fun k hk => (frg42 k (by omega)).trans (frv40 k hk)
          obtain ⟨sp43, hsp43⟩ : ∃ z : Int, z = pNs h 1 sp29 := ⟨_, rfl⟩
          have esp43 : ag42 31 5 = sp43 := by rw [hsp43]; exact qg42_2b
          obtain ⟨w44, hw44⟩ : ∃ z : Int, z = pNw h 1 sp29 := ⟨_, rfl⟩
          have ew44 : ag42 31 7 = w44 := by rw [hw44]; exact qg42_4b
          have hfsp43 := pN_r (w := 1) hen (sp := sp29) (by omega)
          rw [← hsp43, ← hw44, ← hx41] at hfsp43
          refine vx_istore hC (lv1 := [(4, xa_i x41), (3, xa_i x27), (2, xa_i x21), (1, xa_i x2), (0, xa_r 31)]) (by decide) rfl eX12_factor_176 ?_
          refine vx_aload_n hC 4 rfl eX12_factor_178 ?_
          refine vx_iload_n hC 2 rfl eX12_factor_179 ?_
          refine vx_bipush hC (by decide) eX12_factor_180 ?_
          refine vx_iload_n hC 1 rfl eX12_factor_182 ?_
          refine vx_imul hC eX12_factor_183 ?_
          refine vx_iadd hC eX12_factor_184 ?_
          refine vx_bipush hC (by decide) eX12_factor_185 ?_
          refine vx_iload hC 0 rfl eX12_factor_187 ?_
          refine vx_imul hC eX12_factor_189 ?_
          refine vx_iadd hC eX12_factor_190 ?_
          refine vx_callV_v hC (kX12_emits G d _ _ _ _ _ hO h u ac en sp43 w44 op L qg42_0b qg42_1b esp43 qg42_3b ew44 qg42_5b hac hen (by omega) (by omega) (by omega) (x21 + 8 * x27 + 32 * x41)) ly_X12_97 (ot_31 hO) rfl rfl rfl hRm (by omega) (Nat.le_of_ble_eq_true rfl) rfl eX12_factor_191 (fun ng46 tg46 ag46 bg46 cg46 hg46 => ?_)
          obtain ⟨qg46_0, qg46_1, qg46_2, qg46_3, qg46_4, qg46_5, qg46_6, qg46_7, rfl, rfl, rfl, rfl, frg46⟩ := hg46
          have qg46_0b : ag46 32 = pput u ac (pE w44 L (x21 + 8 * x27 + 32 * x41)) := by first | exact qg46_0 | rw [qg46_0, qg42_0b] | (rw [qg46_0]; exact qg42_0b)
          have qg46_1b : ag46 31 4 = ac := by first | exact qg46_1 | rw [qg46_1, qg42_1b] | (rw [qg46_1]; exact qg42_1b)
          have qg46_2b : ag46 31 5 = sp43 := by first | exact qg46_2 | rw [qg46_2, esp43] | (rw [qg46_2]; exact esp43)
          have qg46_3b : ag46 31 6 = en := by first | exact qg46_3 | rw [qg46_3, qg42_3b] | (rw [qg46_3]; exact qg42_3b)
          have qg46_4b : ag46 31 7 = w44 := by first | exact qg46_4 | rw [qg46_4, ew44] | (rw [qg46_4]; exact ew44)
          have qg46_5b : ag46 31 8 = op := by first | exact qg46_5 | rw [qg46_5, qg42_5b] | (rw [qg46_5]; exact qg42_5b)
          have qg46_6b : ag46 31 3 = vi 31 3 := by first | exact qg46_6 | rw [qg46_6, qg42_6b] | (rw [qg46_6]; exact qg42_6b)
          have qg46_7b : ag46 31 22 = vi 31 22 := by first | exact qg46_7 | rw [qg46_7, qg42_7b] | (rw [qg46_7]; exact qg42_7b)
          have frvig46 : ∀ k : Nat, (¬ k = 31 ∧ ¬ k = 32) → ag46 k = vi k := fun k hk => (frg46 k (by omega)).trans (frvig42 k hk)
          obtain ⟨L47, hL47⟩ : ∃ z : List Int, z = pE w44 L (x21 + 8 * x27 + 32 * x41) := ⟨_, rfl⟩
          have eL47 : ag46 32 = pput u ac L47 := by rw [hL47]; exact qg46_0b
          have hfL47 := pE_len w44 L (x21 + 8 * x27 + 32 * x41)
          rw [← hL47] at hfL47
          have hE0 : pF h (k + 1) sp = pTest h sp := pF_tst (by omega) (by omega)
          have hs1 : sp23 = sp + 1 := by omega
          have hE := hE0.trans (pTest_2 hs1 (by omega) (by omega))
          exact vx_vret hC hM eX12_factor_194 (⟨rfl, (by rw [hE, eL47]; show pput u ac L47 = pput u ac (L ++ []); rw [List.append_nil]; rw [hfL47.2.2.2 (by omega)]), qg46_1b, (by rw [hE, qg46_2b]; show _ = sp23; omega), qg46_3b, (by rw [hE, qg46_4b]; show _ = 1 - (0 : Int); omega), qg46_5b, qg46_6b, qg46_7b, rfl, rfl, rfl, rfl, fun k hk => frvig46 k hk⟩)
      · refine vx_iconst hC eX12_factor_125 ?_
        refine vx_goto hC (tgt := 130) (by decide) eX12_factor_126 ?_
        refine vx_pi hC 7 (ot_31 hO) lp_X12_67 rfl (Or.inl rfl) (Or.inr ⟨rfl, by omega⟩) eX12_factor_130 ?_
        refine vx_vi (fun v48 hv48 => ?_)
        have hv48_32 : v48 32 = pput u ac L := by rw [hv48, xu_c _ _ _ _ (by decide), qg22_0b]
        have hv48_31_4 : v48 31 4 = ac := by rw [hv48, xu_k, fu_n _ _ _ (by decide), qg22_1b]
        have hv48_31_5 : v48 31 5 = sp23 := by rw [hv48, xu_k, fu_n _ _ _ (by decide), esp23]
        have hv48_31_6 : v48 31 6 = en := by rw [hv48, xu_k, fu_n _ _ _ (by decide), qg22_3b]
        have hv48_31_7 : v48 31 7 = 1 := by rw [hv48, xu_k, fu_s]
        have hv48_31_8 : v48 31 8 = op := by rw [hv48, xu_k, fu_n _ _ _ (by decide), qg22_5b]
        have hv48_31_3 : v48 31 3 = vi 31 3 := by rw [hv48, xu_k, fu_n _ _ _ (by decide), qg22_6]
        have hv48_31_22 : v48 31 22 = vi 31 22 := by rw [hv48, xu_k, fu_n _ _ _ (by decide), qg22_7]
        have frv48 : ∀ k : Nat, (¬ k = 31 ∧ ¬ k = 32) → v48 k = vi k := fun k hk => by rw [hv48, xu_c _ _ _ _ (by omega)]; exact frvig22 k hk
        refine vx_aload_n hC 2 rfl eX12_factor_133 ?_
        refine vx_gi hC 7 (ot_31 hO) lf_X12_67 rfl eX12_factor_134 ?_
        refine vx_eqi hv48_31_7 ?_
        refine vx_if_eq hC (tgt := 144) (by omega) (by decide) eX12_factor_137 (fun c49 => absurd c49 (by omega)) (fun c49 => ?_)
        refine vx_iconst hC eX12_factor_140 ?_
        refine vx_goto hC (tgt := 150) (by decide) eX12_factor_141 ?_
        refine vx_istore_n hC (lv1 := [(3, xa_i 0), (2, xa_i x21), (1, xa_i x2), (0, xa_r 31)]) (by decide) rfl eX12_factor_150 ?_
        refine vx_aload_n hC 3 rfl eX12_factor_151 ?_
        refine vx_aload_n hC 3 rfl eX12_factor_152 ?_
        refine vx_gi hC 7 (ot_31 hO) lf_X12_67 rfl eX12_factor_153 ?_
        refine vx_eqi hv48_31_7 ?_
        refine vx_if_ne hC (tgt := 164) (by omega) (by decide) eX12_factor_156 (fun c50 => ?_) (fun c50 => absurd c50 (by omega))
        refine vx_iconst hC eX12_factor_164 ?_
        refine vx_goto hC (tgt := 169) (by decide) eX12_factor_165 ?_
        refine vx_pi hC 7 (ot_31 hO) lp_X12_67 rfl (Or.inl rfl) (Or.inr ⟨rfl, by omega⟩) eX12_factor_169 ?_
        refine vx_vi (fun v51 hv51 => ?_)
        have hv51_32 : v51 32 = pput u ac L := by rw [hv51, xu_c _ _ _ _ (by decide), hv48_32]
        have hv51_31_4 : v51 31 4 = ac := by rw [hv51, xu_k, fu_n _ _ _ (by decide), hv48_31_4]
        have hv51_31_5 : v51 31 5 = sp23 := by rw [hv51, xu_k, fu_n _ _ _ (by decide), hv48_31_5]
        have hv51_31_6 : v51 31 6 = en := by rw [hv51, xu_k, fu_n _ _ _ (by decide), hv48_31_6]
        have hv51_31_7 : v51 31 7 = 1 := by rw [hv51, xu_k, fu_s]
        have hv51_31_8 : v51 31 8 = op := by rw [hv51, xu_k, fu_n _ _ _ (by decide), hv48_31_8]
        have hv51_31_3 : v51 31 3 = vi 31 3 := by rw [hv51, xu_k, fu_n _ _ _ (by decide), hv48_31_3]
        have hv51_31_22 : v51 31 22 = vi 31 22 := by rw [hv51, xu_k, fu_n _ _ _ (by decide), hv48_31_22]
        have frv51 : ∀ k : Nat, (¬ k = 31 ∧ ¬ k = 32) → v51 k = vi k := fun k hk => by rw [hv51, xu_c _ _ _ _ (by omega)]; exact frv48 k hk
        refine vx_aload_n hC 3 rfl eX12_factor_172 ?_
        refine vx_callV_i hC (kX12_figures G d _ _ _ _ _ hO h u ac en sp23 1 op L hv51_32 hv51_31_4 hv51_31_5 hv51_31_6 hv51_31_7 hv51_31_8 hac hen (by omega) (by omega) (by omega)) ly_X12_111 (ot_31 hO) rfl rfl rfl hRm (by omega) (Nat.le_of_ble_eq_true rfl) rfl eX12_factor_173 (fun x52 ng53 tg53 ag53 bg53 cg53 hg53 => ?_)
        obtain ⟨hx52, qg53_0, qg53_1, qg53_2, qg53_3, qg53_4, qg53_5, qg53_6, qg53_7, rfl, rfl, rfl, rfl, frg53⟩ := hg53
        have qg53_0b : ag53 32 = pput u ac L := by first | exact qg53_0 | rw [qg53_0, hv51_32] | (rw [qg53_0]; exact hv51_32)
        have qg53_1b : ag53 31 4 = ac := by first | exact qg53_1 | rw [qg53_1, hv51_31_4] | (rw [qg53_1]; exact hv51_31_4)
        have qg53_2b : ag53 31 5 = pNs h 1 sp23 := by first | exact qg53_2 | rw [qg53_2, hv51_31_5] | (rw [qg53_2]; exact hv51_31_5)
        have qg53_3b : ag53 31 6 = en := by first | exact qg53_3 | rw [qg53_3, hv51_31_6] | (rw [qg53_3]; exact hv51_31_6)
        have qg53_4b : ag53 31 7 = pNw h 1 sp23 := by first | exact qg53_4 | rw [qg53_4, hv51_31_7] | (rw [qg53_4]; exact hv51_31_7)
        have qg53_5b : ag53 31 8 = op := by first | exact qg53_5 | rw [qg53_5, hv51_31_8] | (rw [qg53_5]; exact hv51_31_8)
        have qg53_6b : ag53 31 3 = vi 31 3 := by first | exact qg53_6 | rw [qg53_6, hv51_31_3] | (rw [qg53_6]; exact hv51_31_3)
        have qg53_7b : ag53 31 22 = vi 31 22 := by first | exact qg53_7 | rw [qg53_7, hv51_31_22] | (rw [qg53_7]; exact hv51_31_22)
        have frvig53 : ∀ k : Nat, (¬ k = 31 ∧ ¬ k = 32) → ag53 k = vi k := fun k hk => (frg53 k (by omega)).trans (frv51 k hk)
        obtain ⟨sp54, hsp54⟩ : ∃ z : Int, z = pNs h 1 sp23 := ⟨_, rfl⟩
        have esp54 : ag53 31 5 = sp54 := by rw [hsp54]; exact qg53_2b
        obtain ⟨w55, hw55⟩ : ∃ z : Int, z = pNw h 1 sp23 := ⟨_, rfl⟩
        have ew55 : ag53 31 7 = w55 := by rw [hw55]; exact qg53_4b
        have hfsp54 := pN_r (w := 1) hen (sp := sp23) (by omega)
        rw [← hsp54, ← hw55, ← hx52] at hfsp54
        refine vx_istore hC (lv1 := [(4, xa_i x52), (3, xa_i 0), (2, xa_i x21), (1, xa_i x2), (0, xa_r 31)]) (by decide) rfl eX12_factor_176 ?_
        refine vx_aload_n hC 4 rfl eX12_factor_178 ?_
        refine vx_iload_n hC 2 rfl eX12_factor_179 ?_
        refine vx_bipush hC (by decide) eX12_factor_180 ?_
        refine vx_iload_n hC 1 rfl eX12_factor_182 ?_
        refine vx_imul hC eX12_factor_183 ?_
        refine vx_iadd hC eX12_factor_184 ?_
        refine vx_bipush hC (by decide) eX12_factor_185 ?_
        refine vx_iload hC 0 rfl eX12_factor_187 ?_
        refine vx_imul hC eX12_factor_189 ?_
        refine vx_iadd hC eX12_factor_190 ?_
        refine vx_callV_v hC (kX12_emits G d _ _ _ _ _ hO h u ac en sp54 w55 op L qg53_0b qg53_1b esp54 qg53_3b ew55 qg53_5b hac hen (by omega) (by omega) (by omega) (x21 + 8 * 0 + 32 * x52)) ly_X12_97 (ot_31 hO) rfl rfl rfl hRm (by omega) (Nat.le_of_ble_eq_true rfl) rfl eX12_factor_191 (fun ng57 tg57 ag57 bg57 cg57 hg57 => ?_)
        obtain ⟨qg57_0, qg57_1, qg57_2, qg57_3, qg57_4, qg57_5, qg57_6, qg57_7, rfl, rfl, rfl, rfl, frg57⟩ := hg57
        have qg57_0b : ag57 32 = pput u ac (pE w55 L (x21 + 8 * 0 + 32 * x52)) := by first | exact qg57_0 | rw [qg57_0, qg53_0b] | (rw [qg57_0]; exact qg53_0b)
        have qg57_1b : ag57 31 4 = ac := by first | exact qg57_1 | rw [qg57_1, qg53_1b] | (rw [qg57_1]; exact qg53_1b)
        have qg57_2b : ag57 31 5 = sp54 := by first | exact qg57_2 | rw [qg57_2, esp54] | (rw [qg57_2]; exact esp54)
        have qg57_3b : ag57 31 6 = en := by first | exact qg57_3 | rw [qg57_3, qg53_3b] | (rw [qg57_3]; exact qg53_3b)
        have qg57_4b : ag57 31 7 = w55 := by first | exact qg57_4 | rw [qg57_4, ew55] | (rw [qg57_4]; exact ew55)
        have qg57_5b : ag57 31 8 = op := by first | exact qg57_5 | rw [qg57_5, qg53_5b] | (rw [qg57_5]; exact qg53_5b)
        have qg57_6b : ag57 31 3 = vi 31 3 := by first | exact qg57_6 | rw [qg57_6, qg53_6b] | (rw [qg57_6]; exact qg53_6b)
        have qg57_7b : ag57 31 22 = vi 31 22 := by first | exact qg57_7 | rw [qg57_7, qg53_7b] | (rw [qg57_7]; exact qg53_7b)
        have frvig57 : ∀ k : Nat, (¬ k = 31 ∧ ¬ k = 32) → ag57 k = vi k := fun k hk => (frg57 k (by omega)).trans (frvig53 k hk)
        obtain ⟨L58, hL58⟩ : ∃ z : List Int, z = pE w55 L (x21 + 8 * 0 + 32 * x52) := ⟨_, rfl⟩
        have eL58 : ag57 32 = pput u ac L58 := by rw [hL58]; exact qg57_0b
        have hfL58 := pE_len w55 L (x21 + 8 * 0 + 32 * x52)
        rw [← hL58] at hfL58
        have hE0 : pF h (k + 1) sp = pTest h sp := pF_tst (by omega) (by omega)
        have hE := hE0.trans (pTest_1 (by omega))
        exact vx_vret hC hM eX12_factor_194 (⟨rfl, (by rw [hE, eL58]; show pput u ac L58 = pput u ac (L ++ []); rw [List.append_nil]; rw [hfL58.2.2.2 (by omega)]), qg57_1b, (by rw [hE, qg57_2b]; show _ = sp; omega), qg57_3b, (by rw [hE, qg57_4b]; show _ = 1 - (0 : Int); omega), qg57_5b, qg57_6b, qg57_7b, rfl, rfl, rfl, rfl, fun k hk => frvig57 k hk⟩)
    · refine vx_aload_n hC 1 rfl eX12_factor_25 ?_
      refine vx_aload_n hC 1 rfl eX12_factor_26 ?_
      refine vx_gi hC 8 (ot_31 hO) lf_X12_91 rfl eX12_factor_27 ?_
      refine vx_eqi h8 ?_
      refine vx_iconst hC eX12_factor_30 ?_
      refine vx_icmp_ne hC (tgt := 38) (by omega) (by decide) eX12_factor_31 (fun c59 => ?_) (fun c59 => absurd c59 (by omega))
      refine vx_iconst hC eX12_factor_38 ?_
      refine vx_pi hC 7 (ot_31 hO) lp_X12_67 rfl (Or.inl rfl) (Or.inr ⟨rfl, by omega⟩) eX12_factor_39 ?_
      refine vx_vi (fun v60 hv60 => ?_)
      have hv60_32 : v60 32 = pput u ac L := by rw [hv60, xu_c _ _ _ _ (by decide), h32]
      have hv60_31_4 : v60 31 4 = ac := by rw [hv60, xu_k, fu_n _ _ _ (by decide), h4]
      have hv60_31_5 : v60 31 5 = sp := by rw [hv60, xu_k, fu_n _ _ _ (by decide), h5]
      have hv60_31_6 : v60 31 6 = en := by rw [hv60, xu_k, fu_n _ _ _ (by decide), h6]
      have hv60_31_7 : v60 31 7 = 0 := by rw [hv60, xu_k, fu_s]
      have hv60_31_8 : v60 31 8 = op := by rw [hv60, xu_k, fu_n _ _ _ (by decide), h8]
      have hv60_31_3 : v60 31 3 = vi 31 3 := by rw [hv60, xu_k, fu_n _ _ _ (by decide)]
      have hv60_31_22 : v60 31 22 = vi 31 22 := by rw [hv60, xu_k, fu_n _ _ _ (by decide)]
      have frv60 : ∀ k : Nat, (¬ k = 31 ∧ ¬ k = 32) → v60 k = vi k := fun k hk => by rw [hv60, xu_c _ _ _ _ (by omega)]
      refine vx_aload_n hC 1 rfl eX12_factor_42 ?_
      refine vx_dup hC rfl eX12_factor_43 ?_
      refine vx_gi hC 8 (ot_31 hO) lf_X12_91 rfl eX12_factor_44 ?_
      refine vx_eqi hv60_31_8 ?_
      refine vx_iconst hC eX12_factor_47 ?_
      refine vx_iadd hC eX12_factor_48 ?_
      refine vx_pi hC 8 (ot_31 hO) lp_X12_91 rfl (Or.inl rfl) (Or.inl rfl) eX12_factor_49 ?_
      refine vx_vi (fun v61 hv61 => ?_)
      have hv61_32 : v61 32 = pput u ac L := by rw [hv61, xu_c _ _ _ _ (by decide), hv60_32]
      have hv61_31_4 : v61 31 4 = ac := by rw [hv61, xu_k, fu_n _ _ _ (by decide), hv60_31_4]
      have hv61_31_5 : v61 31 5 = sp := by rw [hv61, xu_k, fu_n _ _ _ (by decide), hv60_31_5]
      have hv61_31_6 : v61 31 6 = en := by rw [hv61, xu_k, fu_n _ _ _ (by decide), hv60_31_6]
      have hv61_31_7 : v61 31 7 = 0 := by rw [hv61, xu_k, fu_n _ _ _ (by decide), hv60_31_7]
      have hv61_31_8 : v61 31 8 = (op + 1) := by rw [hv61, xu_k, fu_s]
      have hv61_31_3 : v61 31 3 = vi 31 3 := by rw [hv61, xu_k, fu_n _ _ _ (by decide), hv60_31_3]
      have hv61_31_22 : v61 31 22 = vi 31 22 := by rw [hv61, xu_k, fu_n _ _ _ (by decide), hv60_31_22]
      have frv61 : ∀ k : Nat, (¬ k = 31 ∧ ¬ k = 32) → v61 k = vi k := fun k hk => by rw [hv61, xu_c _ _ _ _ (by omega)]; exact frv60 k hk
      refine vx_aload_n hC 1 rfl eX12_factor_52 ?_
      refine vx_dup hC rfl eX12_factor_53 ?_
      refine vx_gi hC 5 (ot_31 hO) lf_X12_61 rfl eX12_factor_54 ?_
      refine vx_eqi hv61_31_5 ?_
      refine vx_aload_n hC 1 rfl eX12_factor_57 ?_
      refine vx_gi hC 7 (ot_31 hO) lf_X12_67 rfl eX12_factor_58 ?_
      refine vx_eqi hv61_31_7 ?_
      refine vx_if_eq hC (tgt := 68) (by omega) (by decide) eX12_factor_61 (fun c62 => ?_) (fun c62 => absurd c62 (by omega))
      refine vx_iconst hC eX12_factor_68 ?_
      refine vx_iadd hC eX12_factor_69 ?_
      refine vx_pi hC 5 (ot_31 hO) lp_X12_61 rfl (Or.inl rfl) (Or.inl rfl) eX12_factor_70 ?_
      refine vx_vi (fun v63 hv63 => ?_)
      have hv63_32 : v63 32 = pput u ac L := by rw [hv63, xu_c _ _ _ _ (by decide), hv61_32]
      have hv63_31_4 : v63 31 4 = ac := by rw [hv63, xu_k, fu_n _ _ _ (by decide), hv61_31_4]
      have hv63_31_5 : v63 31 5 = (sp + 1) := by rw [hv63, xu_k, fu_s]
      have hv63_31_6 : v63 31 6 = en := by rw [hv63, xu_k, fu_n _ _ _ (by decide), hv61_31_6]
      have hv63_31_7 : v63 31 7 = 0 := by rw [hv63, xu_k, fu_n _ _ _ (by decide), hv61_31_7]
      have hv63_31_8 : v63 31 8 = (op + 1) := by rw [hv63, xu_k, fu_n _ _ _ (by decide), hv61_31_8]
      have hv63_31_3 : v63 31 3 = vi 31 3 := by rw [hv63, xu_k, fu_n _ _ _ (by decide), hv61_31_3]
      have hv63_31_22 : v63 31 22 = vi 31 22 := by rw [hv63, xu_k, fu_n _ _ _ (by decide), hv61_31_22]
      have frv63 : ∀ k : Nat, (¬ k = 31 ∧ ¬ k = 32) → v63 k = vi k := fun k hk => by rw [hv63, xu_c _ _ _ _ (by omega)]; exact frv61 k hk
      refine vx_iload_n hC 0 rfl eX12_factor_73 ?_
      refine vx_bipush hC (by decide) eX12_factor_74 ?_
      refine vx_icmp_ne hC (tgt := 91) (by omega) (by decide) eX12_factor_76 (fun c64 => ?_) (fun c64 => absurd c64 (by omega))
      refine vx_aload_n hC 1 rfl eX12_factor_91 ?_
      refine vx_callV_v hC (hS d _ _ _ _ _ hO (sp + 1) L hv63_32 hv63_31_4 hv63_31_5 hv63_31_6 hv63_31_7 hv63_31_8 (by omega) (by omega)) ly_X12_100 (ot_31 hO) rfl rfl rfl hRm (by omega) (Nat.le_of_ble_eq_true rfl) rfl eX12_factor_92 (fun ng66 tg66 ag66 bg66 cg66 hg66 => ?_)
      obtain ⟨qg66_0, qg66_1, qg66_2, qg66_3, qg66_4, qg66_5, qg66_6, qg66_7, rfl, rfl, rfl, rfl, frg66⟩ := hg66
      have qg66_0b : ag66 32 = pput u ac (L ++ (pEx (pF h k) h (sp + 1)).2.2) := by first | exact qg66_0 | rw [qg66_0, hv63_32] | (rw [qg66_0]; exact hv63_32)
      have qg66_1b : ag66 31 4 = ac := by first | exact qg66_1 | rw [qg66_1, hv63_31_4] | (rw [qg66_1]; exact hv63_31_4)
      have qg66_2b : ag66 31 5 = (pEx (pF h k) h (sp + 1)).2.1 := by first | exact qg66_2 | rw [qg66_2, hv63_31_5] | (rw [qg66_2]; exact hv63_31_5)
      have qg66_3b : ag66 31 6 = en := by first | exact qg66_3 | rw [qg66_3, hv63_31_6] | (rw [qg66_3]; exact hv63_31_6)
      have qg66_4b : ag66 31 7 = 1 - (pEx (pF h k) h (sp + 1)).1 := by first | exact qg66_4 | rw [qg66_4, hv63_31_7] | (rw [qg66_4]; exact hv63_31_7)
      have qg66_5b : ag66 31 8 = (op + 1) := by first | exact qg66_5 | rw [qg66_5, hv63_31_8] | (rw [qg66_5]; exact hv63_31_8)
      have qg66_6b : ag66 31 3 = vi 31 3 := by first | exact qg66_6 | rw [qg66_6, hv63_31_3] | (rw [qg66_6]; exact hv63_31_3)
      have qg66_7b : ag66 31 22 = vi 31 22 := by first | exact qg66_7 | rw [qg66_7, hv63_31_22] | (rw [qg66_7]; exact hv63_31_22)
      have frvig66 : ∀ k : Nat, (¬ k = 31 ∧ ¬ k = 32) → ag66 k = vi k := fun k hk => (frg66 k (by omega)).trans (frv63 k hk)
      obtain ⟨sp67, hsp67⟩ : ∃ z : Int, z = (pEx (pF h k) h (sp + 1)).2.1 := ⟨_, rfl⟩
      have esp67 : ag66 31 5 = sp67 := by rw [hsp67]; exact qg66_2b
      obtain ⟨w68, hw68⟩ : ∃ z : Int, z = 1 - (pEx (pF h k) h (sp + 1)).1 := ⟨_, rfl⟩
      have ew68 : ag66 31 7 = w68 := by rw [hw68]; exact qg66_4b
      obtain ⟨L69, hL69⟩ : ∃ z : List Int, z = L ++ (pEx (pF h k) h (sp + 1)).2.2 := ⟨_, rfl⟩
      have eL69 : ag66 32 = pput u ac L69 := by rw [hL69]; exact qg66_0b
      have hosp67 := (pEx_ok hen (pF_ok hen k)) (sp + 1) (by omega)
      have hlL69 : (L69.length : Int) = (L.length : Int) + ((pEx (pF h k) h (sp + 1)).2.2.length : Int) := by rw [hL69, List.length_append]; omega
      obtain ⟨o1sp67, o2sp67, o3sp67, o4sp67, o5sp67⟩ := hosp67
      refine vx_aload_n hC 1 rfl eX12_factor_95 ?_
      refine vx_bipush hC (by decide) eX12_factor_96 ?_
      refine vx_callV_v hC (kX12_must G d _ _ _ _ _ hO h u ac en sp67 w68 (op + 1) L69 eL69 qg66_1b esp67 qg66_3b ew68 qg66_5b hac hen (by omega) (by omega) (by omega) 41 (by omega)) ly_X12_84 (ot_31 hO) rfl rfl rfl hRm (by omega) (Nat.le_of_ble_eq_true rfl) rfl eX12_factor_98 (fun ng71 tg71 ag71 bg71 cg71 hg71 => ?_)
      obtain ⟨qg71_0, qg71_1, qg71_2, qg71_3, qg71_4, qg71_5, qg71_6, qg71_7, rfl, rfl, rfl, rfl, frg71⟩ := hg71
      have qg71_0b : ag71 32 = pput u ac L69 := by first | exact qg71_0 | rw [qg71_0, eL69] | (rw [qg71_0]; exact eL69)
      have qg71_1b : ag71 31 4 = ac := by first | exact qg71_1 | rw [qg71_1, qg66_1b] | (rw [qg71_1]; exact qg66_1b)
      have qg71_2b : ag71 31 5 = pMs h 41 w68 sp67 := by first | exact qg71_2 | rw [qg71_2, esp67] | (rw [qg71_2]; exact esp67)
      have qg71_3b : ag71 31 6 = en := by first | exact qg71_3 | rw [qg71_3, qg66_3b] | (rw [qg71_3]; exact qg66_3b)
      have qg71_4b : ag71 31 7 = pMw h 41 w68 sp67 := by first | exact qg71_4 | rw [qg71_4, ew68] | (rw [qg71_4]; exact ew68)
      have qg71_5b : ag71 31 8 = (op + 1) := by first | exact qg71_5 | rw [qg71_5, qg66_5b] | (rw [qg71_5]; exact qg66_5b)
      have qg71_6b : ag71 31 3 = vi 31 3 := by first | exact qg71_6 | rw [qg71_6, qg66_6b] | (rw [qg71_6]; exact qg66_6b)
      have qg71_7b : ag71 31 22 = vi 31 22 := by first | exact qg71_7 | rw [qg71_7, qg66_7b] | (rw [qg71_7]; exact qg66_7b)
      have frvig71 : ∀ k : Nat, (¬ k = 31 ∧ ¬ k = 32) → ag71 k = vi k := fun k hk => (frg71 k (by omega)).trans (frvig66 k hk)
      obtain ⟨sp72, hsp72⟩ : ∃ z : Int, z = pMs h 41 w68 sp67 := ⟨_, rfl⟩
      have esp72 : ag71 31 5 = sp72 := by rw [hsp72]; exact qg71_2b
      obtain ⟨w73, hw73⟩ : ∃ z : Int, z = pMw h 41 w68 sp67 := ⟨_, rfl⟩
      have ew73 : ag71 31 7 = w73 := by rw [hw73]; exact qg71_4b
      have hfsp72 := pM_r (c := 41) (w := w68) hen (by omega) (sp := sp67) (by omega)
      rw [← hsp72, ← hw73] at hfsp72
      refine vx_aload_n hC 1 rfl eX12_factor_101 ?_
      refine vx_dup hC rfl eX12_factor_102 ?_
      refine vx_gi hC 8 (ot_31 hO) lf_X12_91 rfl eX12_factor_103 ?_
      refine vx_eqi qg71_5b ?_
      refine vx_iconst hC eX12_factor_106 ?_
      refine vx_isub hC eX12_factor_107 ?_
      refine vx_top (fun x74 hx74 => ?_)
      refine vx_pi hC 8 (ot_31 hO) lp_X12_91 rfl (Or.inl rfl) (Or.inl rfl) eX12_factor_108 ?_
      refine vx_vi (fun v75 hv75 => ?_)
      have hv75_32 : v75 32 = pput u ac L69 := by rw [hv75, xu_c _ _ _ _ (by decide), qg71_0b]
      have hv75_31_4 : v75 31 4 = ac := by rw [hv75, xu_k, fu_n _ _ _ (by decide), qg71_1b]
      have hv75_31_5 : v75 31 5 = sp72 := by rw [hv75, xu_k, fu_n _ _ _ (by decide), esp72]
      have hv75_31_6 : v75 31 6 = en := by rw [hv75, xu_k, fu_n _ _ _ (by decide), qg71_3b]
      have hv75_31_7 : v75 31 7 = w73 := by rw [hv75, xu_k, fu_n _ _ _ (by decide), ew73]
      have hv75_31_8 : v75 31 8 = x74 := by rw [hv75, xu_k, fu_s]
      have hv75_31_3 : v75 31 3 = vi 31 3 := by rw [hv75, xu_k, fu_n _ _ _ (by decide), qg71_6b]
      have hv75_31_22 : v75 31 22 = vi 31 22 := by rw [hv75, xu_k, fu_n _ _ _ (by decide), qg71_7b]
      have frv75 : ∀ k : Nat, (¬ k = 31 ∧ ¬ k = 32) → v75 k = vi k := fun k hk => by rw [hv75, xu_c _ _ _ _ (by omega)]; exact frvig71 k hk
      have hE := pF_par (h := h) (k := k) (sp := sp) (by omega) o1sp67
      exact vx_vret hC hM eX12_factor_111 (⟨rfl, (by rw [hE, hv75_32, hL69]), hv75_31_4, (by rw [hE, hv75_31_5, hsp72, hw68, hsp67]), hv75_31_6, (by rw [hE, hv75_31_7]; show _ = 1 - (1 - pMw h 41 (1 - (pEx (pF h k) h (sp + 1)).1) (pEx (pF h k) h (sp + 1)).2.1); rw [hw73, hw68, hsp67]; omega), (by rw [hv75_31_8]; omega), hv75_31_3, hv75_31_22, rfl, rfl, rfl, rfl, fun k hk => frv75 k hk⟩)
theorem kX12_factorN (G : xg_T) (h u : Int → Int) (ac en : Int) (hac : 0 ≤ ac ∧ ac ≤ 4) (hen : pH h u en) : ∀ (k : Nat), k ≤ 5 → FC G yX12_factor cX12_factor 5 (6 + 3 * k) h u ac en (5 - (k : Int)) (pF h k) ∧ FC G yX12_some cX12_some 1 (6 + 3 * k + 2) h u ac en (5 - (k : Int)) (pEx (pF h k) h)
  | 0, _ => by
    have h0 := kX12_factor0 G h u ac en hac hen
    rw [show (5 : Int) - ((0 : Nat) : Int) = 5 by decide, show 6 + 3 * 0 = 6 by decide]
    exact ⟨h0, kX12_someS G h u ac en hac hen 5 7 2 (by decide) (pTm (pF h 0) h) (pSeq_ok hen (by omega) (Or.inl rfl) (pF_ok hen 0)) (kX12_everyS G h u ac en hac hen 5 6 1 (by decide) (pF h 0) (pF_ok hen 0) h0)⟩
  | k + 1, hk => by
    obtain ⟨hF, hS⟩ := kX12_factorN G h u ac en hac hen k (by omega)
    have e : (5 - (k : Int)) = 5 - ((k + 1 : Nat) : Int) + 1 := by omega
    rw [e] at hF hS
    have h1 := kX12_factorS G h u ac en hac hen (5 - ((k + 1 : Nat) : Int)) k (6 + 3 * k) (by omega) (by omega) hF hS
    rw [show 6 + 3 * (k + 1) = 6 + 3 * k + 3 by omega]
    exact ⟨h1, kX12_someS G h u ac en hac hen _ (6 + 3 * k + 3 + 1) (2 * (k + 1) + 1 + 1) (by omega) (pTm (pF h (k + 1)) h) (pSeq_ok hen (by omega) (Or.inl rfl) (pF_ok hen (k + 1))) (kX12_everyS G h u ac en hac hen _ (6 + 3 * k + 3) (2 * (k + 1) + 1) (by omega) (pF h (k + 1)) (pF_ok hen (k + 1)) h1)⟩
