def FR (G : xg_T) (y : MethodName) (cc : ByteArray) (nL ky : Nat) (h : Int → Int) (en op : Int) (P : Int → pr_T) : Prop := ∀ (d n : Nat) (tau : Nat → Nat × Nat) (vi vl : Nat → Int → Int) (vr : Nat → Int → Option Nat), xo n tau vr → ∀ (sp : Int) (L : List Int), vi 26 2 = sp → vi 26 1 = en → vr 26 0 = some 2 → (∀ z, 0 ≤ z → z < en → vi 2 z = h z ∧ 0 ≤ h z) → (0 ≤ sp ∧ sp ≤ en) → vi 26 7 = (L.length : Int) → cdR (vi 29) L → (L.length : Int) ≤ sp → xm G y cc nL (some .boolean) (d + ky) 0 0 [xa_r 26, xa_i op] n tau vi vl vr (xp_i (fun z9 n1 t1 a1 b1 c1 => (z9 = (P sp).1) ∧ (a1 26 7 = ((L ++ (P sp).2.2).length : Int)) ∧ (cdR (a1 29) (L ++ (P sp).2.2)) ∧ (a1 26 2 = (P sp).2.1) ∧ (a1 26 1 = en) ∧ (a1 26 5 = vi 26 5) ∧ (a1 26 8 = vi 26 8) ∧ xs_I (fun k => ¬ k = 26 ∧ ¬ k = 29) n tau vi vl vr n1 t1 a1 b1 c1))
set_option maxHeartbeats 4000000 in
set_option maxRecDepth 100000 in
theorem kX5_single0 (G : xg_T) (h u : Int → Int) (en : Int) (hen : pH h u en)  : FR G yX5_readSingle cX5_readSingle 2 (8) h en 5 (pF h 0) := by
  unfold FR
  intro d n tau vi vl vr hO sp L h2 h1 hr0 htp hsp h7 hcd hL
  refine xm.of (lv := [(0, xa_r 26), (1, xa_i 5)]) (by decide) (Nat.le_of_ble_eq_true rfl) rfl (fun K hC hM hRm => ?_)
  have he := hen.1
  have hh := hen.2
  have hhs := hh sp
  refine vx_iload_n hC 1 rfl eX5_readSingle_0 ?_
  refine vx_iconst hC eX5_readSingle_1 ?_
  refine vx_icmp_lt hC (tgt := 10) (by omega) (by decide) eX5_readSingle_2 (fun c1 => absurd c1 (by omega)) (fun c1 => ?_)
  refine vx_aload_n hC 0 rfl eX5_readSingle_5 ?_
  refine vx_callV_i hC (kX5_readTest G d _ _ _ _ _ hO h u en sp h2 h1 hr0 hen htp (by omega) L h7 hcd (by omega)) ly_X5_116 (ot_26 hO) rfl rfl rfl hRm (by omega) (Nat.le_of_ble_eq_true rfl) rfl eX5_readSingle_6 (fun x2 ng3 tg3 ag3 bg3 cg3 hg3 => ?_)
  obtain ⟨hx2, qg3_0, qg3_1, qg3_2, qg3_3, qg3_4, qg3_5, rfl, rfl, rfl, rfl, frg3⟩ := hg3
  have qg3_2b : ag3 26 2 = (pTest h sp).2.1 := by first | exact qg3_2 | rw [qg3_2, h2] | (rw [qg3_2]; exact h2)
  have qg3_3b : ag3 26 1 = en := by first | exact qg3_3 | rw [qg3_3, h1] | (rw [qg3_3]; exact h1)
  have qg3_0b : ag3 26 7 = ((L ++ (pTest h sp).2.2).length : Int) := by first | exact qg3_0 | rw [qg3_0, h7] | (rw [qg3_0]; exact h7)
  have frvig3 : ∀ k : Nat, (¬ k = 26 ∧ ¬ k = 29) → ag3 k = vi k := fun k hk => (frg3 k (by omega))
  obtain ⟨L4, hL4⟩ : ∃ z : List Int, z = L ++ (pTest h sp).2.2 := ⟨_, rfl⟩
  have lL4 : ag3 26 7 = (L4.length : Int) := by rw [hL4]; exact qg3_0b
  have cL4 : cdR (ag3 29) L4 := by rw [hL4]; exact qg3_1
  obtain ⟨sp5, hsp5⟩ : ∃ z : Int, z = (pTest h sp).2.1 := ⟨_, rfl⟩
  have esp5 : ag3 26 2 = sp5 := by rw [hsp5]; exact qg3_2b
  have hosp5 := pTest_ok hen (sp := sp) (by omega)
  have hzx2 : x2 = 0 ∨ x2 = 1 := by rw [hx2]; exact hosp5.1
  have hE : pF h 0 sp = pTest h sp := rfl
  have hLf : L4 = L ++ (pTest h sp).2.2 := hL4
  exact vx_iret hC hM (by first | decide | exact xn_bz (by omega)) eX5_readSingle_9 (⟨_, rfl, (by rw [hE]; exact hx2), (by rw [hE]; show _ = ((L ++ (pTest h sp).2.2).length : Int); rw [← hLf]; exact lL4), (by rw [hE]; show cdR _ (L ++ (pTest h sp).2.2); rw [← hLf]; exact cL4), (by rw [hE]; exact (by show _ = (pTest h sp).2.1; rw [esp5]; exact hsp5)), qg3_3b, qg3_4, qg3_5, rfl, rfl, rfl, rfl, fun k hk => frvig3 k (by omega)⟩)
set_option maxHeartbeats 4000000 in
set_option maxRecDepth 100000 in
theorem kX5_singleS (G : xg_T) (h u : Int → Int) (en : Int) (hen : pH h u en) (op : Int) (k ky : Nat) (hop : 0 ≤ op ∧ op ≤ 4) (hky : 8 ≤ ky) (hF : FR G yX5_readSingle cX5_readSingle 2 (ky) h en (op + 1) (pF h k)) (hS : FR G yX5_readEither cX5_readEither 4 (ky + 1) h en (op + 1) (pEx (pF h k) h)) : FR G yX5_readSingle cX5_readSingle 2 (ky + 2) h en op (pF h (k + 1)) := by
  unfold FR
  intro d n tau vi vl vr hO sp L h2 h1 hr0 htp hsp h7 hcd hL
  refine xm.of (lv := [(0, xa_r 26), (1, xa_i op)]) (by decide) (Nat.le_of_ble_eq_true rfl) rfl (fun K hC hM hRm => ?_)
  have he := hen.1
  have hh := hen.2
  have hhs := hh sp
  refine vx_iload_n hC 1 rfl eX5_readSingle_0 ?_
  refine vx_iconst hC eX5_readSingle_1 ?_
  refine vx_icmp_lt hC (tgt := 10) (by omega) (by decide) eX5_readSingle_2 (fun c1 => ?_) (fun c1 => absurd c1 (by omega))
  refine vx_aload_n hC 0 rfl eX5_readSingle_10 ?_
  refine vx_bipush hC (by decide) eX5_readSingle_11 ?_
  refine vx_callV_i hC (kX5_take G d _ _ _ _ _ hO h u en sp h2 h1 hr0 hen htp (by omega) 33 (by omega)) ly_X5_51 (ot_26 hO) rfl rfl rfl hRm (by omega) (Nat.le_of_ble_eq_true rfl) rfl eX5_readSingle_13 (fun x2 ng3 tg3 ag3 bg3 cg3 hg3 => ?_)
  obtain ⟨hx2, qg3_0, qg3_1, qg3_2, qg3_3, qg3_4, rfl, rfl, rfl, rfl, frg3⟩ := hg3
  have qg3_0b : ag3 26 2 = sp + x2 := by first | exact qg3_0 | rw [qg3_0, h2] | (rw [qg3_0]; exact h2)
  have qg3_1b : ag3 26 1 = en := by first | exact qg3_1 | rw [qg3_1, h1] | (rw [qg3_1]; exact h1)
  have qg3_3b : ag3 26 7 = (L.length : Int) := by first | exact qg3_3 | rw [qg3_3, h7] | (rw [qg3_3]; exact h7)
  have frvig3 : ∀ k : Nat, (¬ k = 26 ∧ ¬ k = 29) → ag3 k = vi k := fun k hk => (frg3 k (by omega))
  obtain ⟨sp4, hsp4⟩ : ∃ z : Int, z = sp + x2 := ⟨_, rfl⟩
  have esp4 : ag3 26 2 = sp4 := by rw [hsp4]; exact qg3_0b
  have hbsp4 := hh sp
  have cd5 : cdR (ag3 29) L := by rw [frg3 29 (by omega)]; exact hcd
  refine vx_if_eq hC (tgt := 38) (by omega) (by decide) eX5_readSingle_16 (fun c6 => ?_) (fun c6 => ?_)
  · have es7 : ag3 26 2 = sp := by rw [esp4]; omega
    refine vx_aload_n hC 0 rfl eX5_readSingle_38 ?_
    refine vx_bipush hC (by decide) eX5_readSingle_39 ?_
    refine vx_callV_i hC (kX5_take G d _ _ _ _ _ hO h u en sp es7 qg3_1b hr0 hen (fun z z1 z2 => by rw [frvig3 2 (by omega)]; exact htp z z1 z2) (by omega) 40 (by omega)) ly_X5_51 (ot_26 hO) rfl rfl rfl hRm (by omega) (Nat.le_of_ble_eq_true rfl) rfl eX5_readSingle_41 (fun x8 ng9 tg9 ag9 bg9 cg9 hg9 => ?_)
    obtain ⟨hx8, qg9_0, qg9_1, qg9_2, qg9_3, qg9_4, rfl, rfl, rfl, rfl, frg9⟩ := hg9
    have qg9_0b : ag9 26 2 = sp + x8 := by first | exact qg9_0 | rw [qg9_0, es7] | (rw [qg9_0]; exact es7)
    have qg9_1b : ag9 26 1 = en := by first | exact qg9_1 | rw [qg9_1, qg3_1b] | (rw [qg9_1]; exact qg3_1b)
    have qg9_2b : ag9 26 5 = vi 26 5 := by first | exact qg9_2 | rw [qg9_2, qg3_2] | (rw [qg9_2]; exact qg3_2)
    have qg9_3b : ag9 26 7 = (L.length : Int) := by first | exact qg9_3 | rw [qg9_3, qg3_3b] | (rw [qg9_3]; exact qg3_3b)
    have qg9_4b : ag9 26 8 = vi 26 8 := by first | exact qg9_4 | rw [qg9_4, qg3_4] | (rw [qg9_4]; exact qg3_4)
    have frvig9 : ∀ k : Nat, (¬ k = 26 ∧ ¬ k = 29) → ag9 k = vi k := fun k hk => (frg9 k (by omega)).trans (frvig3 k hk)
    obtain ⟨sp10, hsp10⟩ : ∃ z : Int, z = sp + x8 := ⟨_, rfl⟩
    have esp10 : ag9 26 2 = sp10 := by rw [hsp10]; exact qg9_0b
    have hbsp10 := hh sp
    have cd11 : cdR (ag9 29) L := by rw [frg9 29 (by omega)]; exact cd5
    refine vx_if_eq hC (tgt := 72) (by omega) (by decide) eX5_readSingle_44 (fun c12 => ?_) (fun c12 => ?_)
    · have es13 : ag9 26 2 = sp := by rw [esp10]; omega
      refine vx_aload_n hC 0 rfl eX5_readSingle_72 ?_
      refine vx_callV_i hC (kX5_readTest G d _ _ _ _ _ hO h u en sp es13 qg9_1b hr0 hen (fun z z1 z2 => by rw [frvig9 2 (by omega)]; exact htp z z1 z2) (by omega) L qg9_3b cd11 (by omega)) ly_X5_116 (ot_26 hO) rfl rfl rfl hRm (by omega) (Nat.le_of_ble_eq_true rfl) rfl eX5_readSingle_73 (fun x14 ng15 tg15 ag15 bg15 cg15 hg15 => ?_)
      obtain ⟨hx14, qg15_0, qg15_1, qg15_2, qg15_3, qg15_4, qg15_5, rfl, rfl, rfl, rfl, frg15⟩ := hg15
      have qg15_2b : ag15 26 2 = (pTest h sp).2.1 := by first | exact qg15_2 | rw [qg15_2, es13] | (rw [qg15_2]; exact es13)
      have qg15_3b : ag15 26 1 = en := by first | exact qg15_3 | rw [qg15_3, qg9_1b] | (rw [qg15_3]; exact qg9_1b)
      have qg15_4b : ag15 26 5 = vi 26 5 := by first | exact qg15_4 | rw [qg15_4, qg9_2b] | (rw [qg15_4]; exact qg9_2b)
      have qg15_0b : ag15 26 7 = ((L ++ (pTest h sp).2.2).length : Int) := by first | exact qg15_0 | rw [qg15_0, qg9_3b] | (rw [qg15_0]; exact qg9_3b)
      have qg15_5b : ag15 26 8 = vi 26 8 := by first | exact qg15_5 | rw [qg15_5, qg9_4b] | (rw [qg15_5]; exact qg9_4b)
      have frvig15 : ∀ k : Nat, (¬ k = 26 ∧ ¬ k = 29) → ag15 k = vi k := fun k hk => (frg15 k (by omega)).trans (frvig9 k hk)
      obtain ⟨L16, hL16⟩ : ∃ z : List Int, z = L ++ (pTest h sp).2.2 := ⟨_, rfl⟩
      have lL16 : ag15 26 7 = (L16.length : Int) := by rw [hL16]; exact qg15_0b
      have cL16 : cdR (ag15 29) L16 := by rw [hL16]; exact qg15_1
      obtain ⟨sp17, hsp17⟩ : ∃ z : Int, z = (pTest h sp).2.1 := ⟨_, rfl⟩
      have esp17 : ag15 26 2 = sp17 := by rw [hsp17]; exact qg15_2b
      have hosp17 := pTest_ok hen (sp := sp) (by omega)
      have hzx14 : x14 = 0 ∨ x14 = 1 := by rw [hx14]; exact hosp17.1
      have hE : pF h (k + 1) sp = pTest h sp := pF_tst (by omega) (by omega)
      have hLf : L16 = L ++ (pTest h sp).2.2 := hL16
      exact vx_iret hC hM (by first | decide | exact xn_bz (by omega)) eX5_readSingle_76 (⟨_, rfl, (by rw [hE]; exact hx14), (by rw [hE]; show _ = ((L ++ (pTest h sp).2.2).length : Int); rw [← hLf]; exact lL16), (by rw [hE]; show cdR _ (L ++ (pTest h sp).2.2); rw [← hLf]; exact cL16), (by rw [hE]; exact (by show _ = (pTest h sp).2.1; rw [esp17]; exact hsp17)), qg15_3b, qg15_4b, qg15_5b, rfl, rfl, rfl, rfl, fun k hk => frvig15 k (by omega)⟩)
    · have es18 : ag9 26 2 = (sp + 1) := by rw [esp10]; omega
      refine vx_aload_n hC 0 rfl eX5_readSingle_47 ?_
      refine vx_iload_n hC 1 rfl eX5_readSingle_48 ?_
      refine vx_iconst hC eX5_readSingle_49 ?_
      refine vx_iadd hC eX5_readSingle_50 ?_
      refine vx_callV_i hC (hS d _ _ _ _ _ hO (sp + 1) L es18 qg9_1b hr0 (fun z z1 z2 => by rw [frvig9 2 (by omega)]; exact htp z z1 z2) (by omega) qg9_3b cd11 (by omega)) ly_X5_95 (ot_26 hO) rfl rfl rfl hRm (by omega) (Nat.le_of_ble_eq_true rfl) rfl eX5_readSingle_51 (fun x19 ng20 tg20 ag20 bg20 cg20 hg20 => ?_)
      obtain ⟨hx19, qg20_0, qg20_1, qg20_2, qg20_3, qg20_4, qg20_5, rfl, rfl, rfl, rfl, frg20⟩ := hg20
      have qg20_2b : ag20 26 2 = (pEx (pF h k) h (sp + 1)).2.1 := by first | exact qg20_2 | rw [qg20_2, es18] | (rw [qg20_2]; exact es18)
      have qg20_3b : ag20 26 1 = en := by first | exact qg20_3 | rw [qg20_3, qg9_1b] | (rw [qg20_3]; exact qg9_1b)
      have qg20_4b : ag20 26 5 = vi 26 5 := by first | exact qg20_4 | rw [qg20_4, qg9_2b] | (rw [qg20_4]; exact qg9_2b)
      have qg20_0b : ag20 26 7 = ((L ++ (pEx (pF h k) h (sp + 1)).2.2).length : Int) := by first | exact qg20_0 | rw [qg20_0, qg9_3b] | (rw [qg20_0]; exact qg9_3b)
      have qg20_5b : ag20 26 8 = vi 26 8 := by first | exact qg20_5 | rw [qg20_5, qg9_4b] | (rw [qg20_5]; exact qg9_4b)
      have frvig20 : ∀ k : Nat, (¬ k = 26 ∧ ¬ k = 29) → ag20 k = vi k := fun k hk => (frg20 k (by omega)).trans (frvig9 k hk)
      obtain ⟨L21, hL21⟩ : ∃ z : List Int, z = L ++ (pEx (pF h k) h (sp + 1)).2.2 := ⟨_, rfl⟩
      have lL21 : ag20 26 7 = (L21.length : Int) := by rw [hL21]; exact qg20_0b
      have cL21 : cdR (ag20 29) L21 := by rw [hL21]; exact qg20_1
      obtain ⟨sp22, hsp22⟩ : ∃ z : Int, z = (pEx (pF h k) h (sp + 1)).2.1 := ⟨_, rfl⟩
      have esp22 : ag20 26 2 = sp22 := by rw [hsp22]; exact qg20_2b
      obtain ⟨o1sp22, o2sp22, o3sp22, o4sp22, o5sp22⟩ := (pEx_ok hen (pF_ok hen k)) (sp + 1) (by omega)
      have nL21 : (L21.length : Int) = (L.length : Int) + ((pEx (pF h k) h (sp + 1)).2.2.length : Int) := by rw [hL21, List.length_append]; omega
      refine vx_if_eq hC (tgt := 70) (by omega) (by decide) eX5_readSingle_54 (fun c23 => ?_) (fun c23 => ?_)
      · refine vx_iconst hC eX5_readSingle_70 ?_
        have hE := pF_par (h := h) (k := k) (sp := sp) (by omega) o1sp22
        have hLf : L21 = L ++ (pEx (pF h k) h (sp + 1)).2.2 := hL21
        have hM1 : pMw h 41 (1 - (pEx (pF h k) h (sp + 1)).1) (pEx (pF h k) h (sp + 1)).2.1 = 1 - 0 ∧ pMs h 41 (1 - (pEx (pF h k) h (sp + 1)).1) (pEx (pF h k) h (sp + 1)).2.1 = sp22 := by rw [← hsp22]; unfold pMw pMs; first | (rw [if_pos (by omega), if_pos (by omega)]; omega) | (rw [if_neg (by omega), if_neg (by omega)]; omega)
        rw [hM1.1, hM1.2] at hE
        exact vx_iret hC hM (by first | decide | exact xn_bz (by omega)) eX5_readSingle_71 (⟨_, rfl, (by rw [hE]; show _ = 1 - (1 - _); omega), (by rw [hE]; show _ = ((L ++ (pEx (pF h k) h (sp + 1)).2.2).length : Int); rw [← hLf]; exact lL21), (by rw [hE]; show cdR _ (L ++ (pEx (pF h k) h (sp + 1)).2.2); rw [← hLf]; exact cL21), (by rw [hE]; exact esp22), qg20_3b, qg20_4b, qg20_5b, rfl, rfl, rfl, rfl, fun k hk => frvig20 k (by omega)⟩)
      · refine vx_aload_n hC 0 rfl eX5_readSingle_57 ?_
        refine vx_bipush hC (by decide) eX5_readSingle_58 ?_
        refine vx_callV_i hC (kX5_take G d _ _ _ _ _ hO h u en sp22 esp22 qg20_3b hr0 hen (fun z z1 z2 => by rw [frvig20 2 (by omega)]; exact htp z z1 z2) (by omega) 41 (by omega)) ly_X5_51 (ot_26 hO) rfl rfl rfl hRm (by omega) (Nat.le_of_ble_eq_true rfl) rfl eX5_readSingle_60 (fun x24 ng25 tg25 ag25 bg25 cg25 hg25 => ?_)
        obtain ⟨hx24, qg25_0, qg25_1, qg25_2, qg25_3, qg25_4, rfl, rfl, rfl, rfl, frg25⟩ := hg25
        have qg25_0b : ag25 26 2 = sp22 + x24 := by first | exact qg25_0 | rw [qg25_0, esp22] | (rw [qg25_0]; exact esp22)
        have qg25_1b : ag25 26 1 = en := by first | exact qg25_1 | rw [qg25_1, qg20_3b] | (rw [qg25_1]; exact qg20_3b)
        have qg25_2b : ag25 26 5 = vi 26 5 := by first | exact qg25_2 | rw [qg25_2, qg20_4b] | (rw [qg25_2]; exact qg20_4b)
        have qg25_3b : ag25 26 7 = (L21.length : Int) := by first | exact qg25_3 | rw [qg25_3, lL21] | (rw [qg25_3]; exact lL21)
        have qg25_4b : ag25 26 8 = vi 26 8 := by first | exact qg25_4 | rw [qg25_4, qg20_5b] | (rw [qg25_4]; exact qg20_5b)
        have frvig25 : ∀ k : Nat, (¬ k = 26 ∧ ¬ k = 29) → ag25 k = vi k := fun k hk => (frg25 k (by omega)).trans (frvig20 k hk)
        obtain ⟨sp26, hsp26⟩ : ∃ z : Int, z = sp22 + x24 := ⟨_, rfl⟩
        have esp26 : ag25 26 2 = sp26 := by rw [hsp26]; exact qg25_0b
        have hbsp26 := hh sp22
        have cd27 : cdR (ag25 29) L21 := by rw [frg25 29 (by omega)]; exact cL21
        refine vx_if_eq hC (tgt := 70) (by omega) (by decide) eX5_readSingle_63 (fun c28 => ?_) (fun c28 => ?_)
        · refine vx_iconst hC eX5_readSingle_70 ?_
          have hE := pF_par (h := h) (k := k) (sp := sp) (by omega) o1sp22
          have hLf : L21 = L ++ (pEx (pF h k) h (sp + 1)).2.2 := hL21
          have hM1 : pMw h 41 (1 - (pEx (pF h k) h (sp + 1)).1) (pEx (pF h k) h (sp + 1)).2.1 = 1 - 0 ∧ pMs h 41 (1 - (pEx (pF h k) h (sp + 1)).1) (pEx (pF h k) h (sp + 1)).2.1 = sp26 := by rw [← hsp22]; unfold pMw pMs; first | (rw [if_pos (by omega), if_pos (by omega)]; omega) | (rw [if_neg (by omega), if_neg (by omega)]; omega)
          rw [hM1.1, hM1.2] at hE
          exact vx_iret hC hM (by first | decide | exact xn_bz (by omega)) eX5_readSingle_71 (⟨_, rfl, (by rw [hE]; show _ = 1 - (1 - _); omega), (by rw [hE]; show _ = ((L ++ (pEx (pF h k) h (sp + 1)).2.2).length : Int); rw [← hLf]; exact qg25_3b), (by rw [hE]; show cdR _ (L ++ (pEx (pF h k) h (sp + 1)).2.2); rw [← hLf]; exact cd27), (by rw [hE]; exact esp26), qg25_1b, qg25_2b, qg25_4b, rfl, rfl, rfl, rfl, fun k hk => frvig25 k (by omega)⟩)
        · refine vx_iconst hC eX5_readSingle_66 ?_
          refine vx_goto hC (tgt := 71) (by decide) eX5_readSingle_67 ?_
          have hE := pF_par (h := h) (k := k) (sp := sp) (by omega) o1sp22
          have hLf : L21 = L ++ (pEx (pF h k) h (sp + 1)).2.2 := hL21
          have hM1 : pMw h 41 (1 - (pEx (pF h k) h (sp + 1)).1) (pEx (pF h k) h (sp + 1)).2.1 = 1 - 1 ∧ pMs h 41 (1 - (pEx (pF h k) h (sp + 1)).1) (pEx (pF h k) h (sp + 1)).2.1 = sp26 := by rw [← hsp22]; unfold pMw pMs; first | (rw [if_pos (by omega), if_pos (by omega)]; omega) | (rw [if_neg (by omega), if_neg (by omega)]; omega)
          rw [hM1.1, hM1.2] at hE
          exact vx_iret hC hM (by first | decide | exact xn_bz (by omega)) eX5_readSingle_71 (⟨_, rfl, (by rw [hE]; show _ = 1 - (1 - _); omega), (by rw [hE]; show _ = ((L ++ (pEx (pF h k) h (sp + 1)).2.2).length : Int); rw [← hLf]; exact qg25_3b), (by rw [hE]; show cdR _ (L ++ (pEx (pF h k) h (sp + 1)).2.2); rw [← hLf]; exact cd27), (by rw [hE]; exact esp26), qg25_1b, qg25_2b, qg25_4b, rfl, rfl, rfl, rfl, fun k hk => frvig25 k (by omega)⟩)
  · have es29 : ag3 26 2 = (sp + 1) := by rw [esp4]; omega
    refine vx_aload_n hC 0 rfl eX5_readSingle_19 ?_
    refine vx_iload_n hC 1 rfl eX5_readSingle_20 ?_
    refine vx_iconst hC eX5_readSingle_21 ?_
    refine vx_iadd hC eX5_readSingle_22 ?_
    refine vx_callV_i hC (hF d _ _ _ _ _ hO (sp + 1) L es29 qg3_1b hr0 (fun z z1 z2 => by rw [frvig3 2 (by omega)]; exact htp z z1 z2) (by omega) qg3_3b cd5 (by omega)) ly_X5_109 (ot_26 hO) rfl rfl rfl hRm (by omega) (Nat.le_of_ble_eq_true rfl) rfl eX5_readSingle_23 (fun x30 ng31 tg31 ag31 bg31 cg31 hg31 => ?_)
    obtain ⟨hx30, qg31_0, qg31_1, qg31_2, qg31_3, qg31_4, qg31_5, rfl, rfl, rfl, rfl, frg31⟩ := hg31
    have qg31_2b : ag31 26 2 = (pF h k (sp + 1)).2.1 := by first | exact qg31_2 | rw [qg31_2, es29] | (rw [qg31_2]; exact es29)
    have qg31_3b : ag31 26 1 = en := by first | exact qg31_3 | rw [qg31_3, qg3_1b] | (rw [qg31_3]; exact qg3_1b)
    have qg31_4b : ag31 26 5 = vi 26 5 := by first | exact qg31_4 | rw [qg31_4, qg3_2] | (rw [qg31_4]; exact qg3_2)
    have qg31_0b : ag31 26 7 = ((L ++ (pF h k (sp + 1)).2.2).length : Int) := by first | exact qg31_0 | rw [qg31_0, qg3_3b] | (rw [qg31_0]; exact qg3_3b)
    have qg31_5b : ag31 26 8 = vi 26 8 := by first | exact qg31_5 | rw [qg31_5, qg3_4] | (rw [qg31_5]; exact qg3_4)
    have frvig31 : ∀ k : Nat, (¬ k = 26 ∧ ¬ k = 29) → ag31 k = vi k := fun k hk => (frg31 k (by omega)).trans (frvig3 k hk)
    obtain ⟨L32, hL32⟩ : ∃ z : List Int, z = L ++ (pF h k (sp + 1)).2.2 := ⟨_, rfl⟩
    have lL32 : ag31 26 7 = (L32.length : Int) := by rw [hL32]; exact qg31_0b
    have cL32 : cdR (ag31 29) L32 := by rw [hL32]; exact qg31_1
    obtain ⟨sp33, hsp33⟩ : ∃ z : Int, z = (pF h k (sp + 1)).2.1 := ⟨_, rfl⟩
    have esp33 : ag31 26 2 = sp33 := by rw [hsp33]; exact qg31_2b
    obtain ⟨o1sp33, o2sp33, o3sp33, o4sp33, o5sp33⟩ := (pF_ok hen k) (sp + 1) (by omega)
    have nL32 : (L32.length : Int) = (L.length : Int) + ((pF h k (sp + 1)).2.2.length : Int) := by rw [hL32, List.length_append]; omega
    refine vx_if_ne hC (tgt := 31) (by omega) (by decide) eX5_readSingle_26 (fun c34 => ?_) (fun c34 => ?_)
    · refine vx_aload_n hC 0 rfl eX5_readSingle_31 ?_
      refine vx_iconst hC eX5_readSingle_32 ?_
      refine vx_callV_v hC (kX5_put G d _ _ _ _ _ hO L32 lL32 cL32 (by omega) (-1) (-1) (rfl)) ly_X5_112 (ot_26 hO) rfl rfl rfl hRm (by omega) (Nat.le_of_ble_eq_true rfl) rfl eX5_readSingle_33 (fun ng36 tg36 ag36 bg36 cg36 hg36 => ?_)
      obtain ⟨qg36_0, qg36_1, qg36_2, qg36_3, qg36_4, qg36_5, rfl, rfl, rfl, rfl, frg36⟩ := hg36
      have qg36_2b : ag36 26 2 = sp33 := by first | exact qg36_2 | rw [qg36_2, esp33] | (rw [qg36_2]; exact esp33)
      have qg36_3b : ag36 26 1 = en := by first | exact qg36_3 | rw [qg36_3, qg31_3b] | (rw [qg36_3]; exact qg31_3b)
      have qg36_4b : ag36 26 5 = vi 26 5 := by first | exact qg36_4 | rw [qg36_4, qg31_4b] | (rw [qg36_4]; exact qg31_4b)
      have qg36_0b : ag36 26 7 = ((L32 ++ [-1]).length : Int) := by first | exact qg36_0 | rw [qg36_0, lL32] | (rw [qg36_0]; exact lL32)
      have qg36_5b : ag36 26 8 = vi 26 8 := by first | exact qg36_5 | rw [qg36_5, qg31_5b] | (rw [qg36_5]; exact qg31_5b)
      have frvig36 : ∀ k : Nat, (¬ k = 26 ∧ ¬ k = 29) → ag36 k = vi k := fun k hk => (frg36 k (by omega)).trans (frvig31 k hk)
      obtain ⟨L37, hL37⟩ : ∃ z : List Int, z = L32 ++ [-1] := ⟨_, rfl⟩
      have lL37 : ag36 26 7 = (L37.length : Int) := by rw [hL37]; exact qg36_0b
      have cL37 : cdR (ag36 29) L37 := by rw [hL37]; exact qg36_1
      obtain ⟨sp38, hsp38⟩ : ∃ z : Int, z = sp33 := ⟨_, rfl⟩
      have esp38 : ag36 26 2 = sp38 := by rw [hsp38]; exact qg36_2b
      have nL37 : (L37.length : Int) = (L32.length : Int) + 1 := by rw [hL37, List.length_append]; simp
      refine vx_iconst hC eX5_readSingle_36 ?_
      have hE := pF_not (h := h) (k := k) (sp := sp) (by omega) o1sp33
      rw [show (pF h k (sp + 1)).1 = 1 by omega, show pE (1 - 1) (pF h k (sp + 1)).2.2 (-1) = (pF h k (sp + 1)).2.2 ++ [-1] from rfl] at hE
      have hLf : L37 = L ++ ((pF h k (sp + 1)).2.2 ++ [-1]) := by rw [hL37, hL32, List.append_assoc]
      exact vx_iret hC hM (by first | decide | exact xn_bz (by omega)) eX5_readSingle_37 (⟨_, rfl, (by rw [hE]), (by rw [hE]; show _ = ((L ++ ((pF h k (sp + 1)).2.2 ++ [-1])).length : Int); rw [← hLf]; exact lL37), (by rw [hE]; show cdR _ (L ++ ((pF h k (sp + 1)).2.2 ++ [-1])); rw [← hLf]; exact cL37), (by rw [hE]; exact (by show _ = (pF h k (sp + 1)).2.1; rw [esp38, hsp38]; exact hsp33)), qg36_3b, qg36_4b, qg36_5b, rfl, rfl, rfl, rfl, fun k hk => frvig36 k (by omega)⟩)
    · refine vx_iconst hC eX5_readSingle_29 ?_
      have hE := pF_not (h := h) (k := k) (sp := sp) (by omega) o1sp33
      rw [show (pF h k (sp + 1)).1 = 0 by omega, show pE (1 - 0) (pF h k (sp + 1)).2.2 (-1) = (pF h k (sp + 1)).2.2 from rfl] at hE
      have hLf : L32 = L ++ (pF h k (sp + 1)).2.2 := hL32
      exact vx_iret hC hM (by first | decide | exact xn_bz (by omega)) eX5_readSingle_30 (⟨_, rfl, (by rw [hE]), (by rw [hE]; show _ = ((L ++ (pF h k (sp + 1)).2.2).length : Int); rw [← hLf]; exact lL32), (by rw [hE]; show cdR _ (L ++ (pF h k (sp + 1)).2.2); rw [← hLf]; exact cL32), (by rw [hE]; exact (by show _ = (pF h k (sp + 1)).2.1; rw [esp33]; exact hsp33)), qg31_3b, qg31_4b, qg31_5b, rfl, rfl, rfl, rfl, fun k hk => frvig31 k (by omega)⟩)
set_option maxHeartbeats 4000000 in
set_option maxRecDepth 100000 in
theorem kX5_eitherS (G : xg_T) (h u : Int → Int) (en : Int) (hen : pH h u en) (op : Int) (ky b : Nat) (hky : 8 ≤ ky) (F : Int → pr_T) (hP : ∀ sp, 0 ≤ sp ∧ sp ≤ en → pOK en b sp (F sp)) (hF : FR G yX5_readSingle cX5_readSingle 2 (ky) h en op (F)) : FR G yX5_readEither cX5_readEither 4 (ky + 1) h en op (pEx F h) := by
  unfold FR
  intro d n tau vi vl vr hO sp L h2 h1 hr0 htp hsp h7 hcd hL
  refine xm.of (lv := [(0, xa_r 26), (1, xa_i op)]) (by decide) (Nat.le_of_ble_eq_true rfl) rfl (fun K hC hM hRm => ?_)
  have he := hen.1
  have hh := hen.2
  have hhs := hh sp
  refine vx_iconst hC eX5_readEither_0 ?_
  refine vx_istore_n hC (lv1 := [(2, xa_i 0), (0, xa_r 26), (1, xa_i op)]) (by decide) rfl eX5_readEither_1 ?_
  have LP2 : ∀ (j : Nat) (c : Nat) (ts : Int) (sp1 : Int) (acc : List Int) (La : List Int) (m2 : Nat → Int → Int) (hts : 0 ≤ ts ∧ 3 * ts ≤ sp1 - sp ∧ sp1 ≤ en) (hc : en - sp1 < (c : Int)) (hac : (acc.length : Int) ≤ sp1 - sp) (hLa : La = L ++ acc) (hres : (if (pTm F h sp1).1 = 0 then (0, (pTm F h sp1).2.1, acc ++ (pTm F h sp1).2.2) else pLoop (pTm F h) h 124 (-3) c (pTm F h sp1).2.1 (acc ++ (pTm F h sp1).2.2 ++ (if ts = 0 then [] else [-3]))) = pEx F h sp) (ea0 : m2 26 2 = sp1) (ea1 : m2 26 1 = en) (ea2 : m2 26 5 = vi 26 5) (ea3 : m2 26 7 = (La.length : Int)) (ea4 : m2 26 8 = vi 26 8) (cda : cdR (m2 29) La) (fra : ∀ k : Nat, (¬ k = 26 ∧ ¬ k = 29) → m2 k = vi k) (hj : (c : Int) < (j : Int)), xv G K 4 (xk_Q G K (xp_i (fun z9 n1 t1 a1 b1 c1 => (z9 = ((pEx F h) sp).1) ∧ (a1 26 7 = ((L ++ ((pEx F h) sp).2.2).length : Int)) ∧ (cdR (a1 29) (L ++ ((pEx F h) sp).2.2)) ∧ (a1 26 2 = ((pEx F h) sp).2.1) ∧ (a1 26 1 = en) ∧ (a1 26 5 = vi 26 5) ∧ (a1 26 8 = vi 26 8) ∧ xs_I (fun k => ¬ k = 26 ∧ ¬ k = 29) n tau vi vl vr n1 t1 a1 b1 c1)) 0 0) 0 0 n tau m2 vl vr 2 [(2, xa_i ts), (0, xa_r 26), (1, xa_i op)] [] := by
    intro j
    induction j with
    | zero => intro c ts sp1 acc La m2 hts hc hac hLa hres ea0 ea1 ea2 ea3 ea4 cda fra hj; exfalso; omega
    | succ j ihA =>
      intro c ts sp1 acc La m2 hts hc hac hLa hres ea0 ea1 ea2 ea3 ea4 cda fra hj
      have hlla : (La.length : Int) = (L.length : Int) + (acc.length : Int) := by rw [hLa, List.length_append]; omega
      refine vx_iload_n hC 0 rfl eX5_readEither_2 ?_
      refine vx_bipush hC (by decide) eX5_readEither_3 ?_
      refine vx_icmp_ge hC (tgt := 82) (by omega) (by decide) eX5_readEither_5 (fun c1 => absurd c1 (by omega)) (fun c1 => ?_)
      refine vx_iconst hC eX5_readEither_8 ?_
      refine vx_istore_n hC (lv1 := [(3, xa_i 0), (2, xa_i ts), (0, xa_r 26), (1, xa_i op)]) (by decide) rfl eX5_readEither_9 ?_
      have LP10 : ∀ (j : Nat) (c2 : Nat) (fs : Int) (sp2 : Int) (acc2 : List Int) (Lb : List Int) (m3 : Nat → Int → Int) (hfs : 0 ≤ fs ∧ 3 * fs ≤ sp2 - sp1 ∧ sp1 ≤ sp2 ∧ sp2 ≤ en) (hc2 : c2 ≤ 102 ∧ (fs = 0 → c2 = 102)) (hac2 : (acc2.length : Int) ≤ sp2 - sp1) (hLb : Lb = La ++ acc2) (hiv : (fs = 0 ∧ sp2 = sp1 ∧ acc2 = []) ∨ (1 ≤ fs ∧ en - sp2 < (c2 : Int) ∧ pLoop F h 38 (-2) c2 sp2 acc2 = pTm F h sp1)) (eb0 : m3 26 2 = sp2) (eb1 : m3 26 1 = en) (eb2 : m3 26 5 = vi 26 5) (eb3 : m3 26 7 = (Lb.length : Int)) (eb4 : m3 26 8 = vi 26 8) (cdb : cdR (m3 29) Lb) (frb : ∀ k : Nat, (¬ k = 26 ∧ ¬ k = 29) → m3 k = vi k) (hj : (c2 : Int) < (j : Int)), xv G K 4 (xk_Q G K (xp_i (fun z9 n1 t1 a1 b1 c1 => (z9 = ((pEx F h) sp).1) ∧ (a1 26 7 = ((L ++ ((pEx F h) sp).2.2).length : Int)) ∧ (cdR (a1 29) (L ++ ((pEx F h) sp).2.2)) ∧ (a1 26 2 = ((pEx F h) sp).2.1) ∧ (a1 26 1 = en) ∧ (a1 26 5 = vi 26 5) ∧ (a1 26 8 = vi 26 8) ∧ xs_I (fun k => ¬ k = 26 ∧ ¬ k = 29) n tau vi vl vr n1 t1 a1 b1 c1)) 0 0) 0 0 n tau m3 vl vr 10 [(3, xa_i fs), (2, xa_i ts), (0, xa_r 26), (1, xa_i op)] [] := by
        intro j
        induction j with
        | zero => intro c2 fs sp2 acc2 Lb m3 hfs hc2 hac2 hLb hiv eb0 eb1 eb2 eb3 eb4 cdb frb hj; exfalso; omega
        | succ j ihB =>
          intro c2 fs sp2 acc2 Lb m3 hfs hc2 hac2 hLb hiv eb0 eb1 eb2 eb3 eb4 cdb frb hj
          have hllb : (Lb.length : Int) = (La.length : Int) + (acc2.length : Int) := by rw [hLb, List.length_append]; omega
          refine vx_iload_n hC 0 rfl eX5_readEither_10 ?_
          refine vx_if_eq hC (tgt := 29) (by omega) (by decide) eX5_readEither_11 (fun c2 => ?_) (fun c2 => ?_)
          · have hiw : sp2 = sp1 ∧ acc2 = [] := by rcases hiv with h9 | h9; exact ⟨h9.2.1, h9.2.2⟩; omega
            have es3 : m3 26 2 = sp1 := by rw [eb0]; omega
            refine vx_aload_n hC 2 rfl eX5_readEither_29 ?_
            refine vx_iload_n hC 3 rfl eX5_readEither_30 ?_
            refine vx_callV_i hC (hF d _ _ _ _ _ hO sp1 Lb es3 eb1 hr0 (fun z z1 z2 => by rw [frb 2 (by omega)]; exact htp z z1 z2) (by omega) eb3 cdb (by omega)) ly_X5_109 (ot_26 hO) rfl rfl rfl hRm (by omega) (Nat.le_of_ble_eq_true rfl) rfl eX5_readEither_31 (fun x4 ng5 tg5 ag5 bg5 cg5 hg5 => ?_)
            obtain ⟨hx4, qg5_0, qg5_1, qg5_2, qg5_3, qg5_4, qg5_5, rfl, rfl, rfl, rfl, frg5⟩ := hg5
            have qg5_2b : ag5 26 2 = (F sp1).2.1 := by first | exact qg5_2 | rw [qg5_2, es3] | (rw [qg5_2]; exact es3)
            have qg5_3b : ag5 26 1 = en := by first | exact qg5_3 | rw [qg5_3, eb1] | (rw [qg5_3]; exact eb1)
            have qg5_4b : ag5 26 5 = vi 26 5 := by first | exact qg5_4 | rw [qg5_4, eb2] | (rw [qg5_4]; exact eb2)
            have qg5_0b : ag5 26 7 = ((Lb ++ (F sp1).2.2).length : Int) := by first | exact qg5_0 | rw [qg5_0, eb3] | (rw [qg5_0]; exact eb3)
            have qg5_5b : ag5 26 8 = vi 26 8 := by first | exact qg5_5 | rw [qg5_5, eb4] | (rw [qg5_5]; exact eb4)
            have frvig5 : ∀ k : Nat, (¬ k = 26 ∧ ¬ k = 29) → ag5 k = vi k := fun k hk => (frg5 k (by omega)).trans (frb k hk)
            obtain ⟨L6, hL6⟩ : ∃ z : List Int, z = Lb ++ (F sp1).2.2 := ⟨_, rfl⟩
            have lL6 : ag5 26 7 = (L6.length : Int) := by rw [hL6]; exact qg5_0b
            have cL6 : cdR (ag5 29) L6 := by rw [hL6]; exact qg5_1
            obtain ⟨sp7, hsp7⟩ : ∃ z : Int, z = (F sp1).2.1 := ⟨_, rfl⟩
            have esp7 : ag5 26 2 = sp7 := by rw [hsp7]; exact qg5_2b
            obtain ⟨o1sp7, o2sp7, o3sp7, o4sp7, o5sp7⟩ := hP sp1 (by omega)
            have nL6 : (L6.length : Int) = (Lb.length : Int) + ((F sp1).2.2.length : Int) := by rw [hL6, List.length_append]; omega
            refine vx_if_ne hC (tgt := 39) (by omega) (by decide) eX5_readEither_34 (fun c8 => ?_) (fun c8 => ?_)
            · refine vx_iload_n hC 0 rfl eX5_readEither_39 ?_
              refine vx_if_le hC (tgt := 49) (by omega) (by decide) eX5_readEither_40 (fun c9 => ?_) (fun c9 => ?_)
              · have hLn2 : L6 = La ++ (F sp1).2.2 := by rw [hL6, hLb, hiw.2, List.append_nil]
                have hiv2 : (fs + 1 = 0 ∧ sp7 = sp1 ∧ (F sp1).2.2 = []) ∨ (1 ≤ fs + 1 ∧ en - sp7 < ((101 : Nat) : Int) ∧ pLoop F h 38 (-2) 101 sp7 (F sp1).2.2 = pTm F h sp1) := by
                  right; refine ⟨by omega, by omega, ?_⟩; rw [hsp7]; show _ = pSeq F h 38 (-2) sp1; unfold pSeq; rw [if_neg (by omega)]
                refine vx_iinc hC (lv1 := [(3, xa_i (fs + 1)), (2, xa_i ts), (0, xa_r 26), (1, xa_i op)]) 0 rfl (by decide) rfl eX5_readEither_49 ?_
                refine vx_goto hC (tgt := 10) (by decide) eX5_readEither_52 ?_
                exact ihB 101 (fs + 1) sp7 (F sp1).2.2 L6 ag5 (by omega) (by omega) (by omega) hLn2 hiv2 esp7 qg5_3b qg5_4b lL6 qg5_5b cL6 frvig5 (by omega)
              · refine vx_aload_n hC 2 rfl eX5_readEither_43 ?_
                refine vx_bipush hC (by decide) eX5_readEither_44 ?_
                refine vx_callV_v hC (kX5_put G d _ _ _ _ _ hO L6 lL6 cL6 (by omega) (-2) (-2) (rfl)) ly_X5_112 (ot_26 hO) rfl rfl rfl hRm (by omega) (Nat.le_of_ble_eq_true rfl) rfl eX5_readEither_46 (fun ng11 tg11 ag11 bg11 cg11 hg11 => ?_)
                obtain ⟨qg11_0, qg11_1, qg11_2, qg11_3, qg11_4, qg11_5, rfl, rfl, rfl, rfl, frg11⟩ := hg11
                have qg11_2b : ag11 26 2 = sp7 := by first | exact qg11_2 | rw [qg11_2, esp7] | (rw [qg11_2]; exact esp7)
                have qg11_3b : ag11 26 1 = en := by first | exact qg11_3 | rw [qg11_3, qg5_3b] | (rw [qg11_3]; exact qg5_3b)
                have qg11_4b : ag11 26 5 = vi 26 5 := by first | exact qg11_4 | rw [qg11_4, qg5_4b] | (rw [qg11_4]; exact qg5_4b)
                have qg11_0b : ag11 26 7 = ((L6 ++ [-2]).length : Int) := by first | exact qg11_0 | rw [qg11_0, lL6] | (rw [qg11_0]; exact lL6)
                have qg11_5b : ag11 26 8 = vi 26 8 := by first | exact qg11_5 | rw [qg11_5, qg5_5b] | (rw [qg11_5]; exact qg5_5b)
                have frvig11 : ∀ k : Nat, (¬ k = 26 ∧ ¬ k = 29) → ag11 k = vi k := fun k hk => (frg11 k (by omega)).trans (frvig5 k hk)
                obtain ⟨L12, hL12⟩ : ∃ z : List Int, z = L6 ++ [-2] := ⟨_, rfl⟩
                have lL12 : ag11 26 7 = (L12.length : Int) := by rw [hL12]; exact qg11_0b
                have cL12 : cdR (ag11 29) L12 := by rw [hL12]; exact qg11_1
                obtain ⟨sp13, hsp13⟩ : ∃ z : Int, z = sp7 := ⟨_, rfl⟩
                have esp13 : ag11 26 2 = sp13 := by rw [hsp13]; exact qg11_2b
                have nL12 : (L12.length : Int) = (L6.length : Int) + 1 := by rw [hL12, List.length_append]; simp
                have hLn2 : L12 = La ++ (F sp1).2.2 := by rw [hL12, hLb, hiw.2, List.append_nil]
                have hiv2 : (fs + 1 = 0 ∧ sp13 = sp1 ∧ (F sp1).2.2 = []) ∨ (1 ≤ fs + 1 ∧ en - sp13 < ((101 : Nat) : Int) ∧ pLoop F h 38 (-2) 101 sp13 (F sp1).2.2 = pTm F h sp1) := by
                  right; refine ⟨by omega, by omega, ?_⟩; rw [hsp13]; show _ = pSeq F h 38 (-2) sp1; unfold pSeq; rw [if_neg (by omega)]
                refine vx_iinc hC (lv1 := [(3, xa_i (fs + 1)), (2, xa_i ts), (0, xa_r 26), (1, xa_i op)]) 0 rfl (by decide) rfl eX5_readEither_49 ?_
                refine vx_goto hC (tgt := 10) (by decide) eX5_readEither_52 ?_
                exact ihB 101 (fs + 1) sp13 (F sp1).2.2 L12 ag11 (by omega) (by omega) (by omega) hLn2 hiv2 esp13 qg11_3b qg11_4b lL12 qg11_5b cL12 frvig11 (by omega)
            · refine vx_iconst hC eX5_readEither_37 ?_
              have hPT : pTm F h sp1 = F sp1 := by show pSeq F h 38 (-2) sp1 = _; unfold pSeq; rw [if_pos (by omega)]
              have hE : pEx F h sp = (0, (F sp1).2.1, acc ++ (F sp1).2.2) := by rw [← hres, hPT, if_pos (by omega)]
              have hLf : L6 = L ++ (acc ++ (F sp1).2.2) := by rw [hL6, hLb, hiw.2, List.append_nil, hLa, List.append_assoc]
              exact vx_iret hC hM (by first | decide | exact xn_bz (by omega)) eX5_readEither_38 (⟨_, rfl, (by rw [hE]; omega), (by rw [hE]; show _ = ((L ++ (acc ++ (F sp1).2.2)).length : Int); rw [← hLf]; exact lL6), (by rw [hE]; show cdR _ (L ++ (acc ++ (F sp1).2.2)); rw [← hLf]; exact cL6), (by rw [hE]; exact (by show _ = (F sp1).2.1; rw [esp7]; exact hsp7)), qg5_3b, qg5_4b, qg5_5b, rfl, rfl, rfl, rfl, fun k hk => frvig5 k (by omega)⟩)
          · refine vx_iload_n hC 0 rfl eX5_readEither_14 ?_
            refine vx_bipush hC (by decide) eX5_readEither_15 ?_
            refine vx_icmp_ge hC (tgt := 55) (by omega) (by decide) eX5_readEither_17 (fun c14 => absurd c14 (by omega)) (fun c14 => ?_)
            refine vx_aload_n hC 2 rfl eX5_readEither_20 ?_
            refine vx_bipush hC (by decide) eX5_readEither_21 ?_
            refine vx_callV_i hC (kX5_take G d _ _ _ _ _ hO h u en sp2 eb0 eb1 hr0 hen (fun z z1 z2 => by rw [frb 2 (by omega)]; exact htp z z1 z2) (by omega) 38 (by omega)) ly_X5_51 (ot_26 hO) rfl rfl rfl hRm (by omega) (Nat.le_of_ble_eq_true rfl) rfl eX5_readEither_23 (fun x15 ng16 tg16 ag16 bg16 cg16 hg16 => ?_)
            obtain ⟨hx15, qg16_0, qg16_1, qg16_2, qg16_3, qg16_4, rfl, rfl, rfl, rfl, frg16⟩ := hg16
            have qg16_0b : ag16 26 2 = sp2 + x15 := by first | exact qg16_0 | rw [qg16_0, eb0] | (rw [qg16_0]; exact eb0)
            have qg16_1b : ag16 26 1 = en := by first | exact qg16_1 | rw [qg16_1, eb1] | (rw [qg16_1]; exact eb1)
            have qg16_2b : ag16 26 5 = vi 26 5 := by first | exact qg16_2 | rw [qg16_2, eb2] | (rw [qg16_2]; exact eb2)
            have qg16_3b : ag16 26 7 = (Lb.length : Int) := by first | exact qg16_3 | rw [qg16_3, eb3] | (rw [qg16_3]; exact eb3)
            have qg16_4b : ag16 26 8 = vi 26 8 := by first | exact qg16_4 | rw [qg16_4, eb4] | (rw [qg16_4]; exact eb4)
            have frvig16 : ∀ k : Nat, (¬ k = 26 ∧ ¬ k = 29) → ag16 k = vi k := fun k hk => (frg16 k (by omega)).trans (frb k hk)
            obtain ⟨sp17, hsp17⟩ : ∃ z : Int, z = sp2 + x15 := ⟨_, rfl⟩
            have esp17 : ag16 26 2 = sp17 := by rw [hsp17]; exact qg16_0b
            have hbsp17 := hh sp2
            have cd18 : cdR (ag16 29) Lb := by rw [frg16 29 (by omega)]; exact cdb
            refine vx_if_eq hC (tgt := 55) (by omega) (by decide) eX5_readEither_26 (fun c19 => ?_) (fun c19 => ?_)
            · have hT9 : (1, sp2, acc2) = pTm F h sp1 := by rcases hiv with h9 | h9; omega; exact pLoop_end h9.2.2 (by omega)
              have hp9 : pLoop (pTm F h) h 124 (-3) c sp2 (acc ++ acc2 ++ (if ts = 0 then [] else [-3])) = pEx F h sp := by rw [← hres, ← hT9, if_neg (by show ¬ (1 : Int) = 0; omega)]
              have es20 : ag16 26 2 = sp2 := by rw [esp17]; omega
              refine vx_iload_n hC 1 rfl eX5_readEither_55 ?_
              refine vx_if_le hC (tgt := 65) (by omega) (by decide) eX5_readEither_56 (fun c21 => ?_) (fun c21 => ?_)
              · have hLn : Lb = L ++ (acc ++ acc2 ++ (if ts = 0 then [] else [-3])) := by rw [if_pos (by omega), List.append_nil, hLb, hLa, List.append_assoc]
                have hll9 : (Lb.length : Int) ≤ sp2 := by omega
                have es22 : ag16 26 2 = sp2 := by rw [es20]; omega
                have htl : ((if ts = 0 then [] else [-3]) : List Int).length ≤ 1 := by split <;> simp
                refine vx_aload_n hC 2 rfl eX5_readEither_65 ?_
                refine vx_bipush hC (by decide) eX5_readEither_66 ?_
                refine vx_callV_i hC (kX5_take G d _ _ _ _ _ hO h u en sp2 es22 qg16_1b hr0 hen (fun z z1 z2 => by rw [frvig16 2 (by omega)]; exact htp z z1 z2) (by omega) 124 (by omega)) ly_X5_51 (ot_26 hO) rfl rfl rfl hRm (by omega) (Nat.le_of_ble_eq_true rfl) rfl eX5_readEither_68 (fun x23 ng24 tg24 ag24 bg24 cg24 hg24 => ?_)
                obtain ⟨hx23, qg24_0, qg24_1, qg24_2, qg24_3, qg24_4, rfl, rfl, rfl, rfl, frg24⟩ := hg24
                have qg24_0b : ag24 26 2 = sp2 + x23 := by first | exact qg24_0 | rw [qg24_0, es22] | (rw [qg24_0]; exact es22)
                have qg24_1b : ag24 26 1 = en := by first | exact qg24_1 | rw [qg24_1, qg16_1b] | (rw [qg24_1]; exact qg16_1b)
                have qg24_2b : ag24 26 5 = vi 26 5 := by first | exact qg24_2 | rw [qg24_2, qg16_2b] | (rw [qg24_2]; exact qg16_2b)
                have qg24_3b : ag24 26 7 = (Lb.length : Int) := by first | exact qg24_3 | rw [qg24_3, qg16_3b] | (rw [qg24_3]; exact qg16_3b)
                have qg24_4b : ag24 26 8 = vi 26 8 := by first | exact qg24_4 | rw [qg24_4, qg16_4b] | (rw [qg24_4]; exact qg16_4b)
                have frvig24 : ∀ k : Nat, (¬ k = 26 ∧ ¬ k = 29) → ag24 k = vi k := fun k hk => (frg24 k (by omega)).trans (frvig16 k hk)
                obtain ⟨sp25, hsp25⟩ : ∃ z : Int, z = sp2 + x23 := ⟨_, rfl⟩
                have esp25 : ag24 26 2 = sp25 := by rw [hsp25]; exact qg24_0b
                have hbsp25 := hh sp2
                have cd26 : cdR (ag24 29) Lb := by rw [frg24 29 (by omega)]; exact cd18
                refine vx_if_ne hC (tgt := 76) (by omega) (by decide) eX5_readEither_71 (fun c27 => ?_) (fun c27 => ?_)
                · have es28 : ag24 26 2 = (sp2 + 1) := by rw [esp25]; omega
                  obtain ⟨c1, rfl⟩ : ∃ c1, c = c1 + 1 := ⟨c - 1, by omega⟩
                  refine vx_iinc hC (lv1 := [(2, xa_i (ts + 1)), (3, xa_i fs), (0, xa_r 26), (1, xa_i op)]) 1 rfl (by decide) rfl eX5_readEither_76 ?_
                  refine vx_goto hC (tgt := 2) (by decide) eX5_readEither_79 ?_
                  refine vx_lv (lv1 := [(2, xa_i (ts + 1)), (0, xa_r 26), (1, xa_i op)]) [0, 2, 3] rfl ?_
                  exact ihA c1 (ts + 1) (sp2 + 1) (acc ++ acc2 ++ (if ts = 0 then [] else [-3])) Lb ag24 (by omega) (by omega) (by rw [List.length_append, List.length_append]; omega) hLn (by rw [if_neg (show ¬ ts + 1 = 0 by omega)]; rw [pLoop, if_pos (show h sp2 = 124 by omega)] at hp9; exact hp9) es28 qg24_1b qg24_2b qg24_3b qg24_4b cd26 frvig24 (by omega)
                · refine vx_iconst hC eX5_readEither_74 ?_
                  have hE : pEx F h sp = (1, sp2, acc ++ acc2 ++ (if ts = 0 then [] else [-3])) := (pLoop_end hp9 (by omega)).symm
                  have hLf := hLn
                  exact vx_iret hC hM (by first | decide | exact xn_bz (by omega)) eX5_readEither_75 (⟨_, rfl, (by rw [hE]), (by rw [hE]; show _ = ((L ++ (acc ++ acc2 ++ (if ts = 0 then [] else [-3]))).length : Int); rw [← hLf]; exact qg24_3b), (by rw [hE]; show cdR _ (L ++ (acc ++ acc2 ++ (if ts = 0 then [] else [-3]))); rw [← hLf]; exact cd26), (by rw [hE]; exact (by show _ = sp2; rw [esp25]; omega)), qg24_1b, qg24_2b, qg24_4b, rfl, rfl, rfl, rfl, fun k hk => frvig24 k (by omega)⟩)
              · refine vx_aload_n hC 2 rfl eX5_readEither_59 ?_
                refine vx_bipush hC (by decide) eX5_readEither_60 ?_
                refine vx_callV_v hC (kX5_put G d _ _ _ _ _ hO Lb qg16_3b cd18 (by omega) (-3) (-3) (rfl)) ly_X5_112 (ot_26 hO) rfl rfl rfl hRm (by omega) (Nat.le_of_ble_eq_true rfl) rfl eX5_readEither_62 (fun ng30 tg30 ag30 bg30 cg30 hg30 => ?_)
                obtain ⟨qg30_0, qg30_1, qg30_2, qg30_3, qg30_4, qg30_5, rfl, rfl, rfl, rfl, frg30⟩ := hg30
                have qg30_2b : ag30 26 2 = sp2 := by first | exact qg30_2 | rw [qg30_2, es20] | (rw [qg30_2]; exact es20)
                have qg30_3b : ag30 26 1 = en := by first | exact qg30_3 | rw [qg30_3, qg16_1b] | (rw [qg30_3]; exact qg16_1b)
                have qg30_4b : ag30 26 5 = vi 26 5 := by first | exact qg30_4 | rw [qg30_4, qg16_2b] | (rw [qg30_4]; exact qg16_2b)
                have qg30_0b : ag30 26 7 = ((Lb ++ [-3]).length : Int) := by first | exact qg30_0 | rw [qg30_0, qg16_3b] | (rw [qg30_0]; exact qg16_3b)
                have qg30_5b : ag30 26 8 = vi 26 8 := by first | exact qg30_5 | rw [qg30_5, qg16_4b] | (rw [qg30_5]; exact qg16_4b)
                have frvig30 : ∀ k : Nat, (¬ k = 26 ∧ ¬ k = 29) → ag30 k = vi k := fun k hk => (frg30 k (by omega)).trans (frvig16 k hk)
                obtain ⟨L31, hL31⟩ : ∃ z : List Int, z = Lb ++ [-3] := ⟨_, rfl⟩
                have lL31 : ag30 26 7 = (L31.length : Int) := by rw [hL31]; exact qg30_0b
                have cL31 : cdR (ag30 29) L31 := by rw [hL31]; exact qg30_1
                obtain ⟨sp32, hsp32⟩ : ∃ z : Int, z = sp2 := ⟨_, rfl⟩
                have esp32 : ag30 26 2 = sp32 := by rw [hsp32]; exact qg30_2b
                have nL31 : (L31.length : Int) = (Lb.length : Int) + 1 := by rw [hL31, List.length_append]; simp
                have hLn : L31 = L ++ (acc ++ acc2 ++ (if ts = 0 then [] else [-3])) := by rw [if_neg (by omega), hL31, hLb, hLa]; simp only [List.append_assoc]
                have hll9 : (L31.length : Int) ≤ sp2 := by omega
                have es33 : ag30 26 2 = sp2 := by rw [esp32]; omega
                have htl : ((if ts = 0 then [] else [-3]) : List Int).length ≤ 1 := by split <;> simp
                refine vx_aload_n hC 2 rfl eX5_readEither_65 ?_
                refine vx_bipush hC (by decide) eX5_readEither_66 ?_
                refine vx_callV_i hC (kX5_take G d _ _ _ _ _ hO h u en sp2 es33 qg30_3b hr0 hen (fun z z1 z2 => by rw [frvig30 2 (by omega)]; exact htp z z1 z2) (by omega) 124 (by omega)) ly_X5_51 (ot_26 hO) rfl rfl rfl hRm (by omega) (Nat.le_of_ble_eq_true rfl) rfl eX5_readEither_68 (fun x34 ng35 tg35 ag35 bg35 cg35 hg35 => ?_)
                obtain ⟨hx34, qg35_0, qg35_1, qg35_2, qg35_3, qg35_4, rfl, rfl, rfl, rfl, frg35⟩ := hg35
                have qg35_0b : ag35 26 2 = sp2 + x34 := by first | exact qg35_0 | rw [qg35_0, es33] | (rw [qg35_0]; exact es33)
                have qg35_1b : ag35 26 1 = en := by first | exact qg35_1 | rw [qg35_1, qg30_3b] | (rw [qg35_1]; exact qg30_3b)
                have qg35_2b : ag35 26 5 = vi 26 5 := by first | exact qg35_2 | rw [qg35_2, qg30_4b] | (rw [qg35_2]; exact qg30_4b)
                have qg35_3b : ag35 26 7 = (L31.length : Int) := by first | exact qg35_3 | rw [qg35_3, lL31] | (rw [qg35_3]; exact lL31)
                have qg35_4b : ag35 26 8 = vi 26 8 := by first | exact qg35_4 | rw [qg35_4, qg30_5b] | (rw [qg35_4]; exact qg30_5b)
                have frvig35 : ∀ k : Nat, (¬ k = 26 ∧ ¬ k = 29) → ag35 k = vi k := fun k hk => (frg35 k (by omega)).trans (frvig30 k hk)
                obtain ⟨sp36, hsp36⟩ : ∃ z : Int, z = sp2 + x34 := ⟨_, rfl⟩
                have esp36 : ag35 26 2 = sp36 := by rw [hsp36]; exact qg35_0b
                have hbsp36 := hh sp2
                have cd37 : cdR (ag35 29) L31 := by rw [frg35 29 (by omega)]; exact cL31
                refine vx_if_ne hC (tgt := 76) (by omega) (by decide) eX5_readEither_71 (fun c38 => ?_) (fun c38 => ?_)
                · have es39 : ag35 26 2 = (sp2 + 1) := by rw [esp36]; omega
                  obtain ⟨c1, rfl⟩ : ∃ c1, c = c1 + 1 := ⟨c - 1, by omega⟩
                  refine vx_iinc hC (lv1 := [(2, xa_i (ts + 1)), (3, xa_i fs), (0, xa_r 26), (1, xa_i op)]) 1 rfl (by decide) rfl eX5_readEither_76 ?_
                  refine vx_goto hC (tgt := 2) (by decide) eX5_readEither_79 ?_
                  refine vx_lv (lv1 := [(2, xa_i (ts + 1)), (0, xa_r 26), (1, xa_i op)]) [0, 2, 3] rfl ?_
                  exact ihA c1 (ts + 1) (sp2 + 1) (acc ++ acc2 ++ (if ts = 0 then [] else [-3])) L31 ag35 (by omega) (by omega) (by rw [List.length_append, List.length_append]; omega) hLn (by rw [if_neg (show ¬ ts + 1 = 0 by omega)]; rw [pLoop, if_pos (show h sp2 = 124 by omega)] at hp9; exact hp9) es39 qg35_1b qg35_2b qg35_3b qg35_4b cd37 frvig35 (by omega)
                · refine vx_iconst hC eX5_readEither_74 ?_
                  have hE : pEx F h sp = (1, sp2, acc ++ acc2 ++ (if ts = 0 then [] else [-3])) := (pLoop_end hp9 (by omega)).symm
                  have hLf := hLn
                  exact vx_iret hC hM (by first | decide | exact xn_bz (by omega)) eX5_readEither_75 (⟨_, rfl, (by rw [hE]), (by rw [hE]; show _ = ((L ++ (acc ++ acc2 ++ (if ts = 0 then [] else [-3]))).length : Int); rw [← hLf]; exact qg35_3b), (by rw [hE]; show cdR _ (L ++ (acc ++ acc2 ++ (if ts = 0 then [] else [-3]))); rw [← hLf]; exact cd37), (by rw [hE]; exact (by show _ = sp2; rw [esp36]; omega)), qg35_1b, qg35_2b, qg35_4b, rfl, rfl, rfl, rfl, fun k hk => frvig35 k (by omega)⟩)
            · have es40 : ag16 26 2 = (sp2 + 1) := by rw [esp17]; omega
              obtain ⟨c3, rfl⟩ : ∃ c3, c2 = c3 + 1 := ⟨c2 - 1, by omega⟩
              have hiw : pLoop F h 38 (-2) (c3 + 1) sp2 acc2 = pTm F h sp1 := by rcases hiv with h9 | h9; omega; exact h9.2.2
              refine vx_aload_n hC 2 rfl eX5_readEither_29 ?_
              refine vx_iload_n hC 3 rfl eX5_readEither_30 ?_
              refine vx_callV_i hC (hF d _ _ _ _ _ hO (sp2 + 1) Lb es40 qg16_1b hr0 (fun z z1 z2 => by rw [frvig16 2 (by omega)]; exact htp z z1 z2) (by omega) qg16_3b cd18 (by omega)) ly_X5_109 (ot_26 hO) rfl rfl rfl hRm (by omega) (Nat.le_of_ble_eq_true rfl) rfl eX5_readEither_31 (fun x41 ng42 tg42 ag42 bg42 cg42 hg42 => ?_)
              obtain ⟨hx41, qg42_0, qg42_1, qg42_2, qg42_3, qg42_4, qg42_5, rfl, rfl, rfl, rfl, frg42⟩ := hg42
              have qg42_2b : ag42 26 2 = (F (sp2 + 1)).2.1 := by first | exact qg42_2 | rw [qg42_2, es40] | (rw [qg42_2]; exact es40)
              have qg42_3b : ag42 26 1 = en := by first | exact qg42_3 | rw [qg42_3, qg16_1b] | (rw [qg42_3]; exact qg16_1b)
              have qg42_4b : ag42 26 5 = vi 26 5 := by first | exact qg42_4 | rw [qg42_4, qg16_2b] | (rw [qg42_4]; exact qg16_2b)
              have qg42_0b : ag42 26 7 = ((Lb ++ (F (sp2 + 1)).2.2).length : Int) := by first | exact qg42_0 | rw [qg42_0, qg16_3b] | (rw [qg42_0]; exact qg16_3b)
              have qg42_5b : ag42 26 8 = vi 26 8 := by first | exact qg42_5 | rw [qg42_5, qg16_4b] | (rw [qg42_5]; exact qg16_4b)
              have frvig42 : ∀ k : Nat, (¬ k = 26 ∧ ¬ k = 29) → ag42 k = vi k := fun k hk => (frg42 k (by omega)).trans (frvig16 k hk)
              obtain ⟨L43, hL43⟩ : ∃ z : List Int, z = Lb ++ (F (sp2 + 1)).2.2 := ⟨_, rfl⟩
              have lL43 : ag42 26 7 = (L43.length : Int) := by rw [hL43]; exact qg42_0b
              have cL43 : cdR (ag42 29) L43 := by rw [hL43]; exact qg42_1
              obtain ⟨sp44, hsp44⟩ : ∃ z : Int, z = (F (sp2 + 1)).2.1 := ⟨_, rfl⟩
              have esp44 : ag42 26 2 = sp44 := by rw [hsp44]; exact qg42_2b
              obtain ⟨o1sp44, o2sp44, o3sp44, o4sp44, o5sp44⟩ := hP (sp2 + 1) (by omega)
              have nL43 : (L43.length : Int) = (Lb.length : Int) + ((F (sp2 + 1)).2.2.length : Int) := by rw [hL43, List.length_append]; omega
              refine vx_if_ne hC (tgt := 39) (by omega) (by decide) eX5_readEither_34 (fun c45 => ?_) (fun c45 => ?_)
              · refine vx_iload_n hC 0 rfl eX5_readEither_39 ?_
                refine vx_if_le hC (tgt := 49) (by omega) (by decide) eX5_readEither_40 (fun c46 => ?_) (fun c46 => ?_)
                · have hLn2 : L43 = La ++ (acc2 ++ (F (sp2 + 1)).2.2 ++ [-2]) := by rw [hL43, hL43, hLb, List.append_assoc, List.append_assoc, List.append_assoc]
                  have hiv2 : (fs + 1 = 0 ∧ sp44 = sp1 ∧ (acc2 ++ (F (sp2 + 1)).2.2 ++ [-2]) = []) ∨ (1 ≤ fs + 1 ∧ en - sp44 < (c3 : Int) ∧ pLoop F h 38 (-2) c3 sp44 (acc2 ++ (F (sp2 + 1)).2.2 ++ [-2]) = pTm F h sp1) := by
                    right; refine ⟨by omega, by omega, ?_⟩; rw [pLoop, if_pos (show h sp2 = 38 by omega), if_neg (by omega)] at hiw; rw [← hiw, hsp44]
                  refine vx_iinc hC (lv1 := [(3, xa_i (fs + 1)), (2, xa_i ts), (0, xa_r 26), (1, xa_i op)]) 0 rfl (by decide) rfl eX5_readEither_49 ?_
                  refine vx_goto hC (tgt := 10) (by decide) eX5_readEither_52 ?_
                  exact ihB c3 (fs + 1) sp44 (acc2 ++ (F (sp2 + 1)).2.2 ++ [-2]) L43 ag42 (by omega) (by omega) (by rw [List.length_append, List.length_append]; simp only [List.length_singleton]; omega) hLn2 hiv2 esp44 qg42_3b qg42_4b lL43 qg42_5b cL43 frvig42 (by omega)
                · refine vx_aload_n hC 2 rfl eX5_readEither_43 ?_
                  refine vx_bipush hC (by decide) eX5_readEither_44 ?_
                  refine vx_callV_v hC (kX5_put G d _ _ _ _ _ hO L43 lL43 cL43 (by omega) (-2) (-2) (rfl)) ly_X5_112 (ot_26 hO) rfl rfl rfl hRm (by omega) (Nat.le_of_ble_eq_true rfl) rfl eX5_readEither_46 (fun ng48 tg48 ag48 bg48 cg48 hg48 => ?_)
                  obtain ⟨qg48_0, qg48_1, qg48_2, qg48_3, qg48_4, qg48_5, rfl, rfl, rfl, rfl, frg48⟩ := hg48
                  have qg48_2b : ag48 26 2 = sp44 := by first | exact qg48_2 | rw [qg48_2, esp44] | (rw [qg48_2]; exact esp44)
                  have qg48_3b : ag48 26 1 = en := by first | exact qg48_3 | rw [qg48_3, qg42_3b] | (rw [qg48_3]; exact qg42_3b)
                  have qg48_4b : ag48 26 5 = vi 26 5 := by first | exact qg48_4 | rw [qg48_4, qg42_4b] | (rw [qg48_4]; exact qg42_4b)
                  have qg48_0b : ag48 26 7 = ((L43 ++ [-2]).length : Int) := by first | exact qg48_0 | rw [qg48_0, lL43] | (rw [qg48_0]; exact lL43)
                  have qg48_5b : ag48 26 8 = vi 26 8 := by first | exact qg48_5 | rw [qg48_5, qg42_5b] | (rw [qg48_5]; exact qg42_5b)
                  have frvig48 : ∀ k : Nat, (¬ k = 26 ∧ ¬ k = 29) → ag48 k = vi k := fun k hk => (frg48 k (by omega)).trans (frvig42 k hk)
                  obtain ⟨L49, hL49⟩ : ∃ z : List Int, z = L43 ++ [-2] := ⟨_, rfl⟩
                  have lL49 : ag48 26 7 = (L49.length : Int) := by rw [hL49]; exact qg48_0b
                  have cL49 : cdR (ag48 29) L49 := by rw [hL49]; exact qg48_1
                  obtain ⟨sp50, hsp50⟩ : ∃ z : Int, z = sp44 := ⟨_, rfl⟩
                  have esp50 : ag48 26 2 = sp50 := by rw [hsp50]; exact qg48_2b
                  have nL49 : (L49.length : Int) = (L43.length : Int) + 1 := by rw [hL49, List.length_append]; simp
                  have hLn2 : L49 = La ++ (acc2 ++ (F (sp2 + 1)).2.2 ++ [-2]) := by rw [hL49, hL43, hLb, List.append_assoc, List.append_assoc, List.append_assoc]
                  have hiv2 : (fs + 1 = 0 ∧ sp50 = sp1 ∧ (acc2 ++ (F (sp2 + 1)).2.2 ++ [-2]) = []) ∨ (1 ≤ fs + 1 ∧ en - sp50 < (c3 : Int) ∧ pLoop F h 38 (-2) c3 sp50 (acc2 ++ (F (sp2 + 1)).2.2 ++ [-2]) = pTm F h sp1) := by
                    right; refine ⟨by omega, by omega, ?_⟩; rw [pLoop, if_pos (show h sp2 = 38 by omega), if_neg (by omega)] at hiw; rw [← hiw, hsp50, hsp44]
                  refine vx_iinc hC (lv1 := [(3, xa_i (fs + 1)), (2, xa_i ts), (0, xa_r 26), (1, xa_i op)]) 0 rfl (by decide) rfl eX5_readEither_49 ?_
                  refine vx_goto hC (tgt := 10) (by decide) eX5_readEither_52 ?_
                  exact ihB c3 (fs + 1) sp50 (acc2 ++ (F (sp2 + 1)).2.2 ++ [-2]) L49 ag48 (by omega) (by omega) (by rw [List.length_append, List.length_append]; simp only [List.length_singleton]; omega) hLn2 hiv2 esp50 qg48_3b qg48_4b lL49 qg48_5b cL49 frvig48 (by omega)
              · refine vx_iconst hC eX5_readEither_37 ?_
                have hPT : pTm F h sp1 = (0, (F (sp2 + 1)).2.1, acc2 ++ (F (sp2 + 1)).2.2) := by rw [← hiw, pLoop, if_pos (show h sp2 = 38 by omega), if_pos (by omega)]
                have hE : pEx F h sp = (0, (F (sp2 + 1)).2.1, acc ++ (acc2 ++ (F (sp2 + 1)).2.2)) := by rw [← hres, hPT, if_pos (show (0 : Int) = 0 from rfl)]
                have hLf : L43 = L ++ (acc ++ (acc2 ++ (F (sp2 + 1)).2.2)) := by rw [hL43, hLb, hLa]; simp only [List.append_assoc]
                exact vx_iret hC hM (by first | decide | exact xn_bz (by omega)) eX5_readEither_38 (⟨_, rfl, (by rw [hE]; omega), (by rw [hE]; show _ = ((L ++ (acc ++ (acc2 ++ (F (sp2 + 1)).2.2))).length : Int); rw [← hLf]; exact lL43), (by rw [hE]; show cdR _ (L ++ (acc ++ (acc2 ++ (F (sp2 + 1)).2.2))); rw [← hLf]; exact cL43), (by rw [hE]; exact (by show _ = (F (sp2 + 1)).2.1; rw [esp44]; exact hsp44)), qg42_3b, qg42_4b, qg42_5b, rfl, rfl, rfl, rfl, fun k hk => frvig42 k (by omega)⟩)
      exact LP10 103 102 0 sp1 [] La m2 (by omega) (by omega) (by simp) (by rw [List.append_nil]) (Or.inl ⟨rfl, rfl, rfl⟩) ea0 ea1 ea2 ea3 ea4 cda fra (by omega)
  exact LP2 102 101 0 sp [] L vi (by omega) (by omega) (by simp; omega) (by rw [List.append_nil]) (by rw [if_pos rfl, List.append_nil, List.nil_append]; show _ = pSeq (pTm F h) h 124 (-3) sp; unfold pSeq; by_cases e9 : (pTm F h sp).1 = 0; (rw [if_pos e9, if_pos e9]; exact Prod.ext e9.symm rfl); (rw [if_neg e9, if_neg e9])) h2 h1 rfl h7 rfl hcd (fun _ _ => rfl) (by omega)
theorem kX5_singleN (G : xg_T) (h u : Int → Int) (en : Int) (hen : pH h u en) : ∀ (k : Nat), k ≤ 5 → FR G yX5_readSingle cX5_readSingle 2 (8 + 2 * k) h en (5 - (k : Int)) (pF h k) ∧ FR G yX5_readEither cX5_readEither 4 (8 + 2 * k + 1) h en (5 - (k : Int)) (pEx (pF h k) h)
  | 0, _ => by
    have h0 := kX5_single0 G h u en hen
    rw [show (5 : Int) - ((0 : Nat) : Int) = 5 by decide, show 8 + 2 * 0 = 8 by decide]
    exact ⟨h0, kX5_eitherS G h u en hen 5 8 1 (by decide) (pF h 0) (pF_ok hen 0) h0⟩
  | k + 1, hk => by
    obtain ⟨hF, hS⟩ := kX5_singleN G h u en hen k (by omega)
    have e : (5 - (k : Int)) = 5 - ((k + 1 : Nat) : Int) + 1 := by omega
    rw [e] at hF hS
    have h1 := kX5_singleS G h u en hen (5 - ((k + 1 : Nat) : Int)) k (8 + 2 * k) (by omega) (by omega) hF hS
    rw [show 8 + 2 * (k + 1) = 8 + 2 * k + 2 by omega]
    exact ⟨h1, kX5_eitherS G h u en hen _ (8 + 2 * k + 2) (2 * (k + 1) + 1) (by omega) (pF h (k + 1)) (pF_ok hen (k + 1)) h1⟩
