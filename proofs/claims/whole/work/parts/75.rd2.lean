def FR (G : xg_T) (y : MethodName) (cc : ByteArray) (nL ky : Nat) (h : Int → Int) (en op : Int) (P : Int → pr_T) : Prop := ∀ (d n : Nat) (tau : Nat → Nat × Nat) (vi vl : Nat → Int → Int) (vr : Nat → Int → Option Nat), xo n tau vr → ∀ (sp : Int) (L : List Int), vi 26 2 = sp → vi 26 1 = en → vr 26 0 = some 2 → (∀ z, 0 ≤ z → z < en → vi 2 z = h z ∧ 0 ≤ h z) → (0 ≤ sp ∧ sp ≤ en) → vi 26 7 = (L.length : Int) → cdR (vi 29) L → (L.length : Int) ≤ sp → xm G y cc nL (some .boolean) (d + ky) 0 0 [xa_r 26, xa_i op] n tau vi vl vr (xp_i (fun z9 n1 t1 a1 b1 c1 => (z9 = (P sp).1) ∧ (a1 26 7 = ((L ++ (P sp).2.2).length : Int)) ∧ (cdR (a1 29) (L ++ (P sp).2.2)) ∧ (a1 26 2 = (P sp).2.1) ∧ (a1 26 1 = en) ∧ (a1 26 5 = vi 26 5) ∧ (a1 26 8 = vi 26 8) ∧ xs_I (fun k => ¬ k = 26 ∧ ¬ k = 29) n tau vi vl vr n1 t1 a1 b1 c1))
set_option maxHeartbeats 4000000 in
set_option maxRecDepth 100000 in
theorem kX5_single0 (G : xg_T) (h u : Int → Int) (en : Int) (hen : pH h u en)  : FR G yX5_readSingle cX5_readSingle 2 (8) h en 5 (pF h 0) := by
  unfold FR
  intro d n tau vi vl vr hO sp L h2 h1 hr0 htp hsp h7 hcd hL
  refine xm.of (lv := [(0, xa_r 26), (1, xa_i 5)]) (by decide) (Nat.le_of_ble_eq_true rfl) rfl (fun K hC hM hRm => ?_)
  have he := hen.1
  have hh := hen.2
  have hhs := hh sp
  refine vx_iload_n hC 1 rfl eX5_readSingle_0 ?_
  refine vx_iconst hC eX5_readSingle_1 ?_
  refine vx_icmp_lt hC (tgt := 10) (by omega) (by decide) eX5_readSingle_2 (fun c1 => absurd c1 (by omega)) (fun c1 => ?_)
  refine vx_aload_n hC 0 rfl eX5_readSingle_5 ?_
  refine vx_callV_i hC (kX5_readTest G d _ _ _ _ _ hO h u en sp h2 h1 hr0 hen htp (by omega) L h7 hcd (by omega)) ly_X5_116 (ot_26 hO) rfl rfl rfl hRm (by omega) (Nat.le_of_ble_eq_true rfl) rfl eX5_readSingle_6 (fun x2 ng3 tg3 ag3 bg3 cg3 hg3 => ?_)
  obtain ⟨hx2, qg3_0, qg3_1, qg3_2, qg3_3, qg3_4, qg3_5, rfl, rfl, rfl, rfl, frg3⟩ := hg3
  have qg3_2b : ag3 26 2 = (pTest h sp).2.1 := by first | exact qg3_2 | rw [qg3_2, h2] | (rw [qg3_2]; exact h2)
  have qg3_3b : ag3 26 1 = en := by first | exact qg3_3 | rw [qg3_3, h1] | (rw [qg3_3]; exact h1)
  have qg3_0b : ag3 26 7 = ((L ++ (pTest h sp).2.2).length : Int) := by first | exact qg3_0 | rw [qg3_0, h7] | (rw [qg3_0]; exact h7)
  have frvig3 : ∀ k : Nat, (¬ k = 26 ∧ ¬ k = 29) → ag3 k = vi k := fun k hk => (frg3 k (by omega))
  obtain ⟨L4, hL4⟩ : ∃ z : List Int, z = L ++ (pTest h sp).2.2 := ⟨_, rfl⟩
  have lL4 : ag3 26 7 = (L4.length : Int) := by rw [hL4]; exact qg3_0b
  have cL4 : cdR (ag3 29) L4 := by rw [hL4]; exact qg3_1
  obtain ⟨sp5, hsp5⟩ : ∃ z : Int, z = (pTest h sp).2.1 := ⟨_, rfl⟩
  have esp5 : ag3 26 2 = sp5 := by rw [hsp5]; exact qg3_2b
  have hosp5 := pTest_ok hen (sp := sp) (by omega)
  have hzx2 : x2 = 0 ∨ x2 = 1 := by rw [hx2]; exact hosp5.1
  have hE : pF h 0 sp = pTest h sp := rfl
  have hLf : L4 = L ++ (pTest h sp).2.2 := hL4
  exact vx_iret hC hM (by first | decide | exact xn_bz (by omega)) eX5_readSingle_9 (⟨_, rfl, (by rw [hE]; exact hx2), (by rw [hE]; show _ = ((L ++ (pTest h sp).2.2).length : Int); rw [← hLf]; exact lL4), (by rw [hE]; show cdR _ (L ++ (pTest h sp).2.2); rw [← hLf]; exact cL4), (by rw [hE]; exact (by show _ = (pTest h sp).2.1; rw [esp5]; exact hsp5)), qg3_3b, qg3_4, qg3_5, rfl, rfl, rfl, rfl, fun k hk => frvig3 k (by omega)⟩)
set_option maxHeartbeats 4000000 in
set_option maxRecDepth 100000 in
theorem kX5_singleS (G : xg_T) (h u : Int → Int) (en : Int) (hen : pH h u en) (op : Int) (k ky : Nat) (hop : 0 ≤ op ∧ op ≤ 4) (hky : 8 ≤ ky) (hF : FR G yX5_readSingle cX5_readSingle 2 (ky) h en (op + 1) (pF h k)) (hS : FR G yX5_readEither cX5_readEither 4 (ky + 1) h en (op + 1) (pEx (pF h k) h)) : FR G yX5_readSingle cX5_readSingle 2 (ky + 2) h en op (pF h (k + 1)) := by
  unfold FR
  intro d n tau vi vl vr hO sp L h2 h1 hr0 htp hsp h7 hcd hL
  refine xm.of (lv := [(0, xa_r 26), (1, xa_i op)]) (by decide) (Nat.le_of_ble_eq_true rfl) rfl (fun K hC hM hRm => ?_)
  have he := hen.1
  have hh := hen.2
  have hhs := hh sp
  refine vx_iload_n hC 1 rfl eX5_readSingle_0 ?_
  refine vx_iconst hC eX5_readSingle_1 ?_
  refine vx_icmp_lt hC (tgt := 10) (by omega) (by decide) eX5_readSingle_2 (fun c1 => ?_) (fun c1 => absurd c1 (by omega))
  refine vx_aload_n hC 0 rfl eX5_readSingle_10 ?_
  refine vx_bipush hC (by decide) eX5_readSingle_11 ?_
  refine vx_callV_i hC (kX5_take G d _ _ _ _ _ hO h u en sp h2 h1 hr0 hen htp (by omega) 33 (by omega)) ly_X5_51 (ot_26 hO) rfl rfl rfl hRm (by omega) (Nat.le_of_ble_eq_true rfl) rfl eX5_readSingle_13 (fun x2 ng3 tg3 ag3 bg3 cg3 hg3 => ?_)
  obtain ⟨hx2, qg3_0, qg3_1, qg3_2, qg3_3, qg3_4, rfl, rfl, rfl, rfl, frg3⟩ := hg3
  have qg3_0b : ag3 26 2 = sp + x2 := by first | exact qg3_0 | rw [qg3_0, h2] | (rw [qg3_0]; exact h2)
  have qg3_1b : ag3 26 1 = en := by first | exact qg3_1 | rw [qg3_1, h1] | (rw [qg3_1]; exact h1)
  have qg3_3b : ag3 26 7 = (L.length : Int) := by first | exact qg3_3 | rw [qg3_3, h7] | (rw [qg3_3]; exact h7)
  have frvig3 : ∀ k : Nat, (¬ k = 26 ∧ ¬ k = 29) → ag3 k = vi k := fun k hk => (frg3 k (by omega))
  obtain ⟨sp4, hsp4⟩ : ∃ z : Int, z = sp + x2 := ⟨_, rfl⟩
  have esp4 : ag3 26 2 = sp4 := by rw [hsp4]; exact qg3_0b
  have hbsp4 := hh sp
  have cd5 : cdR (ag3 29) L := by rw [frg3 29 (by omega)]; exact hcd
  refine vx_if_eq hC (tgt := 38) (by omega) (by decide) eX5_readSingle_16 (fun c6 => ?_) (fun c6 => ?_)
  · have es7 : ag3 26 2 = sp := by first | (rw [esp4]; done) | (rw [esp4]; omega)
    refine vx_aload_n hC 0 rfl eX5_readSingle_38 ?_
    refine vx_bipush hC (by decide) eX5_readSingle_39 ?_
    refine vx_callV_i hC (kX5_take G d _ _ _ _ _ hO h u en sp es7 qg3_1b hr0 hen (fun z z1 z2 => by rw [frvig3 2 (by omega)]; exact htp z z1 z2) (by omega) 40 (by omega)) ly_X5_51 (ot_26 hO) rfl rfl rfl hRm (by omega) (Nat.le_of_ble_eq_true rfl) rfl eX5_readSingle_41 (fun x8 ng9 tg9 ag9 bg9 cg9 hg9 => ?_)
    obtain ⟨hx8, qg9_0, qg9_1, qg9_2, qg9_3, qg9_4, rfl, rfl, rfl, rfl, frg9⟩ := hg9
    have qg9_0b : ag9 26 2 = sp + x8 := by first | exact qg9_0 | rw [qg9_0, es7] | (rw [qg9_0]; exact es7)
    have qg9_1b : ag9 26 1 = en := by first | exact qg9_1 | rw [qg9_1, qg3_1b] | (rw [qg9_1]; exact qg3_1b)
    have qg9_2b : ag9 26 5 = vi 26 5 := by first | exact qg9_2 | rw [qg9_2, qg3_2] | (rw [qg9_2]; exact qg3_2)
    have qg9_3b : ag9 26 7 = (L.length : Int) := by first | exact qg9_3 | rw [qg9_3, qg3_3b] | (rw [qg9_3]; exact qg3_3b)
    have qg9_4b : ag9 26 8 = vi 26 8 := by first | exact qg9_4 | rw [qg9_4, qg3_4] | (rw [qg9_4]; exact qg3_4)
    have frvig9 : ∀ k : Nat, (¬ k = 26 ∧ ¬ k = 29) → ag9 k = vi k := fun k hk => (frg9 k (by omega)).trans (frvig3 k hk)
    obtain ⟨sp10, hsp10⟩ : ∃ z : Int, z = sp + x8 := ⟨_, rfl⟩
    have esp10 : ag9 26 2 = sp10 := by rw [hsp10]; exact qg9_0b
    have hbsp10 := hh sp
    have cd11 : cdR (ag9 29) L := by rw [frg9 29 (by omega)]; exact cd5
    refine vx_if_eq hC (tgt := 72) (by omega) (by decide) eX5_readSingle_44 (fun c12 => ?_) (fun c12 => ?_)
    · have es13 : ag9 26 2 = sp := by first | (rw [esp10]; done) | (rw [esp10]; omega)
      refine vx_aload_n hC 0 rfl eX5_readSingle_72 ?_
      refine vx_callV_i hC (kX5_readTest G d _ _ _ _ _ hO h u en sp es13 qg9_1b hr0 hen (fun z z1 z2 => by rw [frvig9 2 (by omega)]; exact htp z z1 z2) (by omega) L qg9_3b cd11 (by omega)) ly_X5_116 (ot_26 hO) rfl rfl rfl hRm (by omega) (Nat.le_of_ble_eq_true rfl) rfl eX5_readSingle_73 (fun x14 ng15 tg15 ag15 bg15 cg15 hg15 => ?_)
      obtain ⟨hx14, qg15_0, qg15_1, qg15_2, qg15_3, qg15_4, qg15_5, rfl, rfl, rfl, rfl, frg15⟩ := hg15
      have qg15_2b : ag15 26 2 = (pTest h sp).2.1 := by first | exact qg15_2 | rw [qg15_2, es13] | (rw [qg15_2]; exact es13)
      have qg15_3b : ag15 26 1 = en := by first | exact qg15_3 | rw [qg15_3, qg9_1b] | (rw [qg15_3]; exact qg9_1b)
      have qg15_4b : ag15 26 5 = vi 26 5 := by first | exact qg15_4 | rw [qg15_4, qg9_2b] | (rw [qg15_4]; exact qg9_2b)
      have qg15_0b : ag15 26 7 = ((L ++ (pTest h sp).2.2).length : Int) := by first | exact qg15_0 | rw [qg15_0, qg9_3b] | (rw [qg15_0]; exact qg9_3b)
      have qg15_5b : ag15 26 8 = vi 26 8 := by first | exact qg15_5 | rw [qg15_5, qg9_4b] | (rw [qg15_5]; exact qg9_4b)
      have frvig15 : ∀ k : Nat, (¬ k = 26 ∧ ¬ k = 29) → ag15 k = vi k := fun k hk => (frg15 k (by omega)).trans (frvig9 k hk)
      obtain ⟨L16, hL16⟩ : ∃ z : List Int, z = L ++ (pTest h sp).2.2 := ⟨_, rfl⟩
      have lL16 : ag15 26 7 = (L16.length : Int) := by rw [hL16]; exact qg15_0b
      have cL16 : cdR (ag15 29) L16 := by rw [hL16]; exact qg15_1
      obtain ⟨sp17, hsp17⟩ : ∃ z : Int, z = (pTest h sp).2.1 := ⟨_, rfl⟩
      have esp17 : ag15 26 2 = sp17 := by rw [hsp17]; exact qg15_2b
      have hosp17 := pTest_ok hen (sp := sp) (by omega)
      have hzx14 : x14 = 0 ∨ x14 = 1 := by rw [hx14]; exact hosp17.1
      have hE : pF h (k + 1) sp = pTest h sp := pF_tst (by omega) (by omega)
      have hLf : L16 = L ++ (pTest h sp).2.2 := hL16
      exact vx_iret hC hM (by first | decide | exact xn_bz (by omega)) eX5_readSingle_76 (⟨_, rfl, (by rw [hE]; exact hx14), (by rw [hE]; show _ = ((L ++ (pTest h sp).2.2).length : Int); rw [← hLf]; exact lL16), (by rw [hE]; show cdR _ (L ++ (pTest h sp).2.2); rw [← hLf]; exact cL16), (by rw [hE]; exact (by show _ = (pTest h sp).2.1; rw [esp17]; exact hsp17)), qg15_3b, qg15_4b, qg15_5b, rfl, rfl, rfl, rfl, fun k hk => frvig15 k (by omega)⟩)
    · have es18 : ag9 26 2 = (sp + 1) := by first | (rw [esp10]; done) | (rw [esp10]; omega)
      refine vx_aload_n hC 0 rfl eX5_readSingle_47 ?_
      refine vx_iload_n hC 1 rfl eX5_readSingle_48 ?_
      refine vx_iconst hC eX5_readSingle_49 ?_
      refine vx_iadd hC eX5_readSingle_50 ?_
      refine vx_callV_i hC (hS d _ _ _ _ _ hO (sp + 1) L es18 qg9_1b hr0 (fun z z1 z2 => by rw [frvig9 2 (by omega)]; exact htp z z1 z2) (by omega) qg9_3b cd11 (by omega)) ly_X5_95 (ot_26 hO) rfl rfl rfl hRm (by omega) (Nat.le_of_ble_eq_true rfl) rfl eX5_readSingle_51 (fun x19 ng20 tg20 ag20 bg20 cg20 hg20 => ?_)
      obtain ⟨hx19, qg20_0, qg20_1, qg20_2, qg20_3, qg20_4, qg20_5, rfl, rfl, rfl, rfl, frg20⟩ := hg20
      have qg20_2b : ag20 26 2 = (pEx (pF h k) h (sp + 1)).2.1 := by first | exact qg20_2 | rw [qg20_2, es18] | (rw [qg20_2]; exact es18)
      have qg20_3b : ag20 26 1 = en := by first | exact qg20_3 | rw [qg20_3, qg9_1b] | (rw [qg20_3]; exact qg9_1b)
      have qg20_4b : ag20 26 5 = vi 26 5 := by first | exact qg20_4 | rw [qg20_4, qg9_2b] | (rw [qg20_4]; exact qg9_2b)
      have qg20_0b : ag20 26 7 = ((L ++ (pEx (pF h k) h (sp + 1)).2.2).length : Int) := by first | exact qg20_0 | rw [qg20_0, qg9_3b] | (rw [qg20_0]; exact qg9_3b)
      have qg20_5b : ag20 26 8 = vi 26 8 := by first | exact qg20_5 | rw [qg20_5, qg9_4b] | (rw [qg20_5]; exact qg9_4b)
      have frvig20 : ∀ k : Nat, (¬ k = 26 ∧ ¬ k = 29) → ag20 k = vi k := fun k hk => (frg20 k (by omega)).trans (frvig9 k hk)
      obtain ⟨L21, hL21⟩ : ∃ z : List Int, z = L ++ (pEx (pF h k) h (sp + 1)).2.2 := ⟨_, rfl⟩
      have lL21 : ag20 26 7 = (L21.length : Int) := by rw [hL21]; exact qg20_0b
      have cL21 : cdR (ag20 29) L21 := by rw [hL21]; exact qg20_1
      obtain ⟨sp22, hsp22⟩ : ∃ z : Int, z = (pEx (pF h k) h (sp + 1)).2.1 := ⟨_, rfl⟩
      have esp22 : ag20 26 2 = sp22 := by rw [hsp22]; exact qg20_2b
      obtain ⟨o1sp22, o2sp22, o3sp22, o4sp22, o5sp22⟩ := (pEx_ok hen (pF_ok hen k)) (sp + 1) (by omega)
      have nL21 : (L21.length : Int) = (L.length : Int) + ((pEx (pF h k) h (sp + 1)).2.2.length : Int) := by rw [hL21, List.length_append]; omega
      refine vx_if_eq hC (tgt := 70) (by omega) (by decide) eX5_readSingle_54 (fun c23 => ?_) (fun c23 => ?_)
      · refine vx_iconst hC eX5_readSingle_70 ?_
        have hE := pF_par (h := h) (k := k) (sp := sp) (by omega) o1sp22
        have hLf : L21 = L ++ (pEx (pF h k) h (sp + 1)).2.2 := hL21
        have hM1 : pMw h 41 (1 - (pEx (pF h k) h (sp + 1)).1) (pEx (pF h k) h (sp + 1)).2.1 = 1 - 0 ∧ pMs h 41 (1 - (pEx (pF h k) h (sp + 1)).1) (pEx (pF h k) h (sp + 1)).2.1 = sp22 := by rw [← hsp22]; unfold pMw pMs; first | (rw [if_pos (by omega), if_pos (by omega)]; omega) | (rw [if_neg (by omega), if_neg (by omega)]; omega)
        rw [hM1.1, hM1.2] at hE
        exact vx_iret hC hM (by first | decide | exact xn_bz (by omega)) eX5_readSingle_71 (⟨_, rfl, (by rw [hE]; show _ = 1 - (1 - _); omega), (by rw [hE]; show _ = ((L ++ (pEx (pF h k) h (sp + 1)).2.2).length : Int); rw [← hLf]; exact lL21), (by rw [hE]; show cdR _ (L ++ (pEx (pF h k) h (sp + 1)).2.2); rw [← hLf]; exact cL21), (by rw [hE]; exact esp22), qg20_3b, qg20_4b, qg20_5b, rfl, rfl, rfl, rfl, fun k hk => frvig20 k (by omega)⟩)
      · refine vx_aload_n hC 0 rfl eX5_readSingle_57 ?_
        refine vx_bipush hC (by decide) eX5_readSingle_58 ?_
        refine vx_callV_i hC (kX5_take G d _ _ _ _ _ hO h u en sp22 esp22 qg20_3b hr0 hen (fun z z1 z2 => by rw [frvig20 2 (by omega)]; exact htp z z1 z2) (by omega) 41 (by omega)) ly_X5_51 (ot_26 hO) rfl rfl rfl hRm (by omega) (Nat.le_of_ble_eq_true rfl) rfl eX5_readSingle_60 (fun x24 ng25 tg25 ag25 bg25 cg25 hg25 => ?_)
        obtain ⟨hx24, qg25_0, qg25_1, qg25_2, qg25_3, qg25_4, rfl, rfl, rfl, rfl, frg25⟩ := hg25
        have qg25_0b : ag25 26 2 = sp22 + x24 := by first | exact qg25_0 | rw [qg25_0, esp22] | (rw [qg25_0]; exact esp22)
        have qg25_1b : ag25 26 1 = en := by first | exact qg25_1 | rw [qg25_1, qg20_3b] | (rw [qg25_1]; exact qg20_3b)
        have qg25_2b : ag25 26 5 = vi 26 5 := by first | exact qg25_2 | rw [qg25_2, qg20_4b] | (rw [qg25_2]; exact qg20_4b)
        have qg25_3b : ag25 26 7 = (L21.length : Int) := by first | exact qg25_3 | rw [qg25_3, lL21] | (rw [qg25_3]; exact lL21)
        have qg25_4b : ag25 26 8 = vi 26 8 := by first | exact qg25_4 | rw [qg25_4, qg20_5b] | (rw [qg25_4]; exact qg20_5b)
        have frvig25 : ∀ k : Nat, (¬ k = 26 ∧ ¬ k = 29) → ag25 k = vi k := fun k hk => (frg25 k (by omega)).trans (frvig20 k hk)
        obtain ⟨sp26, hsp26⟩ : ∃ z : Int, z = sp22 + x24 := ⟨_, rfl⟩
        have esp26 : ag25 26 2 = sp26 := by rw [hsp26]; exact qg25_0b
        have hbsp26 := hh sp22
        have cd27 : cdR (ag25 29) L21 := by rw [frg25 29 (by omega)]; exact cL21
        refine vx_if_eq hC (tgt := 70) (by omega) (by decide) eX5_readSingle_63 (fun c28 => ?_) (fun c28 => ?_)
        · refine vx_iconst hC eX5_readSingle_70 ?_
          have hE := pF_par (h := h) (k := k) (sp := sp) (by omega) o1sp22
          have hLf : L21 = L ++ (pEx (pF h k) h (sp + 1)).2.2 := hL21
          have hM1 : pMw h 41 (1 - (pEx (pF h k) h (sp + 1)).1) (pEx (pF h k) h (sp + 1)).2.1 = 1 - 0 ∧ pMs h 41 (1 - (pEx (pF h k) h (sp + 1)).1) (pEx (pF h k) h (sp + 1)).2.1 = sp26 := by rw [← hsp22]; unfold pMw pMs; first | (rw [if_pos (by omega), if_pos (by omega)]; omega) | (rw [if_neg (by omega), if_neg (by omega)]; omega)
          rw [hM1.1, hM1.2] at hE
          exact vx_iret hC hM (by first | decide | exact xn_bz (by omega)) eX5_readSingle_71 (⟨_, rfl, (by rw [hE]; show _ = 1 - (1 - _); omega), (by rw [hE]; show _ = ((L ++ (pEx (pF h k) h (sp + 1)).2.2).length : Int); rw [← hLf]; exact qg25_3b), (by rw [hE]; show cdR _ (L ++ (pEx (pF h k) h (sp + 1)).2.2); rw [← hLf]; exact cd27), (by rw [hE]; exact esp26), qg25_1b, qg25_2b, qg25_4b, rfl, rfl, rfl, rfl, fun k hk => frvig25 k (by omega)⟩)
        · refine vx_iconst hC eX5_readSingle_66 ?_
          refine vx_goto hC (tgt := 71) (by decide) eX5_readSingle_67 ?_
          have hE := pF_par (h := h) (k := k) (sp := sp) (by omega) o1sp22
          have hLf : L21 = L ++ (pEx (pF h k) h (sp + 1)).2.2 := hL21
          have hM1 : pMw h 41 (1 - (pEx (pF h k) h (sp + 1)).1) (pEx (pF h k) h (sp + 1)).2.1 = 1 - 1 ∧ pMs h 41 (1 - (pEx (pF h k) h (sp + 1)).1) (pEx (pF h k) h (sp + 1)).2.1 = sp26 := by rw [← hsp22]; unfold pMw pMs; first | (rw [if_pos (by omega), if_pos (by omega)]; omega) | (rw [if_neg (by omega), if_neg (by omega)]; omega)
          rw [hM1.1, hM1.2] at hE
          exact vx_iret hC hM (by first | decide | exact xn_bz (by omega)) eX5_readSingle_71 (⟨_, rfl, (by rw [hE]; show _ = 1 - (1 - _); omega), (by rw [hE]; show _ = ((L ++ (pEx (pF h k) h (sp + 1)).2.2).length : Int); rw [← hLf]; exact qg25_3b), (by rw [hE]; show cdR _ (L ++ (pEx (pF h k) h (sp + 1)).2.2); rw [← hLf]; exact cd27), (by rw [hE]; exact esp26), qg25_1b, qg25_2b, qg25_4b, rfl, rfl, rfl, rfl, fun k hk => frvig25 k (by omega)⟩)
  · have es29 : ag3 26 2 = (sp + 1) := by first | (rw [esp4]; done) | (rw [esp4]; omega)
    refine vx_aload_n hC 0 rfl eX5_readSingle_19 ?_
    refine vx_iload_n hC 1 rfl eX5_readSingle_20 ?_
    refine vx_iconst hC eX5_readSingle_21 ?_
    refine vx_iadd hC eX5_readSingle_22 ?_
    refine vx_callV_i hC (hF d _ _ _ _ _ hO (sp + 1) L es29 qg3_1b hr0 (fun z z1 z2 => by rw [frvig3 2 (by omega)]; exact htp z z1 z2) (by omega) qg3_3b cd5 (by omega)) ly_X5_109 (ot_26 hO) rfl rfl rfl hRm (by omega) (Nat.le_of_ble_eq_true rfl) rfl eX5_readSingle_23 (fun x30 ng31 tg31 ag31 bg31 cg31 hg31 => ?_)
    obtain ⟨hx30, qg31_0, qg31_1, qg31_2, qg31_3, qg31_4, qg31_5, rfl, rfl, rfl, rfl, frg31⟩ := hg31
    have qg31_2b : ag31 26 2 = (pF h k (sp + 1)).2.1 := by first | exact qg31_2 | rw [qg31_2, es29] | (rw [qg31_2]; exact es29)
    have qg31_3b : ag31 26 1 = en := by first | exact qg31_3 | rw [qg31_3, qg3_1b] | (rw [qg31_3]; exact qg3_1b)
    have qg31_4b : ag31 26 5 = vi 26 5 := by first | exact qg31_4 | rw [qg31_4, qg3_2] | (rw [qg31_4]; exact qg3_2)
    have qg31_0b : ag31 26 7 = ((L ++ (pF h k (sp + 1)).2.2).length : Int) := by first | exact qg31_0 | rw [qg31_0, qg3_3b] | (rw [qg31_0]; exact qg3_3b)
    have qg31_5b : ag31 26 8 = vi 26 8 := by first | exact qg31_5 | rw [qg31_5, qg3_4] | (rw [qg31_5]; exact qg3_4)
    have frvig31 : ∀ k : Nat, (¬ k = 26 ∧ ¬ k = 29) → ag31 k = vi k := fun k hk => (frg31 k (by omega)).trans (frvig3 k hk)
    obtain ⟨L32, hL32⟩ : ∃ z : List Int, z = L ++ (pF h k (sp + 1)).2.2 := ⟨_, rfl⟩
    have lL32 : ag31 26 7 = (L32.length : Int) := by rw [hL32]; exact qg31_0b
    have cL32 : cdR (ag31 29) L32 := by rw [hL32]; exact qg31_1
    obtain ⟨sp33, hsp33⟩ : ∃ z : Int, z = (pF h k (sp + 1)).2.1 := ⟨_, rfl⟩
    have esp33 : ag31 26 2 = sp33 := by rw [hsp33]; exact qg31_2b
    obtain ⟨o1sp33, o2sp33, o3sp33, o4sp33, o5sp33⟩ := (pF_ok hen k) (sp + 1) (by omega)
    have nL32 : (L32.length : Int) = (L.length : Int) + ((pF h k (sp + 1)).2.2.length : Int) := by rw [hL32, List.length_append]; omega
    refine vx_if_ne hC (tgt := 31) (by omega) (by decide) eX5_readSingle_26 (fun c34 => ?_) (fun c34 => ?_)
    · refine vx_aload_n hC 0 rfl eX5_readSingle_31 ?_
      refine vx_iconst hC eX5_readSingle_32 ?_
      refine vx_callV_v hC (kX5_put G d _ _ _ _ _ hO L32 lL32 cL32 (by omega) (-1) (-1) (rfl)) ly_X5_112 (ot_26 hO) rfl rfl rfl hRm (by omega) (Nat.le_of_ble_eq_true rfl) rfl eX5_readSingle_33 (fun ng36 tg36 ag36 bg36 cg36 hg36 => ?_)
      obtain ⟨qg36_0, qg36_1, qg36_2, qg36_3, qg36_4, qg36_5, rfl, rfl, rfl, rfl, frg36⟩ := hg36
      have qg36_2b : ag36 26 2 = sp33 := by first | exact qg36_2 | rw [qg36_2, esp33] | (rw [qg36_2]; exact esp33)
      have qg36_3b : ag36 26 1 = en := by first | exact qg36_3 | rw [qg36_3, qg31_3b] | (rw [qg36_3]; exact qg31_3b)
      have qg36_4b : ag36 26 5 = vi 26 5 := by first | exact qg36_4 | rw [qg36_4, qg31_4b] | (rw [qg36_4]; exact qg31_4b)
      have qg36_0b : ag36 26 7 = ((L32 ++ [-1]).length : Int) := by first | exact qg36_0 | rw [qg36_0, lL32] | (rw [qg36_0]; exact lL32)
      have qg36_5b : ag36 26 8 = vi 26 8 := by first | exact qg36_5 | rw [qg36_5, qg31_5b] | (rw [qg36_5]; exact qg31_5b)
      have frvig36 : ∀ k : Nat, (¬ k = 26 ∧ ¬ k = 29) → ag36 k = vi k := fun k hk => (frg36 k (by omega)).trans (frvig31 k hk)
      obtain ⟨L37, hL37⟩ : ∃ z : List Int, z = L32 ++ [-1] := ⟨_, rfl⟩
      have lL37 : ag36 26 7 = (L37.length : Int) := by rw [hL37]; exact qg36_0b
      have cL37 : cdR (ag36 29) L37 := by rw [hL37]; exact qg36_1
      obtain ⟨sp38, hsp38⟩ : ∃ z : Int, z = sp33 := ⟨_, rfl⟩
      have esp38 : ag36 26 2 = sp38 := by rw [hsp38]; exact qg36_2b
      have nL37 : (L37.length : Int) = (L32.length : Int) + 1 := by rw [hL37, List.length_append]; simp
      refine vx_iconst hC eX5_readSingle_36 ?_
      have hE := pF_not (h := h) (k := k) (sp := sp) (by omega) o1sp33
      rw [show (pF h k (sp + 1)).1 = 1 by omega, show pE (1 - 1) (pF h k (sp + 1)).2.2 (-1) = (pF h k (sp + 1)).2.2 ++ [-1] from rfl] at hE
      have hLf : L37 = L ++ ((pF h k (sp + 1)).2.2 ++ [-1]) := by rw [hL37, hL32, List.append_assoc]
      exact vx_iret hC hM (by first | decide | exact xn_bz (by omega)) eX5_readSingle_37 (⟨_, rfl, (by rw [hE]), (by rw [hE]; show _ = ((L ++ ((pF h k (sp + 1)).2.2 ++ [-1])).length : Int); rw [← hLf]; exact lL37), (by rw [hE]; show cdR _ (L ++ ((pF h k (sp + 1)).2.2 ++ [-1])); rw [← hLf]; exact cL37), (by rw [hE]; exact (by show _ = (pF h k (sp + 1)).2.1; rw [esp38, hsp38]; exact hsp33)), qg36_3b, qg36_4b, qg36_5b, rfl, rfl, rfl, rfl, fun k hk => frvig36 k (by omega)⟩)
    · refine vx_iconst hC eX5_readSingle_29 ?_
      have hE := pF_not (h := h) (k := k) (sp := sp) (by omega) o1sp33
      rw [show (pF h k (sp + 1)).1 = 0 by omega, show pE (1 - 0) (pF h k (sp + 1)).2.2 (-1) = (pF h k (sp + 1)).2.2 from rfl] at hE
      have hLf : L32 = L ++ (pF h k (sp + 1)).2.2 := hL32
      exact vx_iret hC hM (by first | decide | exact xn_bz (by omega)) eX5_readSingle_30 (⟨_, rfl, (by rw [hE]), (by rw [hE]; show _ = ((L ++ (pF h k (sp + 1)).2.2).length : Int); rw [← hLf]; exact lL32), (by rw [hE]; show cdR _ (L ++ (pF h k (sp + 1)).2.2); rw [← hLf]; exact cL32), (by rw [hE]; exact (by show _ = (pF h k (sp + 1)).2.1; rw [esp33]; exact hsp33)), qg31_3b, qg31_4b, qg31_5b, rfl, rfl, rfl, rfl, fun k hk => frvig31 k (by omega)⟩)
set_option maxHeartbeats 4000000 in
set_option maxRecDepth 100000 in
theorem kX5_eitherS (G : xg_T) (h u : Int → Int) (en : Int) (hen : pH h u en) (op : Int) (ky b : Nat) (hky : 8 ≤ ky) (F : Int → pr_T) (hP : ∀ sp, 0 ≤ sp ∧ sp ≤ en → pOK en b sp (F sp)) (hF : FR G yX5_readSingle cX5_readSingle 2 (ky) h en op (F)) : FR G yX5_readEither cX5_readEither 4 (ky + 1) h en op (pEx F h) := by
  unfold FR
  intro d n tau vi vl vr hO sp L h2 h1 hr0 htp hsp h7 hcd hL
  refine xm.of (lv := [(0, xa_r 26), (1, xa_i op)]) (by decide) (Nat.le_of_ble_eq_true rfl) rfl (fun K hC hM hRm => ?_)
  have he := hen.1
  have hh := hen.2
  have hhs := hh sp
  refine vx_iconst hC eX5_readEither_0 ?_
  refine vx_istore_n hC (lv1 := [(2, xa_i 0), (0, xa_r 26), (1, xa_i op)]) (by decide) rfl eX5_readEither_1 ?_
  have LP2 : ∀ (j : Nat) (ct : Nat) (ts : Int) (sp1 : Int) (acc : List Int) (La : List Int) (m2 : Nat → Int → Int) (hts : 0 ≤ ts ∧ 3 * ts ≤ sp1 - sp ∧ sp1 ≤ en) (hc : en - sp1 < (ct : Int)) (hac : (acc.length : Int) ≤ sp1 - sp ∧ (1 ≤ ts → (acc.length : Int) + 1 ≤ sp1 - sp)) (hLa : La = L ++ acc) (hres : (if (pTm F h sp1).1 = 0 then (0, (pTm F h sp1).2.1, acc ++ (pTm F h sp1).2.2) else pLoop (pTm F h) h 124 (-3) ct (pTm F h sp1).2.1 (acc ++ (pTm F h sp1).2.2 ++ (if ts = 0 then [] else [-3]))) = pEx F h sp) (ea0 : m2 26 2 = sp1) (ea1 : m2 26 1 = en) (ea2 : m2 26 5 = vi 26 5) (ea3 : m2 26 7 = (La.length : Int)) (ea4 : m2 26 8 = vi 26 8) (cda : cdR (m2 29) La) (fra : ∀ k : Nat, (¬ k = 26 ∧ ¬ k = 29) → m2 k = vi k) (hj : (ct : Int) < (j : Int)), xv G K 4 (xk_Q G K (xp_i (fun z9 n1 t1 a1 b1 c1 => (z9 = ((pEx F h) sp).1) ∧ (a1 26 7 = ((L ++ ((pEx F h) sp).2.2).length : Int)) ∧ (cdR (a1 29) (L ++ ((pEx F h) sp).2.2)) ∧ (a1 26 2 = ((pEx F h) sp).2.1) ∧ (a1 26 1 = en) ∧ (a1 26 5 = vi 26 5) ∧ (a1 26 8 = vi 26 8) ∧ xs_I (fun k => ¬ k = 26 ∧ ¬ k = 29) n tau vi vl vr n1 t1 a1 b1 c1)) 0 0) 0 0 n tau m2 vl vr 2 [(2, xa_i ts), (0, xa_r 26), (1, xa_i op)] [] := by
    intro j
    induction j with
    | zero => intro ct ts sp1 acc La m2 hts hc hac hLa hres ea0 ea1 ea2 ea3 ea4 cda fra hj; exfalso; omega
    | succ j ihA =>
      intro ct ts sp1 acc La m2 hts hc hac hLa hres ea0 ea1 ea2 ea3 ea4 cda fra hj
      have hlla : (La.length : Int) = (L.length : Int) + (acc.length : Int) := by rw [hLa, List.length_append]; omega
      refine vx_iload_n hC 0 rfl eX5_readEither_2 ?_
      refine vx_bipush hC (by decide) eX5_readEither_3 ?_
      refine vx_icmp_ge hC (tgt := 82) (by omega) (by decide) eX5_readEither_5 (fun c1 => absurd c1 (by omega)) (fun c1 => ?_)
      refine vx_iconst hC eX5_readEither_8 ?_
      refine vx_istore_n hC (lv1 := [(3, xa_i 0), (2, xa_i ts), (0, xa_r 26), (1, xa_i op)]) (by decide) rfl eX5_readEither_9 ?_
      have LP10 : ∀ (j : Nat) (cu : Nat) (fs : Int) (sp2 : Int) (acc2 : List Int) (Lb : List Int) (m3 : Nat → Int → Int) (hfs : 0 ≤ fs ∧ 3 * fs ≤ sp2 - sp1 ∧ sp1 ≤ sp2 ∧ sp2 ≤ en) (hc2 : cu ≤ 102 ∧ (fs = 0 → cu = 102)) (hac2 : (acc2.length : Int) ≤ sp2 - sp1) (hLb : Lb = La ++ acc2) (hiv : (fs = 0 ∧ sp2 = sp1 ∧ acc2 = []) ∨ (1 ≤ fs ∧ en - sp2 < (cu : Int) ∧ pLoop F h 38 (-2) cu sp2 acc2 = pTm F h sp1)) (eb0 : m3 26 2 = sp2) (eb1 : m3 26 1 = en) (eb2 : m3 26 5 = vi 26 5) (eb3 : m3 26 7 = (Lb.length : Int)) (eb4 : m3 26 8 = vi 26 8) (cdb : cdR (m3 29) Lb) (frb : ∀ k : Nat, (¬ k = 26 ∧ ¬ k = 29) → m3 k = vi k) (hj : (cu : Int) < (j : Int)), xv G K 4 (xk_Q G K (xp_i (fun z9 n1 t1 a1 b1 c1 => (z9 = ((pEx F h) sp).1) ∧ (a1 26 7 = ((L ++ ((pEx F h) sp).2.2).length : Int)) ∧ (cdR (a1 29) (L ++ ((pEx F h) sp).2.2)) ∧ (a1 26 2 = ((pEx F h) sp).2.1) ∧ (a1 26 1 = en) ∧ (a1 26 5 = vi 26 5) ∧ (a1 26 8 = vi 26 8) ∧ xs_I (fun k => ¬ k = 26 ∧ ¬ k = 29) n tau vi vl vr n1 t1 a1 b1 c1)) 0 0) 0 0 n tau m3 vl vr 10 [(3, xa_i fs), (2, xa_i ts), (0, xa_r 26), (1, xa_i op)] [] := by
        intro j
        induction j with
        | zero => intro cu fs sp2 acc2 Lb m3 hfs hc2 hac2 hLb hiv eb0 eb1 eb2 eb3 eb4 cdb frb hj; exfalso; omega
        | succ j ihB =>
          intro cu fs sp2 acc2 Lb m3 hfs hc2 hac2 hLb hiv eb0 eb1 eb2 eb3 eb4 cdb frb hj
          have hllb : (Lb.length : Int) = (La.length : Int) + (acc2.length : Int) := by rw [hLb, List.length_append]; omega
          refine vx_iload_n hC 0 rfl eX5_readEither_10 ?_
          refine vx_if_eq hC (tgt := 29) (by omega) (by decide) eX5_readEither_11 (fun c2 => ?_) (fun c2 => ?_)
          · have hiw : sp2 = sp1 ∧ acc2 = [] := by rcases hiv with h9 | h9; exact ⟨h9.2.1, h9.2.2⟩; omega
            have es3 : m3 26 2 = sp1 := by first | (rw [eb0]; done) | (rw [eb0]; omega)
            refine vx_aload_n hC 2 rfl eX5_readEither_29 ?_
            refine vx_iload_n hC 3 rfl eX5_readEither_30 ?_
            refine vx_callV_i hC (hF d _ _ _ _ _ hO sp1 Lb es3 eb1 hr0 (fun z z1 z2 => by rw [frb 2 (by omega)]; exact htp z z1 z2) (by omega) eb3 cdb (by omega)) ly_X5_109 (ot_26 hO) rfl rfl rfl hRm (by omega) (Nat.le_of_ble_eq_true rfl) rfl eX5_readEither_31 (fun x4 ng5 tg5 ag5 bg5 cg5 hg5 => ?_)
            obtain ⟨hx4, qg5_0, qg5_1, qg5_2, qg5_3, qg5_4, qg5_5, rfl, rfl, rfl, rfl, frg5⟩ := hg5
            have qg5_2b : ag5 26 2 = (F sp1).2.1 := by first | exact qg5_2 | rw [qg5_2, es3] | (rw [qg5_2]; exact es3)
            have qg5_3b : ag5 26 1 = en := by first | exact qg5_3 | rw [qg5_3, eb1] | (rw [qg5_3]; exact eb1)
            have qg5_4b : ag5 26 5 = vi 26 5 := by first | exact qg5_4 | rw [qg5_4, eb2] | (rw [qg5_4]; exact eb2)
            have qg5_0b : ag5 26 7 = ((Lb ++ (F sp1).2.2).length : Int) := by first | exact qg5_0 | rw [qg5_0, eb3] | (rw [qg5_0]; exact eb3)
            have qg5_5b : ag5 26 8 = vi 26 8 := by first | exact qg5_5 | rw [qg5_5, eb4] | (rw [qg5_5]; exact eb4)
            have frvig5 : ∀ k : Nat, (¬ k = 26 ∧ ¬ k = 29) → ag5 k = vi k := fun k hk => (frg5 k (by omega)).trans (frb k hk)
            obtain ⟨L6, hL6⟩ : ∃ z : List Int, z = Lb ++ (F sp1).2.2 := ⟨_, rfl⟩
            have lL6 : ag5 26 7 = (L6.length : Int) := by rw [hL6]; exact qg5_0b
            have cL6 : cdR (ag5 29) L6 := by rw [hL6]; exact qg5_1
            obtain ⟨sp7, hsp7⟩ : ∃ z : Int, z = (F sp1).2.1 := ⟨_, rfl⟩
            have esp7 : ag5 26 2 = sp7 := by rw [hsp7]; exact qg5_2b
            obtain ⟨o1sp7, o2sp7, o3sp7, o4sp7, o5sp7⟩ := hP sp1 (by omega)
            have nL6 : (L6.length : Int) = (Lb.length : Int) + ((F sp1).2.2.length : Int) := by rw [hL6, List.length_append]; omega
            refine vx_if_ne hC (tgt := 39) (by omega) (by decide) eX5_readEither_34 (fun c8 => ?_) (fun c8 => ?_)
            · refine vx_iload_n hC 0 rfl eX5_readEither_39 ?_
              refine vx_if_le hC (tgt := 49) (by omega) (by decide) eX5_readEither_40 (fun c9 => ?_) (fun c9 => absurd c9 (by omega))
              have hLn2 : L6 = La ++ (F sp1).2.2 := by rw [hL6, hLb, hiw.2, List.append_nil]
              have hiv2 : (fs + 1 = 0 ∧ sp7 = sp1 ∧ (F sp1).2.2 = []) ∨ (1 ≤ fs + 1 ∧ en - sp7 < ((101 : Nat) : Int) ∧ pLoop F h 38 (-2) 101 sp7 (F sp1).2.2 = pTm F h sp1) := by
                right; refine ⟨by omega, by omega, ?_⟩; rw [hsp7]; show _ = pSeq F h 38 (-2) sp1; unfold pSeq; rw [if_neg (by omega)]
              refine vx_iinc hC (lv1 := [(3, xa_i (fs + 1)), (2, xa_i ts), (0, xa_r 26), (1, xa_i op)]) 0 rfl (by decide) rfl eX5_readEither_49 ?_
              refine vx_goto hC (tgt := 10) (by decide) eX5_readEither_52 ?_
              exact ihB 101 (fs + 1) sp7 (F sp1).2.2 L6 ag5 (by omega) (by omega) (by omega) hLn2 hiv2 esp7 qg5_3b qg5_4b lL6 qg5_5b cL6 frvig5 (by omega)
            · refine vx_iconst hC eX5_readEither_37 ?_
              have hPT : pTm F h sp1 = F sp1 := by show pSeq F h 38 (-2) sp1 = _; unfold pSeq; rw [if_pos (by omega)]
              have hE : pEx F h sp = (0, (F sp1).2.1, acc ++ (F sp1).2.2) := by rw [← hres, hPT, if_pos (by omega)]
              have hLf : L6 = L ++ (acc ++ (F sp1).2.2) := by rw [hL6, hLb, hiw.2, List.append_nil, hLa, List.append_assoc]
              exact vx_iret hC hM (by first | decide | exact xn_bz (by omega)) eX5_readEither_38 (⟨_, rfl, (by first | (rw [hE]; done) | (rw [hE]; omega)), (by rw [hE]; show _ = ((L ++ (acc ++ (F sp1).2.2)).length : Int); rw [← hLf]; exact lL6), (by rw [hE]; show cdR _ (L ++ (acc ++ (F sp1).2.2)); rw [← hLf]; exact cL6), (by rw [hE]; exact (by show _ = (F sp1).2.1; rw [esp7]; exact hsp7)), qg5_3b, qg5_4b, qg5_5b, rfl, rfl, rfl, rfl, fun k hk => frvig5 k (by omega)⟩)
          · refine vx_iload_n hC 0 rfl eX5_readEither_14 ?_
            refine vx_bipush hC (by decide) eX5_readEither_15 ?_
            refine vx_icmp_ge hC (tgt := 55) (by omega) (by decide) eX5_readEither_17 (fun c10 => absurd c10 (by omega)) (fun c10 => ?_)
            refine vx_aload_n hC 2 rfl eX5_readEither_20 ?_
            refine vx_bipush hC (by decide) eX5_readEither_21 ?_
            refine vx_callV_i hC (kX5_take G d _ _ _ _ _ hO h u en sp2 eb0 eb1 hr0 hen (fun z z1 z2 => by rw [frb 2 (by omega)]; exact htp z z1 z2) (by omega) 38 (by omega)) ly_X5_51 (ot_26 hO) rfl rfl rfl hRm (by omega) (Nat.le_of_ble_eq_true rfl) rfl eX5_readEither_23 (fun x11 ng12 tg12 ag12 bg12 cg12 hg12 => ?_)
            obtain ⟨hx11, qg12_0, qg12_1, qg12_2, qg12_3, qg12_4, rfl, rfl, rfl, rfl, frg12⟩ := hg12
            have qg12_0b : ag12 26 2 = sp2 + x11 := by first | exact qg12_0 | rw [qg12_0, eb0] | (rw [qg12_0]; exact eb0)
            have qg12_1b : ag12 26 1 = en := by first | exact qg12_1 | rw [qg12_1, eb1] | (rw [qg12_1]; exact eb1)
            have qg12_2b : ag12 26 5 = vi 26 5 := by first | exact qg12_2 | rw [qg12_2, eb2] | (rw [qg12_2]; exact eb2)
            have qg12_3b : ag12 26 7 = (Lb.length : Int) := by first | exact qg12_3 | rw [qg12_3, eb3] | (rw [qg12_3]; exact eb3)
            have qg12_4b : ag12 26 8 = vi 26 8 := by first | exact qg12_4 | rw [qg12_4, eb4] | (rw [qg12_4]; exact eb4)
            have frvig12 : ∀ k : Nat, (¬ k = 26 ∧ ¬ k = 29) → ag12 k = vi k := fun k hk => (frg12 k (by omega)).trans (frb k hk)
            obtain ⟨sp13, hsp13⟩ : ∃ z : Int, z = sp2 + x11 := ⟨_, rfl⟩
            have esp13 : ag12 26 2 = sp13 := by rw [hsp13]; exact qg12_0b
            have hbsp13 := hh sp2
            have cd14 : cdR (ag12 29) Lb := by rw [frg12 29 (by omega)]; exact cdb
            refine vx_if_eq hC (tgt := 55) (by omega) (by decide) eX5_readEither_26 (fun c15 => ?_) (fun c15 => ?_)
            · have hT9 : (1, sp2, acc2) = pTm F h sp1 := by rcases hiv with h9 | h9; omega; exact pLoop_end h9.2.2 (by omega)
              have hp9 : pLoop (pTm F h) h 124 (-3) ct sp2 (acc ++ acc2 ++ (if ts = 0 then [] else [-3])) = pEx F h sp := by have g9 := hres; rw [← hT9, if_neg (show ¬ ((1 : Int), sp2, acc2).1 = 0 from (by decide : ¬ (1 : Int) = 0))] at g9; exact g9
              have es16 : ag12 26 2 = sp2 := by first | (rw [esp13]; done) | (rw [esp13]; omega)
              refine vx_iload_n hC 1 rfl eX5_readEither_55 ?_
              refine vx_if_le hC (tgt := 65) (by omega) (by decide) eX5_readEither_56 (fun c17 => ?_) (fun c17 => ?_)
              · have hLn : Lb = L ++ (acc ++ acc2 ++ (if ts = 0 then [] else [-3])) := by rw [if_pos (by omega), List.append_nil, hLb, hLa, List.append_assoc]
                have hll9 : (Lb.length : Int) ≤ sp2 := by omega
                have es18 : ag12 26 2 = sp2 := by first | (rw [es16]; done) | (rw [es16]; omega)
                have htl : (ts = 0 → ((if ts = 0 then [] else [-3]) : List Int).length = 0) ∧ ((if ts = 0 then [] else [-3]) : List Int).length ≤ 1 := by by_cases e9 : ts = 0; (rw [if_pos e9]; exact ⟨fun _ => rfl, by decide⟩); (rw [if_neg e9]; exact ⟨fun g9 => absurd g9 e9, by decide⟩)
                refine vx_aload_n hC 2 rfl eX5_readEither_65 ?_
                refine vx_bipush hC (by decide) eX5_readEither_66 ?_
                refine vx_callV_i hC (kX5_take G d _ _ _ _ _ hO h u en sp2 es18 qg12_1b hr0 hen (fun z z1 z2 => by rw [frvig12 2 (by omega)]; exact htp z z1 z2) (by omega) 124 (by omega)) ly_X5_51 (ot_26 hO) rfl rfl rfl hRm (by omega) (Nat.le_of_ble_eq_true rfl) rfl eX5_readEither_68 (fun x19 ng20 tg20 ag20 bg20 cg20 hg20 => ?_)
                obtain ⟨hx19, qg20_0, qg20_1, qg20_2, qg20_3, qg20_4, rfl, rfl, rfl, rfl, frg20⟩ := hg20
                have qg20_0b : ag20 26 2 = sp2 + x19 := by first | exact qg20_0 | rw [qg20_0, es18] | (rw [qg20_0]; exact es18)
                have qg20_1b : ag20 26 1 = en := by first | exact qg20_1 | rw [qg20_1, qg12_1b] | (rw [qg20_1]; exact qg12_1b)
                have qg20_2b : ag20 26 5 = vi 26 5 := by first | exact qg20_2 | rw [qg20_2, qg12_2b] | (rw [qg20_2]; exact qg12_2b)
                have qg20_3b : ag20 26 7 = (Lb.length : Int) := by first | exact qg20_3 | rw [qg20_3, qg12_3b] | (rw [qg20_3]; exact qg12_3b)
                have qg20_4b : ag20 26 8 = vi 26 8 := by first | exact qg20_4 | rw [qg20_4, qg12_4b] | (rw [qg20_4]; exact qg12_4b)
                have frvig20 : ∀ k : Nat, (¬ k = 26 ∧ ¬ k = 29) → ag20 k = vi k := fun k hk => (frg20 k (by omega)).trans (frvig12 k hk)
                obtain ⟨sp21, hsp21⟩ : ∃ z : Int, z = sp2 + x19 := ⟨_, rfl⟩
                have esp21 : ag20 26 2 = sp21 := by rw [hsp21]; exact qg20_0b
                have hbsp21 := hh sp2
                have cd22 : cdR (ag20 29) Lb := by rw [frg20 29 (by omega)]; exact cd14
                refine vx_if_ne hC (tgt := 76) (by omega) (by decide) eX5_readEither_71 (fun c23 => ?_) (fun c23 => ?_)
                · have es24 : ag20 26 2 = (sp2 + 1) := by first | (rw [esp21]; done) | (rw [esp21]; omega)
                  obtain ⟨cv, rfl⟩ : ∃ cv, ct = cv + 1 := ⟨ct - 1, by omega⟩
                  refine vx_iinc hC (lv1 := [(2, xa_i (ts + 1)), (3, xa_i fs), (0, xa_r 26), (1, xa_i op)]) 1 rfl (by decide) rfl eX5_readEither_76 ?_
                  refine vx_goto hC (tgt := 2) (by decide) eX5_readEither_79 ?_
                  refine vx_lv (lv1 := [(2, xa_i (ts + 1)), (0, xa_r 26), (1, xa_i op)]) [0, 2, 3] rfl ?_
                  exact ihA cv (ts + 1) (sp2 + 1) (acc ++ acc2 ++ (if ts = 0 then [] else [-3])) Lb ag20 (by omega) (by omega) (by rw [List.length_append, List.length_append]; omega) hLn (by rw [if_neg (show ¬ ts + 1 = 0 by omega)]; rw [pLoop, if_pos (show h sp2 = 124 by omega)] at hp9; exact hp9) es24 qg20_1b qg20_2b qg20_3b qg20_4b cd22 frvig20 (by omega)
                · refine vx_iconst hC eX5_readEither_74 ?_
                  have hE : pEx F h sp = (1, sp2, acc ++ acc2 ++ (if ts = 0 then [] else [-3])) := (pLoop_end hp9 (by omega)).symm
                  have hLf := hLn
                  exact vx_iret hC hM (by first | decide | exact xn_bz (by omega)) eX5_readEither_75 (⟨_, rfl, (by rw [hE]), (by rw [hE]; show _ = ((L ++ (acc ++ acc2 ++ (if ts = 0 then [] else [-3]))).length : Int); rw [← hLf]; exact qg20_3b), (by rw [hE]; show cdR _ (L ++ (acc ++ acc2 ++ (if ts = 0 then [] else [-3]))); rw [← hLf]; exact cd22), (by rw [hE]; exact (by show _ = sp2; rw [esp21]; omega)), qg20_1b, qg20_2b, qg20_4b, rfl, rfl, rfl, rfl, fun k hk => frvig20 k (by omega)⟩)
              · refine vx_aload_n hC 2 rfl eX5_readEither_59 ?_
                refine vx_bipush hC (by decide) eX5_readEither_60 ?_
                refine vx_callV_v hC (kX5_put G d _ _ _ _ _ hO Lb qg12_3b cd14 (by omega) (-3) (-3) (rfl)) ly_X5_112 (ot_26 hO) rfl rfl rfl hRm (by omega) (Nat.le_of_ble_eq_true rfl) rfl eX5_readEither_62 (fun ng26 tg26 ag26 bg26 cg26 hg26 => ?_)
                obtain ⟨qg26_0, qg26_1, qg26_2, qg26_3, qg26_4, qg26_5, rfl, rfl, rfl, rfl, frg26⟩ := hg26
                have qg26_2b : ag26 26 2 = sp2 := by first | exact qg26_2 | rw [qg26_2, es16] | (rw [qg26_2]; exact es16)
                have qg26_3b : ag26 26 1 = en := by first | exact qg26_3 | rw [qg26_3, qg12_1b] | (rw [qg26_3]; exact qg12_1b)
                have qg26_4b : ag26 26 5 = vi 26 5 := by first | exact qg26_4 | rw [qg26_4, qg12_2b] | (rw [qg26_4]; exact qg12_2b)
                have qg26_0b : ag26 26 7 = ((Lb ++ [-3]).length : Int) := by first | exact qg26_0 | rw [qg26_0, qg12_3b] | (rw [qg26_0]; exact qg12_3b)
                have qg26_5b : ag26 26 8 = vi 26 8 := by first | exact qg26_5 | rw [qg26_5, qg12_4b] | (rw [qg26_5]; exact qg12_4b)
                have frvig26 : ∀ k : Nat, (¬ k = 26 ∧ ¬ k = 29) → ag26 k = vi k := fun k hk => (frg26 k (by omega)).trans (frvig12 k hk)
                obtain ⟨L27, hL27⟩ : ∃ z : List Int, z = Lb ++ [-3] := ⟨_, rfl⟩
                have lL27 : ag26 26 7 = (L27.length : Int) := by rw [hL27]; exact qg26_0b
                have cL27 : cdR (ag26 29) L27 := by rw [hL27]; exact qg26_1
                obtain ⟨sp28, hsp28⟩ : ∃ z : Int, z = sp2 := ⟨_, rfl⟩
                have esp28 : ag26 26 2 = sp28 := by rw [hsp28]; exact qg26_2b
                have nL27 : (L27.length : Int) = (Lb.length : Int) + 1 := by rw [hL27, List.length_append]; simp
                have hLn : L27 = L ++ (acc ++ acc2 ++ (if ts = 0 then [] else [-3])) := by rw [if_neg (by omega), hL27, hLb, hLa]; simp only [List.append_assoc]
                have hll9 : (L27.length : Int) ≤ sp2 := by omega
                have es29 : ag26 26 2 = sp2 := by first | (rw [esp28]; done) | (rw [esp28]; omega)
                have htl : (ts = 0 → ((if ts = 0 then [] else [-3]) : List Int).length = 0) ∧ ((if ts = 0 then [] else [-3]) : List Int).length ≤ 1 := by by_cases e9 : ts = 0; (rw [if_pos e9]; exact ⟨fun _ => rfl, by decide⟩); (rw [if_neg e9]; exact ⟨fun g9 => absurd g9 e9, by decide⟩)
                refine vx_aload_n hC 2 rfl eX5_readEither_65 ?_
                refine vx_bipush hC (by decide) eX5_readEither_66 ?_
                refine vx_callV_i hC (kX5_take G d _ _ _ _ _ hO h u en sp2 es29 qg26_3b hr0 hen (fun z z1 z2 => by rw [frvig26 2 (by omega)]; exact htp z z1 z2) (by omega) 124 (by omega)) ly_X5_51 (ot_26 hO) rfl rfl rfl hRm (by omega) (Nat.le_of_ble_eq_true rfl) rfl eX5_readEither_68 (fun x30 ng31 tg31 ag31 bg31 cg31 hg31 => ?_)
                obtain ⟨hx30, qg31_0, qg31_1, qg31_2, qg31_3, qg31_4, rfl, rfl, rfl, rfl, frg31⟩ := hg31
                have qg31_0b : ag31 26 2 = sp2 + x30 := by first | exact qg31_0 | rw [qg31_0, es29] | (rw [qg31_0]; exact es29)
                have qg31_1b : ag31 26 1 = en := by first | exact qg31_1 | rw [qg31_1, qg26_3b] | (rw [qg31_1]; exact qg26_3b)
                have qg31_2b : ag31 26 5 = vi 26 5 := by first | exact qg31_2 | rw [qg31_2, qg26_4b] | (rw [qg31_2]; exact qg26_4b)
                have qg31_3b : ag31 26 7 = (L27.length : Int) := by first | exact qg31_3 | rw [qg31_3, lL27] | (rw [qg31_3]; exact lL27)
                have qg31_4b : ag31 26 8 = vi 26 8 := by first | exact qg31_4 | rw [qg31_4, qg26_5b] | (rw [qg31_4]; exact qg26_5b)
                have frvig31 : ∀ k : Nat, (¬ k = 26 ∧ ¬ k = 29) → ag31 k = vi k := fun k hk => (frg31 k (by omega)).trans (frvig26 k hk)
                obtain ⟨sp32, hsp32⟩ : ∃ z : Int, z = sp2 + x30 := ⟨_, rfl⟩
                have esp32 : ag31 26 2 = sp32 := by rw [hsp32]; exact qg31_0b
                have hbsp32 := hh sp2
                have cd33 : cdR (ag31 29) L27 := by rw [frg31 29 (by omega)]; exact cL27
                refine vx_if_ne hC (tgt := 76) (by omega) (by decide) eX5_readEither_71 (fun c34 => ?_) (fun c34 => ?_)
                · have es35 : ag31 26 2 = (sp2 + 1) := by first | (rw [esp32]; done) | (rw [esp32]; omega)
                  obtain ⟨cv, rfl⟩ : ∃ cv, ct = cv + 1 := ⟨ct - 1, by omega⟩
                  refine vx_iinc hC (lv1 := [(2, xa_i (ts + 1)), (3, xa_i fs), (0, xa_r 26), (1, xa_i op)]) 1 rfl (by decide) rfl eX5_readEither_76 ?_
                  refine vx_goto hC (tgt := 2) (by decide) eX5_readEither_79 ?_
                  refine vx_lv (lv1 := [(2, xa_i (ts + 1)), (0, xa_r 26), (1, xa_i op)]) [0, 2, 3] rfl ?_
                  exact ihA cv (ts + 1) (sp2 + 1) (acc ++ acc2 ++ (if ts = 0 then [] else [-3])) L27 ag31 (by omega) (by omega) (by rw [List.length_append, List.length_append]; omega) hLn (by rw [if_neg (show ¬ ts + 1 = 0 by omega)]; rw [pLoop, if_pos (show h sp2 = 124 by omega)] at hp9; exact hp9) es35 qg31_1b qg31_2b qg31_3b qg31_4b cd33 frvig31 (by omega)
                · refine vx_iconst hC eX5_readEither_74 ?_
                  have hE : pEx F h sp = (1, sp2, acc ++ acc2 ++ (if ts = 0 then [] else [-3])) := (pLoop_end hp9 (by omega)).symm
                  have hLf := hLn
                  exact vx_iret hC hM (by first | decide | exact xn_bz (by omega)) eX5_readEither_75 (⟨_, rfl, (by rw [hE]), (by rw [hE]; show _ = ((L ++ (acc ++ acc2 ++ (if ts = 0 then [] else [-3]))).length : Int); rw [← hLf]; exact qg31_3b), (by rw [hE]; show cdR _ (L ++ (acc ++ acc2 ++ (if ts = 0 then [] else [-3]))); rw [← hLf]; exact cd33), (by rw [hE]; exact (by show _ = sp2; rw [esp32]; omega)), qg31_1b, qg31_2b, qg31_4b, rfl, rfl, rfl, rfl, fun k hk => frvig31 k (by omega)⟩)
            · have es36 : ag12 26 2 = (sp2 + 1) := by first | (rw [esp13]; done) | (rw [esp13]; omega)
              obtain ⟨cw, rfl⟩ : ∃ cw, cu = cw + 1 := ⟨cu - 1, by omega⟩
              have hiw : pLoop F h 38 (-2) (cw + 1) sp2 acc2 = pTm F h sp1 := by rcases hiv with h9 | h9; omega; exact h9.2.2
              refine vx_aload_n hC 2 rfl eX5_readEither_29 ?_
              refine vx_iload_n hC 3 rfl eX5_readEither_30 ?_
              refine vx_callV_i hC (hF d _ _ _ _ _ hO (sp2 + 1) Lb es36 qg12_1b hr0 (fun z z1 z2 => by rw [frvig12 2 (by omega)]; exact htp z z1 z2) (by omega) qg12_3b cd14 (by omega)) ly_X5_109 (ot_26 hO) rfl rfl rfl hRm (by omega) (Nat.le_of_ble_eq_true rfl) rfl eX5_readEither_31 (fun x37 ng38 tg38 ag38 bg38 cg38 hg38 => ?_)
              obtain ⟨hx37, qg38_0, qg38_1, qg38_2, qg38_3, qg38_4, qg38_5, rfl, rfl, rfl, rfl, frg38⟩ := hg38
              have qg38_2b : ag38 26 2 = (F (sp2 + 1)).2.1 := by first | exact qg38_2 | rw [qg38_2, es36] | (rw [qg38_2]; exact es36)
              have qg38_3b : ag38 26 1 = en := by first | exact qg38_3 | rw [qg38_3, qg12_1b] | (rw [qg38_3]; exact qg12_1b)
              have qg38_4b : ag38 26 5 = vi 26 5 := by first | exact qg38_4 | rw [qg38_4, qg12_2b] | (rw [qg38_4]; exact qg12_2b)
              have qg38_0b : ag38 26 7 = ((Lb ++ (F (sp2 + 1)).2.2).length : Int) := by first | exact qg38_0 | rw [qg38_0, qg12_3b] | (rw [qg38_0]; exact qg12_3b)
              have qg38_5b : ag38 26 8 = vi 26 8 := by first | exact qg38_5 | rw [qg38_5, qg12_4b] | (rw [qg38_5]; exact qg12_4b)
              have frvig38 : ∀ k : Nat, (¬ k = 26 ∧ ¬ k = 29) → ag38 k = vi k := fun k hk => (frg38 k (by omega)).trans (frvig12 k hk)
              obtain ⟨L39, hL39⟩ : ∃ z : List Int, z = Lb ++ (F (sp2 + 1)).2.2 := ⟨_, rfl⟩
              have lL39 : ag38 26 7 = (L39.length : Int) := by rw [hL39]; exact qg38_0b
              have cL39 : cdR (ag38 29) L39 := by rw [hL39]; exact qg38_1
              obtain ⟨sp40, hsp40⟩ : ∃ z : Int, z = (F (sp2 + 1)).2.1 := ⟨_, rfl⟩
              have esp40 : ag38 26 2 = sp40 := by rw [hsp40]; exact qg38_2b
              obtain ⟨o1sp40, o2sp40, o3sp40, o4sp40, o5sp40⟩ := hP (sp2 + 1) (by omega)
              have nL39 : (L39.length : Int) = (Lb.length : Int) + ((F (sp2 + 1)).2.2.length : Int) := by rw [hL39, List.length_append]; omega
              refine vx_if_ne hC (tgt := 39) (by omega) (by decide) eX5_readEither_34 (fun c41 => ?_) (fun c41 => ?_)
              · refine vx_iload_n hC 0 rfl eX5_readEither_39 ?_
                refine vx_if_le hC (tgt := 49) (by omega) (by decide) eX5_readEither_40 (fun c42 => absurd c42 (by omega)) (fun c42 => ?_)
                refine vx_aload_n hC 2 rfl eX5_readEither_43 ?_
                refine vx_bipush hC (by decide) eX5_readEither_44 ?_
                refine vx_callV_v hC (kX5_put G d _ _ _ _ _ hO L39 lL39 cL39 (by omega) (-2) (-2) (rfl)) ly_X5_112 (ot_26 hO) rfl rfl rfl hRm (by omega) (Nat.le_of_ble_eq_true rfl) rfl eX5_readEither_46 (fun ng44 tg44 ag44 bg44 cg44 hg44 => ?_)
                obtain ⟨qg44_0, qg44_1, qg44_2, qg44_3, qg44_4, qg44_5, rfl, rfl, rfl, rfl, frg44⟩ := hg44
                have qg44_2b : ag44 26 2 = sp40 := by first | exact qg44_2 | rw [qg44_2, esp40] | (rw [qg44_2]; exact esp40)
                have qg44_3b : ag44 26 1 = en := by first | exact qg44_3 | rw [qg44_3, qg38_3b] | (rw [qg44_3]; exact qg38_3b)
                have qg44_4b : ag44 26 5 = vi 26 5 := by first | exact qg44_4 | rw [qg44_4, qg38_4b] | (rw [qg44_4]; exact qg38_4b)
                have qg44_0b : ag44 26 7 = ((L39 ++ [-2]).length : Int) := by first | exact qg44_0 | rw [qg44_0, lL39] | (rw [qg44_0]; exact lL39)
                have qg44_5b : ag44 26 8 = vi 26 8 := by first | exact qg44_5 | rw [qg44_5, qg38_5b] | (rw [qg44_5]; exact qg38_5b)
                have frvig44 : ∀ k : Nat, (¬ k = 26 ∧ ¬ k = 29) → ag44 k = vi k := fun k hk => (frg44 k (by omega)).trans (frvig38 k hk)
                obtain ⟨L45, hL45⟩ : ∃ z : List Int, z = L39 ++ [-2] := ⟨_, rfl⟩
                have lL45 : ag44 26 7 = (L45.length : Int) := by rw [hL45]; exact qg44_0b
                have cL45 : cdR (ag44 29) L45 := by rw [hL45]; exact qg44_1
                obtain ⟨sp46, hsp46⟩ : ∃ z : Int, z = sp40 := ⟨_, rfl⟩
                have esp46 : ag44 26 2 = sp46 := by rw [hsp46]; exact qg44_2b
                have nL45 : (L45.length : Int) = (L39.length : Int) + 1 := by rw [hL45, List.length_append]; simp
                have hLn2 : L45 = La ++ (acc2 ++ (F (sp2 + 1)).2.2 ++ [-2]) := by rw [hL45, hL39, hLb, List.append_assoc, List.append_assoc, List.append_assoc]
                have hiv2 : (fs + 1 = 0 ∧ sp46 = sp1 ∧ (acc2 ++ (F (sp2 + 1)).2.2 ++ [-2]) = []) ∨ (1 ≤ fs + 1 ∧ en - sp46 < (cw : Int) ∧ pLoop F h 38 (-2) cw sp46 (acc2 ++ (F (sp2 + 1)).2.2 ++ [-2]) = pTm F h sp1) := by
                  right; refine ⟨by omega, by omega, ?_⟩; rw [pLoop, if_pos (show h sp2 = 38 by omega), if_neg (by omega)] at hiw; rw [← hiw, hsp46, hsp40]
                refine vx_iinc hC (lv1 := [(3, xa_i (fs + 1)), (2, xa_i ts), (0, xa_r 26), (1, xa_i op)]) 0 rfl (by decide) rfl eX5_readEither_49 ?_
                refine vx_goto hC (tgt := 10) (by decide) eX5_readEither_52 ?_
                exact ihB cw (fs + 1) sp46 (acc2 ++ (F (sp2 + 1)).2.2 ++ [-2]) L45 ag44 (by omega) (by omega) (by rw [List.length_append, List.length_append]; simp only [List.length_singleton]; omega) hLn2 hiv2 esp46 qg44_3b qg44_4b lL45 qg44_5b cL45 frvig44 (by omega)
              · refine vx_iconst hC eX5_readEither_37 ?_
                have hPT : pTm F h sp1 = (0, (F (sp2 + 1)).2.1, acc2 ++ (F (sp2 + 1)).2.2) := by rw [← hiw, pLoop, if_pos (show h sp2 = 38 by omega), if_pos (by omega)]
                have hE : pEx F h sp = (0, (F (sp2 + 1)).2.1, acc ++ (acc2 ++ (F (sp2 + 1)).2.2)) := by rw [← hres, hPT, if_pos (show (0 : Int) = 0 from rfl)]
                have hLf : L39 = L ++ (acc ++ (acc2 ++ (F (sp2 + 1)).2.2)) := by rw [hL39, hLb, hLa]; simp only [List.append_assoc]
                exact vx_iret hC hM (by first | decide | exact xn_bz (by omega)) eX5_readEither_38 (⟨_, rfl, (by first | (rw [hE]; done) | (rw [hE]; omega)), (by rw [hE]; show _ = ((L ++ (acc ++ (acc2 ++ (F (sp2 + 1)).2.2))).length : Int); rw [← hLf]; exact lL39), (by rw [hE]; show cdR _ (L ++ (acc ++ (acc2 ++ (F (sp2 + 1)).2.2))); rw [← hLf]; exact cL39), (by rw [hE]; exact (by show _ = (F (sp2 + 1)).2.1; rw [esp40]; exact hsp40)), qg38_3b, qg38_4b, qg38_5b, rfl, rfl, rfl, rfl, fun k hk => frvig38 k (by omega)⟩)
      exact LP10 103 102 0 sp1 [] La m2 (by omega) (by omega) (by simp) (by rw [List.append_nil]) (Or.inl ⟨rfl, rfl, rfl⟩) ea0 ea1 ea2 ea3 ea4 cda fra (by omega)
  exact LP2 102 101 0 sp [] L vi (by omega) (by omega) (by simp only [List.length_nil]; omega) (by rw [List.append_nil]) (by rw [if_pos rfl, List.append_nil, List.nil_append]; show _ = pSeq (pTm F h) h 124 (-3) sp; unfold pSeq; by_cases e9 : (pTm F h sp).1 = 0; (rw [if_pos e9, if_pos e9]; exact Prod.ext e9.symm rfl); (rw [if_neg e9, if_neg e9])) h2 h1 rfl h7 rfl hcd (fun _ _ => rfl) (by omega)
theorem kX5_singleN (G : xg_T) (h u : Int → Int) (en : Int) (hen : pH h u en) : ∀ (k : Nat), k ≤ 5 → FR G yX5_readSingle cX5_readSingle 2 (8 + 2 * k) h en (5 - (k : Int)) (pF h k) ∧ FR G yX5_readEither cX5_readEither 4 (8 + 2 * k + 1) h en (5 - (k : Int)) (pEx (pF h k) h)
  | 0, _ => by
    have h0 := kX5_single0 G h u en hen
    rw [show (5 : Int) - ((0 : Nat) : Int) = 5 by decide, show 8 + 2 * 0 = 8 by decide]
    exact ⟨h0, kX5_eitherS G h u en hen 5 8 1 (by decide) (pF h 0) (pF_ok hen 0) h0⟩
  | k + 1, hk => by
    obtain ⟨hF, hS⟩ := kX5_singleN G h u en hen k (by omega)
    have e : (5 - (k : Int)) = 5 - ((k + 1 : Nat) : Int) + 1 := by omega
    rw [e] at hF hS
    have h1 := kX5_singleS G h u en hen (5 - ((k + 1 : Nat) : Int)) k (8 + 2 * k) (by omega) (by omega) hF hS
    rw [show 8 + 2 * (k + 1) = 8 + 2 * k + 2 by omega]
    exact ⟨h1, kX5_eitherS G h u en hen _ (8 + 2 * k + 2) (2 * (k + 1) + 1) (by omega) (pF h (k + 1)) (pF_ok hen (k + 1)) h1⟩
