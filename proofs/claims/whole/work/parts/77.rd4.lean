theorem pMu_n {h : Int → Int} {kd s lim : Int} (e : pNw h 0 s = 1) : pMu h kd s lim = (1, pNs h 0 s, [], 0, lim) := by
  unfold pMu; dsimp only; rw [e]
  have e3 : pMw h 32 1 (pNs h 0 s) = 1 := by unfold pMw; rw [if_neg (by omega)]
  have e4 : pMs h 32 1 (pNs h 0 s) = pNs h 0 s := by unfold pMs; rw [if_neg (by omega)]
  rw [e3, e4]
  unfold pW
  rw [if_neg (show ¬ (1 : Int) = 0 by decide)]
  rfl
theorem pMu_a {h : Int → Int} {kd s lim s2 : Int} (e : pNw h 0 s = 0) (e2 : s2 = pNs h 0 s) (e1 : ¬ h s2 = 32) : pMu h kd s lim = (1, s2, [], 0, lim) := by
  unfold pMu; dsimp only; rw [e, ← e2]
  have e3 : pMw h 32 0 s2 = 1 := by unfold pMw; rw [if_neg (by omega)]
  have e4 : pMs h 32 0 s2 = s2 := by unfold pMs; rw [if_neg (by omega)]
  rw [e3, e4]
  unfold pW
  rw [if_neg (show ¬ (1 : Int) = 0 by decide)]
  rfl
theorem pMu_b {h : Int → Int} {kd s lim s2 v : Int} {r : pr_T} (e : pNw h 0 s = 0) (e2 : s2 = pNs h 0 s) (e1 : h s2 = 32) (ev : v = pNv h 0 s) (er : r = pEx (pF h 5) h (s2 + 1)) : pMu h kd s lim = (1 - r.1, r.2.1, r.2.2, if r.1 = 1 then kd - v else 0, lim) := by
  unfold pMu; dsimp only; rw [e, ← e2, ← ev]
  have e3 : pMw h 32 0 s2 = 0 := by unfold pMw; rw [if_pos ⟨rfl, e1⟩]
  have e4 : pMs h 32 0 s2 = s2 + 1 := by unfold pMs; rw [if_pos ⟨rfl, e1⟩]
  rw [e3, e4, ← er]
  unfold pW
  rw [if_pos rfl]
theorem pCl_0 {h : Int → Int} {sp lim wd s : Int} (hw : wd = (pWd h sp).1) (hs : s = (pWd h sp).2) (e : wd = 0) : pCl h sp lim = (1, s, [], 0, lim) := by
  rw [pCl_wd, ← hw, ← hs, if_pos e]
theorem pCl_n {h : Int → Int} {sp lim wd s s2 : Int} (hw : wd = (pWd h sp).1) (hs : s = (pWd h sp).2) (e : ¬ wd = 0) (e1 : pNw h 0 s = 1) (e2 : s2 = pNs h 0 s) : pCl h sp lim = (1, s2, [], 0, lim) := by
  rw [pCl_wd, ← hw, ← hs, if_neg e]
  by_cases e3 : wd = 3
  · rw [if_pos e3, e1, if_neg (show ¬ (1 : Int) = 0 by decide), e2]
  · rw [if_neg e3, pMu_n e1, e2]
theorem pCl_3 {h : Int → Int} {sp lim wd s s2 v : Int} (hw : wd = (pWd h sp).1) (hs : s = (pWd h sp).2) (e : wd = 3) (e1 : pNw h 0 s = 0) (e2 : s2 = pNs h 0 s) (ev : v = pNv h 0 s) : pCl h sp lim = (0, s2, [], 0, if v < 1 then 1 else v) := by
  rw [pCl_wd, ← hw, ← hs, if_neg (by omega), if_pos e, e1, if_pos rfl, e2, ev]
theorem pCl_m {h : Int → Int} {sp lim wd s : Int} (hw : wd = (pWd h sp).1) (hs : s = (pWd h sp).2) (e : ¬ wd = 0) (e3 : ¬ wd = 3) : pCl h sp lim = pMu h (if wd = 1 then -10 else -200) s lim := by
  rw [pCl_wd, ← hw, ← hs, if_neg e, if_neg e3]
set_option maxHeartbeats 4000000 in
set_option maxRecDepth 100000 in
theorem kX5_readClause (G : xg_T) (d : Nat) (n : Nat) (tau : Nat → Nat × Nat) (vi vl : Nat → Int → Int) (vr : Nat → Int → Option Nat) (hO : xo n tau vr) (h u : Int → Int) (en sp : Int) (h2 : vi 26 2 = sp) (h1 : vi 26 1 = en) (hr0 : vr 26 0 = some 2) (hen : pH h u en) (htp : ∀ z, 0 ≤ z → z < en → vi 2 z = h z ∧ 0 ≤ h z) (hsp : 0 ≤ sp ∧ sp ≤ en) (L : List Int) (h7 : vi 26 7 = (L.length : Int)) (hcd : cdR (vi 29) L) (hL : (L.length : Int) ≤ sp) (nl lim : Int) (h5 : vi 26 5 = nl) (h8 : vi 26 8 = lim) (hnl : 0 ≤ nl ∧ nl ≤ 9) (hlim : 1 ≤ lim ∧ lim ≤ 99) : xm G yX5_readClause cX5_readClause 3 (some .boolean) (d + 20) 0 0 [xa_r 26] n tau vi vl vr (xp_i (fun z9 n1 t1 a1 b1 c1 => (z9 = 1 - (pCl h sp lim).1) ∧ (a1 26 7 = ((L ++ (pCl h sp lim).2.2.1).length : Int)) ∧ (cdR (a1 29) (L ++ (pCl h sp lim).2.2.1)) ∧ (a1 26 2 = (pCl h sp lim).2.1) ∧ (a1 26 1 = en) ∧ (a1 26 5 = (if (pCl h sp lim).2.2.2.1 = 0 then nl else nl + 1)) ∧ (a1 26 8 = (pCl h sp lim).2.2.2.2) ∧ (a1 27 = (if (pCl h sp lim).2.2.2.1 = 0 then vi 27 else fu (vi 27) nl (mwt (pCl h sp lim).2.2.2.1))) ∧ (a1 28 = (if (pCl h sp lim).2.2.2.1 = 0 then vi 28 else fu (vi 28) nl ((L ++ (pCl h sp lim).2.2.1).length : Int))) ∧ xs_I (fun k => ¬ k = 26 ∧ ¬ k = 27 ∧ ¬ k = 28 ∧ ¬ k = 29) n tau vi vl vr n1 t1 a1 b1 c1)) := by
  refine xm.of (lv := [(0, xa_r 26)]) (by decide) (Nat.le_of_ble_eq_true rfl) rfl (fun K hC hM hRm => ?_)
  have he := hen.1
  have hh := hen.2
  refine vx_aload_n hC 0 rfl eX5_readClause_0 ?_
  refine vx_callV_i hC (kX5_readWord G (d + 13) _ _ _ _ _ hO h u en sp h2 h1 hr0 hen htp (by omega)) ly_X5_86 (ot_26 hO) rfl rfl rfl hRm (by omega) (Nat.le_of_ble_eq_true rfl) rfl eX5_readClause_1 (fun x1 ng2 tg2 ag2 bg2 cg2 hg2 => ?_)
  obtain ⟨hx1, qg2_0, qg2_1, qg2_2, qg2_3, qg2_4, rfl, rfl, rfl, rfl, frg2⟩ := hg2
  have qg2_0b : ag2 26 2 = (pWd h sp).2 := by first | exact qg2_0 | rw [qg2_0, h2] | (rw [qg2_0]; exact h2)
  have qg2_1b : ag2 26 1 = en := by first | exact qg2_1 | rw [qg2_1, h1] | (rw [qg2_1]; exact h1)
  have qg2_2b : ag2 26 5 = nl := by first | exact qg2_2 | rw [qg2_2, h5] | (rw [qg2_2]; exact h5)
  have qg2_3b : ag2 26 7 = (L.length : Int) := by first | exact qg2_3 | rw [qg2_3, h7] | (rw [qg2_3]; exact h7)
  have qg2_4b : ag2 26 8 = lim := by first | exact qg2_4 | rw [qg2_4, h8] | (rw [qg2_4]; exact h8)
  have hg2_27 : ag2 27 = vi 27 := (frg2 27 (by omega))
  have hg2_28 : ag2 28 = vi 28 := (frg2 28 (by omega))
  have frvig2 : ∀ k : Nat, (¬ k = 26 ∧ ¬ k = 27 ∧ ¬ k = 28 ∧ ¬ k = 29) → ag2 k = vi k := fun k hk => (frg2 k (by omega))
  obtain ⟨sp3, hsp3⟩ : ∃ z : Int, z = (pWd h sp).2 := ⟨_, rfl⟩
  have esp3 : ag2 26 2 = sp3 := by rw [hsp3]; exact qg2_0b
  have hbsp3 := hh sp
  have cd4 : cdR (ag2 29) L := by rw [frg2 29 (by omega)]; exact hcd
  have hwr := pWd_r hen (sp := sp) (by omega)
  rw [← hx1, ← hsp3] at hwr
  clear hbsp3
  refine vx_istore_n hC (lv1 := [(1, xa_i x1), (0, xa_r 26)]) (by decide) rfl eX5_readClause_4 ?_
  refine vx_iload_n hC 0 rfl eX5_readClause_5 ?_
  refine vx_if_ne hC (tgt := 13) (by omega) (by decide) eX5_readClause_6 (fun c5 => ?_) (fun c5 => ?_)
  · refine vx_aload_n hC 1 rfl eX5_readClause_13 ?_
    refine vx_callV_i hC (kX5_readNumber G (d + 13) _ _ _ _ _ hO h u en sp3 esp3 qg2_1b hr0 hen (fun z z1 z2 => by rw [frvig2 2 (by omega)]; exact htp z z1 z2) (by omega)) ly_X5_89 (ot_26 hO) rfl rfl rfl hRm (by omega) (Nat.le_of_ble_eq_true rfl) rfl eX5_readClause_14 (fun x6 ng7 tg7 ag7 bg7 cg7 hg7 => ?_)
    obtain ⟨hx6, qg7_0, qg7_1, qg7_2, qg7_3, qg7_4, rfl, rfl, rfl, rfl, frg7⟩ := hg7
    have qg7_0b : ag7 26 2 = pNs h 0 sp3 := by first | exact qg7_0 | rw [qg7_0, esp3] | (rw [qg7_0]; exact esp3)
    have qg7_1b : ag7 26 1 = en := by first | exact qg7_1 | rw [qg7_1, qg2_1b] | (rw [qg7_1]; exact qg2_1b)
    have qg7_2b : ag7 26 5 = nl := by first | exact qg7_2 | rw [qg7_2, qg2_2b] | (rw [qg7_2]; exact qg2_2b)
    have qg7_3b : ag7 26 7 = (L.length : Int) := by first | exact qg7_3 | rw [qg7_3, qg2_3b] | (rw [qg7_3]; exact qg2_3b)
    have qg7_4b : ag7 26 8 = lim := by first | exact qg7_4 | rw [qg7_4, qg2_4b] | (rw [qg7_4]; exact qg2_4b)
    have hg7_27 : ag7 27 = vi 27 := (frg7 27 (by omega)).trans hg2_27
    have hg7_28 : ag7 28 = vi 28 := (frg7 28 (by omega)).trans hg2_28
    have frvig7 : ∀ k : Nat, (¬ k = 26 ∧ ¬ k = 27 ∧ ¬ k = 28 ∧ ¬ k = 29) → ag7 k = vi k := fun k hk => (frg7 k (by omega)).trans (frvig2 k hk)
    obtain ⟨sp8, hsp8⟩ : ∃ z : Int, z = pNs h 0 sp3 := ⟨_, rfl⟩
    have esp8 : ag7 26 2 = sp8 := by rw [hsp8]; exact qg7_0b
    have hbsp8 := hh sp3
    have cd9 : cdR (ag7 29) L := by rw [frg7 29 (by omega)]; exact cd4
    have hfsp8 := pN_r (w := 0) hen (sp := sp3) (by omega)
    rw [← hsp8] at hfsp8
    clear hbsp8
    obtain ⟨nv, hnv⟩ : ∃ z : Int, z = pNv h 0 sp3 := ⟨_, rfl⟩
    obtain ⟨nw, hnw⟩ : ∃ z : Int, z = pNw h 0 sp3 := ⟨_, rfl⟩
    rw [← hnv, ← hnw] at hx6 hfsp8
    have hnx : (nw = 0 ∧ x6 = nv) ∨ (nw = 1 ∧ x6 = -1) := by by_cases e9 : nw = 0; (left; rw [if_pos e9] at hx6; exact ⟨e9, hx6⟩); (right; rw [if_neg e9] at hx6; exact ⟨by omega, hx6⟩)
    clear hx6
    refine vx_istore_n hC (lv1 := [(2, xa_i x6), (1, xa_i x1), (0, xa_r 26)]) (by decide) rfl eX5_readClause_17 ?_
    refine vx_iload_n hC 0 rfl eX5_readClause_18 ?_
    refine vx_if_ge hC (tgt := 24) (by omega) (by decide) eX5_readClause_19 (fun c10 => ?_) (fun c10 => ?_)
    · refine vx_iload_n hC 1 rfl eX5_readClause_24 ?_
      refine vx_iconst hC eX5_readClause_25 ?_
      refine vx_icmp_ne hC (tgt := 40) (by omega) (by decide) eX5_readClause_26 (fun c11 => ?_) (fun c11 => ?_)
      · refine vx_aload_n hC 2 rfl eX5_readClause_40 ?_
        refine vx_bipush hC (by decide) eX5_readClause_41 ?_
        have hh2 := hh sp8
        refine vx_callV_i hC (kX5_take G (d + 18) _ _ _ _ _ hO h u en sp8 esp8 qg7_1b hr0 hen (fun z z1 z2 => by rw [frvig7 2 (by omega)]; exact htp z z1 z2) (by omega) 32 (by omega)) ly_X5_51 (ot_26 hO) rfl rfl rfl hRm (by omega) (Nat.le_of_ble_eq_true rfl) rfl eX5_readClause_43 (fun x12 ng13 tg13 ag13 bg13 cg13 hg13 => ?_)
        obtain ⟨hx12, qg13_0, qg13_1, qg13_2, qg13_3, qg13_4, rfl, rfl, rfl, rfl, frg13⟩ := hg13
        have qg13_0b : ag13 26 2 = sp8 + x12 := by first | exact qg13_0 | rw [qg13_0, esp8] | (rw [qg13_0]; exact esp8)
        have qg13_1b : ag13 26 1 = en := by first | exact qg13_1 | rw [qg13_1, qg7_1b] | (rw [qg13_1]; exact qg7_1b)
        have qg13_2b : ag13 26 5 = nl := by first | exact qg13_2 | rw [qg13_2, qg7_2b] | (rw [qg13_2]; exact qg7_2b)
        have qg13_3b : ag13 26 7 = (L.length : Int) := by first | exact qg13_3 | rw [qg13_3, qg7_3b] | (rw [qg13_3]; exact qg7_3b)
        have qg13_4b : ag13 26 8 = lim := by first | exact qg13_4 | rw [qg13_4, qg7_4b] | (rw [qg13_4]; exact qg7_4b)
        have hg13_27 : ag13 27 = vi 27 := (frg13 27 (by omega)).trans hg7_27
        have hg13_28 : ag13 28 = vi 28 := (frg13 28 (by omega)).trans hg7_28
        have frvig13 : ∀ k : Nat, (¬ k = 26 ∧ ¬ k = 27 ∧ ¬ k = 28 ∧ ¬ k = 29) → ag13 k = vi k := fun k hk => (frg13 k (by omega)).trans (frvig7 k hk)
        obtain ⟨sp14, hsp14⟩ : ∃ z : Int, z = sp8 + x12 := ⟨_, rfl⟩
        have esp14 : ag13 26 2 = sp14 := by rw [hsp14]; exact qg13_0b
        have hbsp14 := hh sp8
        have cd15 : cdR (ag13 29) L := by rw [frg13 29 (by omega)]; exact cd9
        clear hbsp14
        refine vx_if_eq hC (tgt := 66) (by omega) (by decide) eX5_readClause_46 (fun c16 => ?_) (fun c16 => ?_)
        · refine vx_iconst hC eX5_readClause_66 ?_
          have hE := pCl_m (lim := lim) hx1 hsp3 (by omega) (by omega)
          rw [pMu_a (by omega) hsp8 (by omega)] at hE
          exact vx_iret hC hM (by decide) eX5_readClause_67 (⟨_, rfl, (by rw [hE]; rfl), (by rw [hE]; show _ = ((L ++ []).length : Int); rw [List.append_nil]; exact qg13_3b), (by rw [hE]; show cdR _ (L ++ []); rw [List.append_nil]; exact cd15), (by rw [hE]; exact (by show _ = sp8; rw [esp14]; omega)), qg13_1b, (by rw [hE]; show _ = (if (0 : Int) = 0 then nl else nl + 1); rw [if_pos rfl]; exact qg13_2b), (by rw [hE]; show _ = lim; exact qg13_4b), (by rw [hE]; show _ = (if (0 : Int) = 0 then _ else _); rw [if_pos rfl]; exact hg13_27), (by rw [hE]; show _ = (if (0 : Int) = 0 then _ else _); rw [if_pos rfl]; exact hg13_28), rfl, rfl, rfl, rfl, fun k hk => frvig13 k (by omega)⟩)
        · refine vx_aload_n hC 2 rfl eX5_readClause_49 ?_
          refine vx_iconst hC eX5_readClause_50 ?_
          have es17 : ag13 26 2 = (sp8 + 1) := by first | (rw [esp14]; done) | (rw [esp14]; omega)
          have ht9 : h sp8 = 32 := by omega
          have hlt9 : sp8 < en := by omega
          clear hh2
          have hle : (L.length : Int) ≤ sp8 + 1 := by omega
          refine vx_callV_i hC ((kX5_singleN G h u en hen 5 (by decide)).2 d _ _ _ _ _ hO (sp8 + 1) L es17 qg13_1b hr0 (fun z z1 z2 => by rw [frvig13 2 (by omega)]; exact htp z z1 z2) (by omega) qg13_3b cd15 (by omega)) ly_X5_95 (ot_26 hO) rfl rfl rfl hRm (by omega) (Nat.le_of_ble_eq_true rfl) rfl eX5_readClause_51 (fun x18 ng19 tg19 ag19 bg19 cg19 hg19 => ?_)
          obtain ⟨hx18, qg19_0, qg19_1, qg19_2, qg19_3, qg19_4, qg19_5, rfl, rfl, rfl, rfl, frg19⟩ := hg19
          have qg19_2b : ag19 26 2 = (pEx (pF h 5) h (sp8 + 1)).2.1 := by first | exact qg19_2 | rw [qg19_2, es17] | (rw [qg19_2]; exact es17)
          have qg19_3b : ag19 26 1 = en := by first | exact qg19_3 | rw [qg19_3, qg13_1b] | (rw [qg19_3]; exact qg13_1b)
          have qg19_4b : ag19 26 5 = nl := by first | exact qg19_4 | rw [qg19_4, qg13_2b] | (rw [qg19_4]; exact qg13_2b)
          have qg19_0b : ag19 26 7 = ((L ++ (pEx (pF h 5) h (sp8 + 1)).2.2).length : Int) := by first | exact qg19_0 | rw [qg19_0, qg13_3b] | (rw [qg19_0]; exact qg13_3b)
          have qg19_5b : ag19 26 8 = lim := by first | exact qg19_5 | rw [qg19_5, qg13_4b] | (rw [qg19_5]; exact qg13_4b)
          have hg19_27 : ag19 27 = vi 27 := (frg19 27 (by omega)).trans hg13_27
          have hg19_28 : ag19 28 = vi 28 := (frg19 28 (by omega)).trans hg13_28
          have frvig19 : ∀ k : Nat, (¬ k = 26 ∧ ¬ k = 27 ∧ ¬ k = 28 ∧ ¬ k = 29) → ag19 k = vi k := fun k hk => (frg19 k (by omega)).trans (frvig13 k hk)
          obtain ⟨L20, hL20⟩ : ∃ z : List Int, z = L ++ (pEx (pF h 5) h (sp8 + 1)).2.2 := ⟨_, rfl⟩
          have lL20 : ag19 26 7 = (L20.length : Int) := by rw [hL20]; exact qg19_0b
          have cL20 : cdR (ag19 29) L20 := by rw [hL20]; exact qg19_1
          obtain ⟨sp21, hsp21⟩ : ∃ z : Int, z = (pEx (pF h 5) h (sp8 + 1)).2.1 := ⟨_, rfl⟩
          have esp21 : ag19 26 2 = sp21 := by rw [hsp21]; exact qg19_2b
          obtain ⟨o1sp21, o2sp21, o3sp21, o4sp21, o5sp21⟩ := (pEx_ok hen (pF_ok hen 5)) (sp8 + 1) (by omega)
          have nL20 : (L20.length : Int) = (L.length : Int) + ((pEx (pF h 5) h (sp8 + 1)).2.2.length : Int) := by rw [hL20, List.length_append]; omega
          obtain ⟨R5, hR5⟩ : ∃ z : pr_T, z = pEx (pF h 5) h (sp8 + 1) := ⟨_, rfl⟩
          rw [← hR5] at hx18 hL20 hsp21 nL20 o1sp21 o2sp21 o3sp21 o4sp21 o5sp21
          refine vx_if_eq hC (tgt := 66) (by omega) (by decide) eX5_readClause_54 (fun c22 => ?_) (fun c22 => ?_)
          · refine vx_iconst hC eX5_readClause_66 ?_
            have hE := pCl_m (lim := lim) hx1 hsp3 (by omega) (by omega)
            rw [pMu_b (by omega) hsp8 ht9 hnv hR5] at hE
            rw [if_neg (show ¬ R5.1 = 1 by omega)] at hE
            exact vx_iret hC hM (by decide) eX5_readClause_67 (⟨_, rfl, (by rw [hE]; show _ = 1 - (1 - R5.1); omega), (by rw [hE]; show _ = ((L ++ R5.2.2).length : Int); rw [← hL20]; exact lL20), (by rw [hE]; show cdR _ (L ++ R5.2.2); rw [← hL20]; exact cL20), (by rw [hE]; exact (by show _ = R5.2.1; rw [esp21]; exact hsp21)), qg19_3b, (by rw [hE]; show _ = (if (0 : Int) = 0 then nl else nl + 1); rw [if_pos rfl]; exact qg19_4b), (by rw [hE]; show _ = lim; exact qg19_5b), (by rw [hE]; show _ = (if (0 : Int) = 0 then _ else _); rw [if_pos rfl]; exact hg19_27), (by rw [hE]; show _ = (if (0 : Int) = 0 then _ else _); rw [if_pos rfl]; exact hg19_28), rfl, rfl, rfl, rfl, fun k hk => frvig19 k (by omega)⟩)
          · refine vx_aload_n hC 2 rfl eX5_readClause_57 ?_
            refine vx_gi hC 5 (ot_26 hO) lf_X5_38 rfl eX5_readClause_58 ?_
            refine vx_eqi qg19_4b ?_
            refine vx_bipush hC (by decide) eX5_readClause_61 ?_
            refine vx_icmp_lt hC (tgt := 68) (by omega) (by decide) eX5_readClause_63 (fun c23 => ?_) (fun c23 => absurd c23 (by omega))
            refine vx_aload_n hC 2 rfl eX5_readClause_68 ?_
            refine vx_gr hC 3 (ot_26 hO) lf_X5_9 rfl (or_26_3 hO) eX5_readClause_69 ?_
            refine vx_aload_n hC 2 rfl eX5_readClause_72 ?_
            refine vx_gi hC 5 (ot_26 hO) lf_X5_38 rfl eX5_readClause_73 ?_
            refine vx_eqi qg19_4b ?_
            refine vx_iload_n hC 1 rfl eX5_readClause_76 ?_
            refine vx_iconst hC eX5_readClause_77 ?_
            refine vx_icmp_ne hC (tgt := 85) (by omega) (by decide) eX5_readClause_78 (fun c24 => ?_) (fun c24 => ?_)
            · refine vx_iload_n hC 0 rfl eX5_readClause_85 ?_
              refine vx_ineg hC eX5_readClause_86 ?_
              refine vx_top (fun x25 hx25 => ?_)
              refine vx_iastore hC (ot_27 hO) (by omega) (by omega) eX5_readClause_87 ?_
              refine vx_vi (fun v26 hv26 => ?_)
              have hv26_26_2 : v26 26 2 = sp21 := by rw [hv26, xu_c _ _ _ _ (by decide), esp21]
              have hv26_26_1 : v26 26 1 = en := by rw [hv26, xu_c _ _ _ _ (by decide), qg19_3b]
              have hv26_26_5 : v26 26 5 = nl := by rw [hv26, xu_c _ _ _ _ (by decide), qg19_4b]
              have hv26_26_7 : v26 26 7 = (L20.length : Int) := by rw [hv26, xu_c _ _ _ _ (by decide), lL20]
              have hv26_26_8 : v26 26 8 = lim := by rw [hv26, xu_c _ _ _ _ (by decide), qg19_5b]
              obtain ⟨f27, hf27⟩ : ∃ f, f = fu (vi 27) nl x25 := ⟨_, rfl⟩
              have hv26_27 : v26 27 = f27 := by rw [hv26, hf27, xu_k, hg19_27]
              have hv26_28 : v26 28 = vi 28 := by rw [hv26, xu_c _ _ _ _ (by decide), hg19_28]
              have hv26_29 : v26 29 = (ag19 29) := by rw [hv26, xu_c _ _ _ _ (by decide)]
              have frv26 : ∀ k : Nat, (¬ k = 26 ∧ ¬ k = 27 ∧ ¬ k = 28 ∧ ¬ k = 29) → v26 k = vi k := fun k hk => by rw [hv26, xu_c _ _ _ _ (by omega)]; exact frvig19 k hk
              refine vx_aload_n hC 2 rfl eX5_readClause_88 ?_
              refine vx_gr hC 4 (ot_26 hO) lf_X5_15 rfl (or_26_4 hO) eX5_readClause_89 ?_
              refine vx_aload_n hC 2 rfl eX5_readClause_92 ?_
              refine vx_gi hC 5 (ot_26 hO) lf_X5_38 rfl eX5_readClause_93 ?_
              refine vx_eqi hv26_26_5 ?_
              refine vx_aload_n hC 2 rfl eX5_readClause_96 ?_
              refine vx_gi hC 7 (ot_26 hO) lf_X5_41 rfl eX5_readClause_97 ?_
              refine vx_eqi hv26_26_7 ?_
              refine vx_iastore hC (ot_28 hO) (by omega) (by omega) eX5_readClause_100 ?_
              refine vx_vi (fun v28 hv28 => ?_)
              have hv28_26_2 : v28 26 2 = sp21 := by rw [hv28, xu_c _ _ _ _ (by decide), hv26_26_2]
              have hv28_26_1 : v28 26 1 = en := by rw [hv28, xu_c _ _ _ _ (by decide), hv26_26_1]
              have hv28_26_5 : v28 26 5 = nl := by rw [hv28, xu_c _ _ _ _ (by decide), hv26_26_5]
              have hv28_26_7 : v28 26 7 = (L20.length : Int) := by rw [hv28, xu_c _ _ _ _ (by decide), hv26_26_7]
              have hv28_26_8 : v28 26 8 = lim := by rw [hv28, xu_c _ _ _ _ (by decide), hv26_26_8]
              have hv28_27 : v28 27 = f27 := by rw [hv28, xu_c _ _ _ _ (by decide), hv26_27]
              obtain ⟨f29, hf29⟩ : ∃ f, f = fu (vi 28) nl (L20.length : Int) := ⟨_, rfl⟩
              have hv28_28 : v28 28 = f29 := by rw [hv28, hf29, xu_k, hv26_28]
              have hv28_29 : v28 29 = (ag19 29) := by rw [hv28, xu_c _ _ _ _ (by decide), hv26_29]
              have frv28 : ∀ k : Nat, (¬ k = 26 ∧ ¬ k = 27 ∧ ¬ k = 28 ∧ ¬ k = 29) → v28 k = vi k := fun k hk => by rw [hv28, xu_c _ _ _ _ (by omega)]; exact frv26 k hk
              refine vx_aload_n hC 2 rfl eX5_readClause_101 ?_
              refine vx_dup hC rfl eX5_readClause_102 ?_
              refine vx_gi hC 5 (ot_26 hO) lf_X5_38 rfl eX5_readClause_103 ?_
              refine vx_eqi hv28_26_5 ?_
              refine vx_iconst hC eX5_readClause_106 ?_
              refine vx_iadd hC eX5_readClause_107 ?_
              refine vx_top (fun x30 hx30 => ?_)
              refine vx_pi hC 5 (ot_26 hO) lp_X5_38 rfl (Or.inl rfl) (Or.inl rfl) eX5_readClause_108 ?_
              refine vx_vi (fun v31 hv31 => ?_)
              have hv31_26_2 : v31 26 2 = sp21 := by rw [hv31, xu_k, fu_n _ _ _ (by decide), hv28_26_2]
              have hv31_26_1 : v31 26 1 = en := by rw [hv31, xu_k, fu_n _ _ _ (by decide), hv28_26_1]
              have hv31_26_5 : v31 26 5 = x30 := by rw [hv31, xu_k, fu_s]
              have hv31_26_7 : v31 26 7 = (L20.length : Int) := by rw [hv31, xu_k, fu_n _ _ _ (by decide), hv28_26_7]
              have hv31_26_8 : v31 26 8 = lim := by rw [hv31, xu_k, fu_n _ _ _ (by decide), hv28_26_8]
              have hv31_27 : v31 27 = f27 := by rw [hv31, xu_c _ _ _ _ (by decide), hv28_27]
              have hv31_28 : v31 28 = f29 := by rw [hv31, xu_c _ _ _ _ (by decide), hv28_28]
              have hv31_29 : v31 29 = (ag19 29) := by rw [hv31, xu_c _ _ _ _ (by decide), hv28_29]
              have frv31 : ∀ k : Nat, (¬ k = 26 ∧ ¬ k = 27 ∧ ¬ k = 28 ∧ ¬ k = 29) → v31 k = vi k := fun k hk => by rw [hv31, xu_c _ _ _ _ (by omega)]; exact frv28 k hk
              refine vx_iconst hC eX5_readClause_111 ?_
              have hE := pCl_m (lim := lim) hx1 hsp3 (by omega) (by omega)
              rw [pMu_b (by omega) hsp8 ht9 hnv hR5] at hE
              rw [if_pos (show R5.1 = 1 by omega)] at hE
              have hkd : ¬ ((if x1 = 1 then -10 else -200) - nv) = 0 := by split <;> omega
              exact vx_iret hC hM (by decide) eX5_readClause_112 (⟨_, rfl, (by rw [hE]; show _ = 1 - (1 - R5.1); omega), (by rw [hE]; show _ = ((L ++ R5.2.2).length : Int); rw [← hL20]; exact hv31_26_7), (by rw [hE]; show cdR _ (L ++ R5.2.2); rw [← hL20]; rw [hv31_29]; exact cL20), (by rw [hE]; exact (by show _ = R5.2.1; rw [hv31_26_2]; exact hsp21)), hv31_26_1, (by rw [hE]; show _ = (if ((if x1 = 1 then -10 else -200) - nv) = 0 then nl else nl + 1); rw [if_neg hkd, hv31_26_5]; omega), (by rw [hE]; show _ = lim; exact hv31_26_8), (by rw [hE]; show _ = (if ((if x1 = 1 then -10 else -200) - nv) = 0 then vi 27 else fu (vi 27) nl (mwt ((if x1 = 1 then -10 else -200) - nv))); rw [if_neg hkd, hv31_27, hf27]; congr 1; unfold mwt; (first | (rw [if_pos (show x1 = 1 by omega), if_pos (by omega)]; omega) | (rw [if_neg (show ¬ x1 = 1 by omega), if_neg (by omega)]; omega))), (by rw [hE]; show _ = (if ((if x1 = 1 then -10 else -200) - nv) = 0 then vi 28 else fu (vi 28) nl ((L ++ R5.2.2).length : Int)); rw [if_neg hkd, hv31_28, hf29, ← hL20]), rfl, rfl, rfl, rfl, fun k hk => frv31 k (by omega)⟩)
            · refine vx_iload_n hC 0 rfl eX5_readClause_81 ?_
              refine vx_goto hC (tgt := 87) (by decide) eX5_readClause_82 ?_
              refine vx_iastore hC (ot_27 hO) (by omega) (by omega) eX5_readClause_87 ?_
              refine vx_vi (fun v32 hv32 => ?_)
              have hv32_26_2 : v32 26 2 = sp21 := by rw [hv32, xu_c _ _ _ _ (by decide), esp21]
              have hv32_26_1 : v32 26 1 = en := by rw [hv32, xu_c _ _ _ _ (by decide), qg19_3b]
              have hv32_26_5 : v32 26 5 = nl := by rw [hv32, xu_c _ _ _ _ (by decide), qg19_4b]
              have hv32_26_7 : v32 26 7 = (L20.length : Int) := by rw [hv32, xu_c _ _ _ _ (by decide), lL20]
              have hv32_26_8 : v32 26 8 = lim := by rw [hv32, xu_c _ _ _ _ (by decide), qg19_5b]
              obtain ⟨f33, hf33⟩ : ∃ f, f = fu (vi 27) nl x6 := ⟨_, rfl⟩
              have hv32_27 : v32 27 = f33 := by rw [hv32, hf33, xu_k, hg19_27]
              have hv32_28 : v32 28 = vi 28 := by rw [hv32, xu_c _ _ _ _ (by decide), hg19_28]
              have hv32_29 : v32 29 = (ag19 29) := by rw [hv32, xu_c _ _ _ _ (by decide)]
              have frv32 : ∀ k : Nat, (¬ k = 26 ∧ ¬ k = 27 ∧ ¬ k = 28 ∧ ¬ k = 29) → v32 k = vi k := fun k hk => by rw [hv32, xu_c _ _ _ _ (by omega)]; exact frvig19 k hk
              refine vx_aload_n hC 2 rfl eX5_readClause_88 ?_
              refine vx_gr hC 4 (ot_26 hO) lf_X5_15 rfl (or_26_4 hO) eX5_readClause_89 ?_
              refine vx_aload_n hC 2 rfl eX5_readClause_92 ?_
              refine vx_gi hC 5 (ot_26 hO) lf_X5_38 rfl eX5_readClause_93 ?_
              refine vx_eqi hv32_26_5 ?_
              refine vx_aload_n hC 2 rfl eX5_readClause_96 ?_
              refine vx_gi hC 7 (ot_26 hO) lf_X5_41 rfl eX5_readClause_97 ?_
              refine vx_eqi hv32_26_7 ?_
              refine vx_iastore hC (ot_28 hO) (by omega) (by omega) eX5_readClause_100 ?_
              refine vx_vi (fun v34 hv34 => ?_)
              have hv34_26_2 : v34 26 2 = sp21 := by rw [hv34, xu_c _ _ _ _ (by decide), hv32_26_2]
              have hv34_26_1 : v34 26 1 = en := by rw [hv34, xu_c _ _ _ _ (by decide), hv32_26_1]
              have hv34_26_5 : v34 26 5 = nl := by rw [hv34, xu_c _ _ _ _ (by decide), hv32_26_5]
              have hv34_26_7 : v34 26 7 = (L20.length : Int) := by rw [hv34, xu_c _ _ _ _ (by decide), hv32_26_7]
              have hv34_26_8 : v34 26 8 = lim := by rw [hv34, xu_c _ _ _ _ (by decide), hv32_26_8]
              have hv34_27 : v34 27 = f33 := by rw [hv34, xu_c _ _ _ _ (by decide), hv32_27]
              obtain ⟨f35, hf35⟩ : ∃ f, f = fu (vi 28) nl (L20.length : Int) := ⟨_, rfl⟩
              have hv34_28 : v34 28 = f35 := by rw [hv34, hf35, xu_k, hv32_28]
              have hv34_29 : v34 29 = (ag19 29) := by rw [hv34, xu_c _ _ _ _ (by decide), hv32_29]
              have frv34 : ∀ k : Nat, (¬ k = 26 ∧ ¬ k = 27 ∧ ¬ k = 28 ∧ ¬ k = 29) → v34 k = vi k := fun k hk => by rw [hv34, xu_c _ _ _ _ (by omega)]; exact frv32 k hk
              refine vx_aload_n hC 2 rfl eX5_readClause_101 ?_
              refine vx_dup hC rfl eX5_readClause_102 ?_
              refine vx_gi hC 5 (ot_26 hO) lf_X5_38 rfl eX5_readClause_103 ?_
              refine vx_eqi hv34_26_5 ?_
              refine vx_iconst hC eX5_readClause_106 ?_
              refine vx_iadd hC eX5_readClause_107 ?_
              refine vx_top (fun x36 hx36 => ?_)
              refine vx_pi hC 5 (ot_26 hO) lp_X5_38 rfl (Or.inl rfl) (Or.inl rfl) eX5_readClause_108 ?_
              refine vx_vi (fun v37 hv37 => ?_)
              have hv37_26_2 : v37 26 2 = sp21 := by rw [hv37, xu_k, fu_n _ _ _ (by decide), hv34_26_2]
              have hv37_26_1 : v37 26 1 = en := by rw [hv37, xu_k, fu_n _ _ _ (by decide), hv34_26_1]
              have hv37_26_5 : v37 26 5 = x36 := by rw [hv37, xu_k, fu_s]
              have hv37_26_7 : v37 26 7 = (L20.length : Int) := by rw [hv37, xu_k, fu_n _ _ _ (by decide), hv34_26_7]
              have hv37_26_8 : v37 26 8 = lim := by rw [hv37, xu_k, fu_n _ _ _ (by decide), hv34_26_8]
              have hv37_27 : v37 27 = f33 := by rw [hv37, xu_c _ _ _ _ (by decide), hv34_27]
              have hv37_28 : v37 28 = f35 := by rw [hv37, xu_c _ _ _ _ (by decide), hv34_28]
              have hv37_29 : v37 29 = (ag19 29) := by rw [hv37, xu_c _ _ _ _ (by decide), hv34_29]
              have frv37 : ∀ k : Nat, (¬ k = 26 ∧ ¬ k = 27 ∧ ¬ k = 28 ∧ ¬ k = 29) → v37 k = vi k := fun k hk => by rw [hv37, xu_c _ _ _ _ (by omega)]; exact frv34 k hk
              refine vx_iconst hC eX5_readClause_111 ?_
              have hE := pCl_m (lim := lim) hx1 hsp3 (by omega) (by omega)
              rw [pMu_b (by omega) hsp8 ht9 hnv hR5] at hE
              rw [if_pos (show R5.1 = 1 by omega)] at hE
              have hkd : ¬ ((if x1 = 1 then -10 else -200) - nv) = 0 := by split <;> omega
              exact vx_iret hC hM (by decide) eX5_readClause_112 (⟨_, rfl, (by rw [hE]; show _ = 1 - (1 - R5.1); omega), (by rw [hE]; show _ = ((L ++ R5.2.2).length : Int); rw [← hL20]; exact hv37_26_7), (by rw [hE]; show cdR _ (L ++ R5.2.2); rw [← hL20]; rw [hv37_29]; exact cL20), (by rw [hE]; exact (by show _ = R5.2.1; rw [hv37_26_2]; exact hsp21)), hv37_26_1, (by rw [hE]; show _ = (if ((if x1 = 1 then -10 else -200) - nv) = 0 then nl else nl + 1); rw [if_neg hkd, hv37_26_5]; omega), (by rw [hE]; show _ = lim; exact hv37_26_8), (by rw [hE]; show _ = (if ((if x1 = 1 then -10 else -200) - nv) = 0 then vi 27 else fu (vi 27) nl (mwt ((if x1 = 1 then -10 else -200) - nv))); rw [if_neg hkd, hv37_27, hf33]; congr 1; unfold mwt; (first | (rw [if_pos (show x1 = 1 by omega), if_pos (by omega)]; omega) | (rw [if_neg (show ¬ x1 = 1 by omega), if_neg (by omega)]; omega))), (by rw [hE]; show _ = (if ((if x1 = 1 then -10 else -200) - nv) = 0 then vi 28 else fu (vi 28) nl ((L ++ R5.2.2).length : Int)); rw [if_neg hkd, hv37_28, hf35, ← hL20]), rfl, rfl, rfl, rfl, fun k hk => frv37 k (by omega)⟩)
      · refine vx_aload_n hC 2 rfl eX5_readClause_29 ?_
        refine vx_iconst hC eX5_readClause_30 ?_
        refine vx_iload_n hC 0 rfl eX5_readClause_31 ?_
        refine vx_mmax hC (by omega) ly_X5_92 hRm (by omega) (Nat.le_of_ble_eq_true rfl) eX5_readClause_32 ?_
        refine vx_top (fun x38 hx38 => ?_)
        have rx38 := mmax_r hx38
        refine vx_pi hC 8 (ot_26 hO) lp_X5_44 rfl (Or.inl rfl) (Or.inl rfl) eX5_readClause_35 ?_
        refine vx_vi (fun v39 hv39 => ?_)
        have hv39_26_2 : v39 26 2 = sp8 := by rw [hv39, xu_k, fu_n _ _ _ (by decide), esp8]
        have hv39_26_1 : v39 26 1 = en := by rw [hv39, xu_k, fu_n _ _ _ (by decide), qg7_1b]
        have hv39_26_5 : v39 26 5 = nl := by rw [hv39, xu_k, fu_n _ _ _ (by decide), qg7_2b]
        have hv39_26_7 : v39 26 7 = (L.length : Int) := by rw [hv39, xu_k, fu_n _ _ _ (by decide), qg7_3b]
        have hv39_26_8 : v39 26 8 = x38 := by rw [hv39, xu_k, fu_s]
        have hv39_27 : v39 27 = vi 27 := by rw [hv39, xu_c _ _ _ _ (by decide), hg7_27]
        have hv39_28 : v39 28 = vi 28 := by rw [hv39, xu_c _ _ _ _ (by decide), hg7_28]
        have hv39_29 : v39 29 = (ag7 29) := by rw [hv39, xu_c _ _ _ _ (by decide)]
        have frv39 : ∀ k : Nat, (¬ k = 26 ∧ ¬ k = 27 ∧ ¬ k = 28 ∧ ¬ k = 29) → v39 k = vi k := fun k hk => by rw [hv39, xu_c _ _ _ _ (by omega)]; exact frvig7 k hk
        refine vx_iconst hC eX5_readClause_38 ?_
        have hE := pCl_3 (lim := lim) hx1 hsp3 (by omega) (by omega) hsp8 hnv
        exact vx_iret hC hM (by decide) eX5_readClause_39 (⟨_, rfl, (by rw [hE]; rfl), (by rw [hE]; show _ = ((L ++ []).length : Int); rw [List.append_nil]; exact hv39_26_7), (by rw [hE]; show cdR _ (L ++ []); rw [List.append_nil]; rw [hv39_29]; exact cd9), (by rw [hE]; exact (by show _ = sp8; exact hv39_26_2)), hv39_26_1, (by rw [hE]; show _ = (if (0 : Int) = 0 then nl else nl + 1); rw [if_pos rfl]; exact hv39_26_5), (by rw [hE]; show _ = (if nv < 1 then 1 else nv); rw [hv39_26_8]; split <;> omega), (by rw [hE]; show _ = (if (0 : Int) = 0 then _ else _); rw [if_pos rfl]; exact hv39_27), (by rw [hE]; show _ = (if (0 : Int) = 0 then _ else _); rw [if_pos rfl]; exact hv39_28), rfl, rfl, rfl, rfl, fun k hk => frv39 k (by omega)⟩)
    · refine vx_iconst hC eX5_readClause_22 ?_
      have hE := pCl_n (lim := lim) hx1 hsp3 (by omega) (by omega) hsp8
      exact vx_iret hC hM (by decide) eX5_readClause_23 (⟨_, rfl, (by rw [hE]; rfl), (by rw [hE]; show _ = ((L ++ []).length : Int); rw [List.append_nil]; exact qg7_3b), (by rw [hE]; show cdR _ (L ++ []); rw [List.append_nil]; exact cd9), (by rw [hE]; exact (by show _ = sp8; exact esp8)), qg7_1b, (by rw [hE]; show _ = (if (0 : Int) = 0 then nl else nl + 1); rw [if_pos rfl]; exact qg7_2b), (by rw [hE]; show _ = lim; exact qg7_4b), (by rw [hE]; show _ = (if (0 : Int) = 0 then _ else _); rw [if_pos rfl]; exact hg7_27), (by rw [hE]; show _ = (if (0 : Int) = 0 then _ else _); rw [if_pos rfl]; exact hg7_28), rfl, rfl, rfl, rfl, fun k hk => frvig7 k (by omega)⟩)
  · refine vx_iconst hC eX5_readClause_9 ?_
    refine vx_goto hC (tgt := 17) (by decide) eX5_readClause_10 ?_
    refine vx_istore_n hC (lv1 := [(2, xa_i (-1)), (1, xa_i x1), (0, xa_r 26)]) (by decide) rfl eX5_readClause_17 ?_
    refine vx_iload_n hC 0 rfl eX5_readClause_18 ?_
    refine vx_if_ge hC (tgt := 24) (by omega) (by decide) eX5_readClause_19 (fun c40 => absurd c40 (by omega)) (fun c40 => ?_)
    refine vx_iconst hC eX5_readClause_22 ?_
    have hE := pCl_0 (lim := lim) hx1 hsp3 (by omega)
    exact vx_iret hC hM (by decide) eX5_readClause_23 (⟨_, rfl, (by rw [hE]; rfl), (by rw [hE]; show _ = ((L ++ []).length : Int); rw [List.append_nil]; exact qg2_3b), (by rw [hE]; show cdR _ (L ++ []); rw [List.append_nil]; exact cd4), (by rw [hE]; exact (by show _ = sp3; exact esp3)), qg2_1b, (by rw [hE]; show _ = (if (0 : Int) = 0 then nl else nl + 1); rw [if_pos rfl]; exact qg2_2b), (by rw [hE]; show _ = lim; exact qg2_4b), (by rw [hE]; show _ = (if (0 : Int) = 0 then _ else _); rw [if_pos rfl]; exact hg2_27), (by rw [hE]; show _ = (if (0 : Int) = 0 then _ else _); rw [if_pos rfl]; exact hg2_28), rfl, rfl, rfl, rfl, fun k hk => frvig2 k (by omega)⟩)
