/-- the word before a clause: 1 lean, 2 tilt, 3 limit, 0 none; the place behind it -/
def pWd (h : Int → Int) (sp : Int) : Int × Int := if h sp = 116 then (if (pLt h [105, 108, 116, 32] 0 (sp + 1)).1 = 0 then 2 else 0, (pLt h [105, 108, 116, 32] 0 (sp + 1)).2) else if h sp = 108 then (if h (sp + 1) = 101 then (if (pLt h [97, 110, 32] 0 (sp + 2)).1 = 0 then 1 else 0, (pLt h [97, 110, 32] 0 (sp + 2)).2) else (if (pLt h [105, 109, 105, 116, 32] 0 (sp + 1)).1 = 0 then 3 else 0, (pLt h [105, 109, 105, 116, 32] 0 (sp + 1)).2)) else (0, sp)
def pMu (h : Int → Int) (kd s lim : Int) : pc_T :=
  let w3 := pMw h 32 (pNw h 0 s) (pNs h 0 s)
  let s3 := pMs h 32 (pNw h 0 s) (pNs h 0 s)
  let r := pW w3 (pEx (pF h 5) h s3) s3
  (1 - r.1, r.2.1, r.2.2, if r.1 = 1 then kd - pNv h 0 s else 0, lim)
theorem pMuch_0 {h : Int → Int} {l : List Int} {kd sp lim : Int} (e : (pLt h l 0 sp).1 = 0) : pMuch h l kd sp lim = pMu h kd (pLt h l 0 sp).2 lim := by
  unfold pMuch pMu; dsimp only; rw [e]
theorem pMuch_1 {h : Int → Int} {l : List Int} {kd sp lim : Int} (e : ¬ (pLt h l 0 sp).1 = 0) : pMuch h l kd sp lim = (1, (pLt h l 0 sp).2, [], 0, lim) := by
  unfold pMuch; dsimp only
  generalize pLt h l 0 sp = A at *
  have e1 : pNw h A.1 A.2 = 1 := by unfold pNw; rw [if_neg (by omega)]
  have e2 : pNs h A.1 A.2 = A.2 := by unfold pNs; rw [if_neg (by omega)]
  rw [e1, e2]
  have e3 : pMw h 32 1 A.2 = 1 := by unfold pMw; rw [if_neg (by omega)]
  have e4 : pMs h 32 1 A.2 = A.2 := by unfold pMs; rw [if_neg (by omega)]
  rw [e3, e4]
  unfold pW
  rw [if_neg (by decide)]
  rfl
theorem pWd_t {h : Int → Int} {sp : Int} (e : h sp = 116) : pWd h sp = (if (pLt h [105, 108, 116, 32] 0 (sp + 1)).1 = 0 then 2 else 0, (pLt h [105, 108, 116, 32] 0 (sp + 1)).2) := by unfold pWd; rw [if_pos e]
theorem pWd_e {h : Int → Int} {sp : Int} (e : h sp = 108) (e1 : h (sp + 1) = 101) : pWd h sp = (if (pLt h [97, 110, 32] 0 (sp + 2)).1 = 0 then 1 else 0, (pLt h [97, 110, 32] 0 (sp + 2)).2) := by unfold pWd; rw [if_neg (by omega), if_pos e, if_pos e1]
theorem pWd_i {h : Int → Int} {sp : Int} (e : h sp = 108) (e1 : ¬ h (sp + 1) = 101) : pWd h sp = (if (pLt h [105, 109, 105, 116, 32] 0 (sp + 1)).1 = 0 then 3 else 0, (pLt h [105, 109, 105, 116, 32] 0 (sp + 1)).2) := by unfold pWd; rw [if_neg (by omega), if_pos e, if_neg e1]
theorem pWd_n {h : Int → Int} {sp : Int} (e : ¬ h sp = 116) (e1 : ¬ h sp = 108) : pWd h sp = (0, sp) := by unfold pWd; rw [if_neg e, if_neg e1]
theorem pCl_wd (h : Int → Int) (sp lim : Int) : pCl h sp lim = if (pWd h sp).1 = 0 then (1, (pWd h sp).2, [], 0, lim) else if (pWd h sp).1 = 3 then (pNw h 0 (pWd h sp).2, pNs h 0 (pWd h sp).2, [], 0, if pNw h 0 (pWd h sp).2 = 0 then (if pNv h 0 (pWd h sp).2 < 1 then 1 else pNv h 0 (pWd h sp).2) else lim) else pMu h (if (pWd h sp).1 = 1 then -10 else -200) (pWd h sp).2 lim := by
  unfold pCl
  by_cases e1 : h sp = 116
  · rw [if_pos e1, pWd_t e1]
    have q1 : pLt h [116, 105, 108, 116, 32] 0 sp = pLt h [105, 108, 116, 32] 0 (sp + 1) := by
      rw [pLt]; unfold pMw pMs; rw [if_pos ⟨rfl, e1⟩, if_pos ⟨rfl, e1⟩]
    by_cases e : (pLt h [105, 108, 116, 32] 0 (sp + 1)).1 = 0
    · rw [pMuch_0 (by rw [q1]; exact e), q1]
      generalize pLt h [105, 108, 116, 32] 0 (sp + 1) = A at *
      dsimp only
      rw [if_pos e, if_neg (show ¬ (2 : Int) = 0 by decide), if_neg (show ¬ (2 : Int) = 3 by decide), if_neg (show ¬ (2 : Int) = 1 by decide)]
    · rw [pMuch_1 (by rw [q1]; exact e), q1]
      generalize pLt h [105, 108, 116, 32] 0 (sp + 1) = A at *
      dsimp only
      rw [if_neg e, if_pos rfl]
  · rw [if_neg e1]
    by_cases e2 : h sp = 108
    · rw [if_pos e2]
      by_cases e3 : h (sp + 1) = 101
      · rw [if_pos e3, pWd_e e2 e3]
        have q1 : pLt h [101, 97, 110, 32] 0 (sp + 1) = pLt h [97, 110, 32] 0 (sp + 2) := by
          rw [pLt]; unfold pMw pMs; rw [if_pos ⟨rfl, e3⟩, if_pos ⟨rfl, e3⟩, show sp + 1 + 1 = sp + 2 by omega]
        by_cases e : (pLt h [97, 110, 32] 0 (sp + 2)).1 = 0
        · rw [pMuch_0 (by rw [q1]; exact e), q1]
          generalize pLt h [97, 110, 32] 0 (sp + 2) = A at *
          dsimp only
          rw [if_pos e, if_neg (show ¬ (1 : Int) = 0 by decide), if_neg (show ¬ (1 : Int) = 3 by decide), if_pos rfl]
        · rw [pMuch_1 (by rw [q1]; exact e), q1]
          generalize pLt h [97, 110, 32] 0 (sp + 2) = A at *
          dsimp only
          rw [if_neg e, if_pos rfl]
      · rw [if_neg e3, pWd_i e2 e3]
        unfold pLim; dsimp only
        generalize pLt h [105, 109, 105, 116, 32] 0 (sp + 1) = A at *
        by_cases e : A.1 = 0
        · rw [if_pos e, if_neg (show ¬ (3 : Int) = 0 by decide), if_pos rfl, e]
        · have e4 : pNw h A.1 A.2 = 1 := by unfold pNw; rw [if_neg (by omega)]
          have e5 : pNs h A.1 A.2 = A.2 := by unfold pNs; rw [if_neg (by omega)]
          rw [if_neg e, if_pos rfl, e4, e5, if_neg (show ¬ (1 : Int) = 0 by decide)]
    · rw [if_neg e2, pWd_n e1 e2]; dsimp only; rw [if_pos rfl]
theorem pWd_r {h u : Int → Int} {en sp : Int} (hh : pH h u en) (hs : 0 ≤ sp ∧ sp ≤ en) : ((pWd h sp).1 = 0 ∨ (pWd h sp).1 = 1 ∨ (pWd h sp).1 = 2 ∨ (pWd h sp).1 = 3) ∧ sp ≤ (pWd h sp).2 ∧ (pWd h sp).2 ≤ en ∧ (¬ (pWd h sp).1 = 0 → sp + 5 ≤ (pWd h sp).2) := by
  have b1 := hh.2 sp
  have b2 := hh.2 (sp + 1)
  by_cases e1 : h sp = 116
  · rw [pWd_t e1]
    have a := pLt_r hh [105, 108, 116, 32] 0 (sp + 1) (by decide) (Or.inl rfl) (by omega)
    have a9 := pLt_len (h := h) [105, 108, 116, 32] 0 (sp + 1)
    have l9 : (([105, 108, 116, 32] : List Int).length : Int) = 4 := rfl
    generalize pLt h [105, 108, 116, 32] 0 (sp + 1) = A at *
    by_cases e : A.1 = 0
    · rw [if_pos e]; have a8 := (a9 e).2
      exact ⟨Or.inr (Or.inr (Or.inl rfl)), by show sp ≤ A.2; omega, a.2.2.1, fun _ => by show sp + 5 ≤ A.2; omega⟩
    · rw [if_neg e]
      exact ⟨Or.inl rfl, by show sp ≤ A.2; omega, a.2.2.1, fun g => absurd rfl g⟩
  · by_cases e2 : h sp = 108
    · by_cases e3 : h (sp + 1) = 101
      · rw [pWd_e e2 e3]
        have a := pLt_r hh [97, 110, 32] 0 (sp + 2) (by decide) (Or.inl rfl) (by omega)
        have a9 := pLt_len (h := h) [97, 110, 32] 0 (sp + 2)
        have l9 : (([97, 110, 32] : List Int).length : Int) = 3 := rfl
        generalize pLt h [97, 110, 32] 0 (sp + 2) = A at *
        by_cases e : A.1 = 0
        · rw [if_pos e]; have a8 := (a9 e).2
          exact ⟨Or.inr (Or.inl rfl), by show sp ≤ A.2; omega, a.2.2.1, fun _ => by show sp + 5 ≤ A.2; omega⟩
        · rw [if_neg e]
          exact ⟨Or.inl rfl, by show sp ≤ A.2; omega, a.2.2.1, fun g => absurd rfl g⟩
      · rw [pWd_i e2 e3]
        have a := pLt_r hh [105, 109, 105, 116, 32] 0 (sp + 1) (by decide) (Or.inl rfl) (by omega)
        have a9 := pLt_len (h := h) [105, 109, 105, 116, 32] 0 (sp + 1)
        have l9 : (([105, 109, 105, 116, 32] : List Int).length : Int) = 5 := rfl
        generalize pLt h [105, 109, 105, 116, 32] 0 (sp + 1) = A at *
        by_cases e : A.1 = 0
        · rw [if_pos e]; have a8 := (a9 e).2
          exact ⟨Or.inr (Or.inr (Or.inr rfl)), by show sp ≤ A.2; omega, a.2.2.1, fun _ => by show sp + 5 ≤ A.2; omega⟩
        · rw [if_neg e]
          exact ⟨Or.inl rfl, by show sp ≤ A.2; omega, a.2.2.1, fun g => absurd rfl g⟩
    · rw [pWd_n e1 e2]
      exact ⟨Or.inl rfl, by show sp ≤ sp; omega, hs.2, fun g => absurd rfl g⟩
theorem kX5_takeAllA (G : xg_T) (d : Nat) (n : Nat) (tau : Nat → Nat × Nat) (vi vl : Nat → Int → Int) (vr : Nat → Int → Option Nat) (hO : xo n tau vr) (h u : Int → Int) (en sp : Int) (h2 : vi 26 2 = sp) (h1 : vi 26 1 = en) (hr0 : vr 26 0 = some 2) (hen : pH h u en) (htp : ∀ z, 0 ≤ z → z < en → vi 2 z = h z ∧ 0 ≤ h z) (hsp : 0 ≤ sp ∧ sp ≤ en) (i : Nat) (hi : i < 8) (A : Int × Int) (hA : A = pLt h (xw_byt.getD i []) 0 sp) : xm G yX5_takeAll cX5_takeAll 3 (some .boolean) (d + 5) 0 0 [xa_r 26, xa_r (1000002 + i)] n tau vi vl vr (xp_i (fun z9 n1 t1 a1 b1 c1 => (z9 = 1 - A.1) ∧ (a1 26 2 = A.2) ∧ (a1 26 1 = en) ∧ (a1 26 5 = vi 26 5) ∧ (a1 26 7 = vi 26 7) ∧ (a1 26 8 = vi 26 8) ∧ xs_I (fun k => ¬ k = 26) n tau vi vl vr n1 t1 a1 b1 c1)) := by
  subst hA; exact kX5_takeAll G d n tau vi vl vr hO h u en sp h2 h1 hr0 hen htp hsp i hi
set_option maxHeartbeats 4000000 in
set_option maxRecDepth 100000 in
theorem kX5_readWord (G : xg_T) (d : Nat) (n : Nat) (tau : Nat → Nat × Nat) (vi vl : Nat → Int → Int) (vr : Nat → Int → Option Nat) (hO : xo n tau vr) (h u : Int → Int) (en sp : Int) (h2 : vi 26 2 = sp) (h1 : vi 26 1 = en) (hr0 : vr 26 0 = some 2) (hen : pH h u en) (htp : ∀ z, 0 ≤ z → z < en → vi 2 z = h z ∧ 0 ≤ h z) (hsp : 0 ≤ sp ∧ sp ≤ en)  : xm G yX5_readWord cX5_readWord 1 (some .int) (d + 6) 0 0 [xa_r 26] n tau vi vl vr (xp_i (fun z9 n1 t1 a1 b1 c1 => (z9 = (pWd h sp).1) ∧ (a1 26 2 = (pWd h sp).2) ∧ (a1 26 1 = en) ∧ (a1 26 5 = vi 26 5) ∧ (a1 26 7 = vi 26 7) ∧ (a1 26 8 = vi 26 8) ∧ xs_I (fun k => ¬ k = 26) n tau vi vl vr n1 t1 a1 b1 c1)) := by
  refine xm.of (lv := [(0, xa_r 26)]) (by decide) (Nat.le_of_ble_eq_true rfl) rfl (fun K hC hM hRm => ?_)
  have he := hen.1
  have hh := hen.2
  have hhs := hh sp
  have hhs1 := hh (sp + 1)
  refine vx_aload_n hC 0 rfl eX5_readWord_0 ?_
  refine vx_bipush hC (by decide) eX5_readWord_1 ?_
  refine vx_callV_i hC (kX5_take G (d + 4) _ _ _ _ _ hO h u en sp h2 h1 hr0 hen htp (by omega) 116 (by omega)) ly_X5_51 (ot_26 hO) rfl rfl rfl hRm (by omega) (Nat.le_of_ble_eq_true rfl) rfl eX5_readWord_3 (fun x1 ng2 tg2 ag2 bg2 cg2 hg2 => ?_)
  obtain ⟨hx1, qg2_0, qg2_1, qg2_2, qg2_3, qg2_4, rfl, rfl, rfl, rfl, frg2⟩ := hg2
  have qg2_0b : ag2 26 2 = sp + x1 := by first | exact qg2_0 | rw [qg2_0, h2] | (rw [qg2_0]; exact h2)
  have qg2_1b : ag2 26 1 = en := by first | exact qg2_1 | rw [qg2_1, h1] | (rw [qg2_1]; exact h1)
  have frvig2 : ∀ k : Nat, (¬ k = 26) → ag2 k = vi k := fun k hk => (frg2 k (by omega))
  obtain ⟨sp3, hsp3⟩ : ∃ z : Int, z = sp + x1 := ⟨_, rfl⟩
  have esp3 : ag2 26 2 = sp3 := by rw [hsp3]; exact qg2_0b
  have hbsp3 := hh sp
  clear hbsp3
  refine vx_if_eq hC (tgt := 24) (by omega) (by decide) eX5_readWord_6 (fun c4 => ?_) (fun c4 => ?_)
  · have fx1 : ¬ h sp = 116 := by clear hhs hhs1; omega
    have es5 : ag2 26 2 = sp := by first | (rw [esp3]; done) | (rw [esp3]; omega)
    clear hx1
    refine vx_aload_n hC 0 rfl eX5_readWord_24 ?_
    refine vx_bipush hC (by decide) eX5_readWord_25 ?_
    refine vx_callV_i hC (kX5_take G (d + 4) _ _ _ _ _ hO h u en sp es5 qg2_1b hr0 hen (fun z z1 z2 => by rw [frvig2 2 (by omega)]; exact htp z z1 z2) (by omega) 108 (by omega)) ly_X5_51 (ot_26 hO) rfl rfl rfl hRm (by omega) (Nat.le_of_ble_eq_true rfl) rfl eX5_readWord_27 (fun x6 ng7 tg7 ag7 bg7 cg7 hg7 => ?_)
    obtain ⟨hx6, qg7_0, qg7_1, qg7_2, qg7_3, qg7_4, rfl, rfl, rfl, rfl, frg7⟩ := hg7
    have qg7_0b : ag7 26 2 = sp + x6 := by first | exact qg7_0 | rw [qg7_0, es5] | (rw [qg7_0]; exact es5)
    have qg7_1b : ag7 26 1 = en := by first | exact qg7_1 | rw [qg7_1, qg2_1b] | (rw [qg7_1]; exact qg2_1b)
    have qg7_2b : ag7 26 5 = vi 26 5 := by first | exact qg7_2 | rw [qg7_2, qg2_2] | (rw [qg7_2]; exact qg2_2)
    have qg7_3b : ag7 26 7 = vi 26 7 := by first | exact qg7_3 | rw [qg7_3, qg2_3] | (rw [qg7_3]; exact qg2_3)
    have qg7_4b : ag7 26 8 = vi 26 8 := by first | exact qg7_4 | rw [qg7_4, qg2_4] | (rw [qg7_4]; exact qg2_4)
    have frvig7 : ∀ k : Nat, (¬ k = 26) → ag7 k = vi k := fun k hk => (frg7 k (by omega)).trans (frvig2 k hk)
    obtain ⟨sp8, hsp8⟩ : ∃ z : Int, z = sp + x6 := ⟨_, rfl⟩
    have esp8 : ag7 26 2 = sp8 := by rw [hsp8]; exact qg7_0b
    have hbsp8 := hh sp
    clear hbsp8
    refine vx_if_ne hC (tgt := 35) (by omega) (by decide) eX5_readWord_30 (fun c9 => ?_) (fun c9 => ?_)
    · have fx6 : h sp = 108 := by omega
      have fx6b : sp < en := by omega
      have es10 : ag7 26 2 = (sp + 1) := by first | (rw [esp8]; done) | (rw [esp8]; omega)
      clear hx6
      refine vx_aload_n hC 0 rfl eX5_readWord_35 ?_
      refine vx_bipush hC (by decide) eX5_readWord_36 ?_
      refine vx_callV_i hC (kX5_take G (d + 4) _ _ _ _ _ hO h u en (sp + 1) es10 qg7_1b hr0 hen (fun z z1 z2 => by rw [frvig7 2 (by omega)]; exact htp z z1 z2) (by omega) 101 (by omega)) ly_X5_51 (ot_26 hO) rfl rfl rfl hRm (by omega) (Nat.le_of_ble_eq_true rfl) rfl eX5_readWord_38 (fun x11 ng12 tg12 ag12 bg12 cg12 hg12 => ?_)
      obtain ⟨hx11, qg12_0, qg12_1, qg12_2, qg12_3, qg12_4, rfl, rfl, rfl, rfl, frg12⟩ := hg12
      have qg12_0b : ag12 26 2 = (sp + 1) + x11 := by first | exact qg12_0 | rw [qg12_0, es10] | (rw [qg12_0]; exact es10)
      have qg12_1b : ag12 26 1 = en := by first | exact qg12_1 | rw [qg12_1, qg7_1b] | (rw [qg12_1]; exact qg7_1b)
      have qg12_2b : ag12 26 5 = vi 26 5 := by first | exact qg12_2 | rw [qg12_2, qg7_2b] | (rw [qg12_2]; exact qg7_2b)
      have qg12_3b : ag12 26 7 = vi 26 7 := by first | exact qg12_3 | rw [qg12_3, qg7_3b] | (rw [qg12_3]; exact qg7_3b)
      have qg12_4b : ag12 26 8 = vi 26 8 := by first | exact qg12_4 | rw [qg12_4, qg7_4b] | (rw [qg12_4]; exact qg7_4b)
      have frvig12 : ∀ k : Nat, (¬ k = 26) → ag12 k = vi k := fun k hk => (frg12 k (by omega)).trans (frvig7 k hk)
      obtain ⟨sp13, hsp13⟩ : ∃ z : Int, z = (sp + 1) + x11 := ⟨_, rfl⟩
      have esp13 : ag12 26 2 = sp13 := by rw [hsp13]; exact qg12_0b
      have hbsp13 := hh (sp + 1)
      clear hbsp13
      refine vx_if_eq hC (tgt := 59) (by omega) (by decide) eX5_readWord_41 (fun c14 => ?_) (fun c14 => ?_)
      · have fx11 : ¬ h (sp + 1) = 101 := by clear hhs hhs1; omega
        have es15 : ag12 26 2 = (sp + 1) := by first | (rw [esp13]; done) | (rw [esp13]; omega)
        clear hx11
        refine vx_aload_n hC 0 rfl eX5_readWord_59 ?_
        refine vx_ldcs hC (i := 2) (tx := "imit ") (by decide) eX5_readWord_60 ?_
        have es16 : ag12 26 2 = (sp + 1) := by first | (rw [es15]; done) | (rw [es15]; omega)
        have hf9 := pLt_r hen [105, 109, 105, 116, 32] 0 (sp + 1) (by decide) (by omega) (by omega)
        generalize hA : pLt h [105, 109, 105, 116, 32] 0 (sp + 1) = A at *
        replace hA := hA.symm
        clear hhs hhs1
        refine vx_callV_i hC (kX5_takeAllA G d _ _ _ _ _ hO h u en (sp + 1) es16 qg12_1b hr0 hen (fun z z1 z2 => by rw [frvig12 2 (by omega)]; exact htp z z1 z2) (by omega) 2 (by decide) A hA) ly_X5_101 (ot_26 hO) rfl rfl rfl hRm (by omega) (Nat.le_of_ble_eq_true rfl) rfl eX5_readWord_62 (fun x17 ng18 tg18 ag18 bg18 cg18 hg18 => ?_)
        obtain ⟨hx17, qg18_0, qg18_1, qg18_2, qg18_3, qg18_4, rfl, rfl, rfl, rfl, frg18⟩ := hg18
        have qg18_0b : ag18 26 2 = A.2 := by first | exact qg18_0 | rw [qg18_0, es16] | (rw [qg18_0]; exact es16)
        have qg18_1b : ag18 26 1 = en := by first | exact qg18_1 | rw [qg18_1, qg12_1b] | (rw [qg18_1]; exact qg12_1b)
        have qg18_2b : ag18 26 5 = vi 26 5 := by first | exact qg18_2 | rw [qg18_2, qg12_2b] | (rw [qg18_2]; exact qg12_2b)
        have qg18_3b : ag18 26 7 = vi 26 7 := by first | exact qg18_3 | rw [qg18_3, qg12_3b] | (rw [qg18_3]; exact qg12_3b)
        have qg18_4b : ag18 26 8 = vi 26 8 := by first | exact qg18_4 | rw [qg18_4, qg12_4b] | (rw [qg18_4]; exact qg12_4b)
        have frvig18 : ∀ k : Nat, (¬ k = 26) → ag18 k = vi k := fun k hk => (frg18 k (by omega)).trans (frvig12 k hk)
        obtain ⟨sp19, hsp19⟩ : ∃ z : Int, z = A.2 := ⟨_, rfl⟩
        have esp19 : ag18 26 2 = sp19 := by rw [hsp19]; exact qg18_0b
        have hbsp19 := hh (sp + 1)
        clear hbsp19
        refine vx_if_eq hC (tgt := 72) (by omega) (by decide) eX5_readWord_65 (fun c20 => ?_) (fun c20 => ?_)
        · refine vx_iconst hC eX5_readWord_72 ?_
          have hE := pWd_i (h := h) (sp := sp) (by assumption) (by assumption)
          rw [← hA] at hE
          exact vx_iret hC hM (by decide) eX5_readWord_73 (⟨_, rfl, (by rw [hE]; show _ = (if A.1 = 0 then _ else _); first | (rw [if_pos (by omega)]; done) | (rw [if_neg (by omega)]; done)), (by rw [hE, esp19]; exact hsp19), qg18_1b, qg18_2b, qg18_3b, qg18_4b, rfl, rfl, rfl, rfl, fun k hk => frvig18 k hk⟩)
        · refine vx_iconst hC eX5_readWord_68 ?_
          refine vx_goto hC (tgt := 73) (by decide) eX5_readWord_69 ?_
          have hE := pWd_i (h := h) (sp := sp) (by assumption) (by assumption)
          rw [← hA] at hE
          exact vx_iret hC hM (by decide) eX5_readWord_73 (⟨_, rfl, (by rw [hE]; show _ = (if A.1 = 0 then _ else _); first | (rw [if_pos (by omega)]; done) | (rw [if_neg (by omega)]; done)), (by rw [hE, esp19]; exact hsp19), qg18_1b, qg18_2b, qg18_3b, qg18_4b, rfl, rfl, rfl, rfl, fun k hk => frvig18 k hk⟩)
      · have fx11 : h (sp + 1) = 101 := by omega
        have fx11b : sp + 1 < en := by omega
        have es21 : ag12 26 2 = (sp + 2) := by first | (rw [esp13]; done) | (rw [esp13]; omega)
        clear hx11
        refine vx_aload_n hC 0 rfl eX5_readWord_44 ?_
        refine vx_ldcs hC (i := 1) (tx := "an ") (by decide) eX5_readWord_45 ?_
        have es22 : ag12 26 2 = (sp + 2) := by first | (rw [es21]; done) | (rw [es21]; omega)
        have hf9 := pLt_r hen [97, 110, 32] 0 (sp + 2) (by decide) (by omega) (by omega)
        generalize hA : pLt h [97, 110, 32] 0 (sp + 2) = A at *
        replace hA := hA.symm
        clear hhs hhs1
        refine vx_callV_i hC (kX5_takeAllA G d _ _ _ _ _ hO h u en (sp + 2) es22 qg12_1b hr0 hen (fun z z1 z2 => by rw [frvig12 2 (by omega)]; exact htp z z1 z2) (by omega) 1 (by decide) A hA) ly_X5_101 (ot_26 hO) rfl rfl rfl hRm (by omega) (Nat.le_of_ble_eq_true rfl) rfl eX5_readWord_47 (fun x23 ng24 tg24 ag24 bg24 cg24 hg24 => ?_)
        obtain ⟨hx23, qg24_0, qg24_1, qg24_2, qg24_3, qg24_4, rfl, rfl, rfl, rfl, frg24⟩ := hg24
        have qg24_0b : ag24 26 2 = A.2 := by first | exact qg24_0 | rw [qg24_0, es22] | (rw [qg24_0]; exact es22)
        have qg24_1b : ag24 26 1 = en := by first | exact qg24_1 | rw [qg24_1, qg12_1b] | (rw [qg24_1]; exact qg12_1b)
        have qg24_2b : ag24 26 5 = vi 26 5 := by first | exact qg24_2 | rw [qg24_2, qg12_2b] | (rw [qg24_2]; exact qg12_2b)
        have qg24_3b : ag24 26 7 = vi 26 7 := by first | exact qg24_3 | rw [qg24_3, qg12_3b] | (rw [qg24_3]; exact qg12_3b)
        have qg24_4b : ag24 26 8 = vi 26 8 := by first | exact qg24_4 | rw [qg24_4, qg12_4b] | (rw [qg24_4]; exact qg12_4b)
        have frvig24 : ∀ k : Nat, (¬ k = 26) → ag24 k = vi k := fun k hk => (frg24 k (by omega)).trans (frvig12 k hk)
        obtain ⟨sp25, hsp25⟩ : ∃ z : Int, z = A.2 := ⟨_, rfl⟩
        have esp25 : ag24 26 2 = sp25 := by rw [hsp25]; exact qg24_0b
        have hbsp25 := hh (sp + 2)
        clear hbsp25
        refine vx_if_eq hC (tgt := 57) (by omega) (by decide) eX5_readWord_50 (fun c26 => ?_) (fun c26 => ?_)
        · refine vx_iconst hC eX5_readWord_57 ?_
          have hE := pWd_e (h := h) (sp := sp) (by assumption) (by assumption)
          rw [← hA] at hE
          exact vx_iret hC hM (by decide) eX5_readWord_58 (⟨_, rfl, (by rw [hE]; show _ = (if A.1 = 0 then _ else _); first | (rw [if_pos (by omega)]; done) | (rw [if_neg (by omega)]; done)), (by rw [hE, esp25]; exact hsp25), qg24_1b, qg24_2b, qg24_3b, qg24_4b, rfl, rfl, rfl, rfl, fun k hk => frvig24 k hk⟩)
        · refine vx_iconst hC eX5_readWord_53 ?_
          refine vx_goto hC (tgt := 58) (by decide) eX5_readWord_54 ?_
          have hE := pWd_e (h := h) (sp := sp) (by assumption) (by assumption)
          rw [← hA] at hE
          exact vx_iret hC hM (by decide) eX5_readWord_58 (⟨_, rfl, (by rw [hE]; show _ = (if A.1 = 0 then _ else _); first | (rw [if_pos (by omega)]; done) | (rw [if_neg (by omega)]; done)), (by rw [hE, esp25]; exact hsp25), qg24_1b, qg24_2b, qg24_3b, qg24_4b, rfl, rfl, rfl, rfl, fun k hk => frvig24 k hk⟩)
    · have fx6 : ¬ h sp = 108 := by clear hhs hhs1; omega
      have es27 : ag7 26 2 = sp := by first | (rw [esp8]; done) | (rw [esp8]; omega)
      clear hx6
      refine vx_iconst hC eX5_readWord_33 ?_
      have hE := pWd_n (h := h) (sp := sp) (by assumption) (by assumption)
      exact vx_iret hC hM (by decide) eX5_readWord_34 (⟨_, rfl, (by rw [hE]), (by first | (rw [hE, es27]; done) | (rw [hE, es27]; show _ = sp; omega)), qg7_1b, qg7_2b, qg7_3b, qg7_4b, rfl, rfl, rfl, rfl, fun k hk => frvig7 k hk⟩)
  · have fx1 : h sp = 116 := by omega
    have fx1b : sp < en := by omega
    have es28 : ag2 26 2 = (sp + 1) := by first | (rw [esp3]; done) | (rw [esp3]; omega)
    clear hx1
    refine vx_aload_n hC 0 rfl eX5_readWord_9 ?_
    refine vx_ldcs hC (i := 0) (tx := "ilt ") (by decide) eX5_readWord_10 ?_
    have es29 : ag2 26 2 = (sp + 1) := by first | (rw [es28]; done) | (rw [es28]; omega)
    have hf9 := pLt_r hen [105, 108, 116, 32] 0 (sp + 1) (by decide) (by omega) (by omega)
    generalize hA : pLt h [105, 108, 116, 32] 0 (sp + 1) = A at *
    replace hA := hA.symm
    clear hhs hhs1
    refine vx_callV_i hC (kX5_takeAllA G d _ _ _ _ _ hO h u en (sp + 1) es29 qg2_1b hr0 hen (fun z z1 z2 => by rw [frvig2 2 (by omega)]; exact htp z z1 z2) (by omega) 0 (by decide) A hA) ly_X5_101 (ot_26 hO) rfl rfl rfl hRm (by omega) (Nat.le_of_ble_eq_true rfl) rfl eX5_readWord_12 (fun x30 ng31 tg31 ag31 bg31 cg31 hg31 => ?_)
    obtain ⟨hx30, qg31_0, qg31_1, qg31_2, qg31_3, qg31_4, rfl, rfl, rfl, rfl, frg31⟩ := hg31
    have qg31_0b : ag31 26 2 = A.2 := by first | exact qg31_0 | rw [qg31_0, es29] | (rw [qg31_0]; exact es29)
    have qg31_1b : ag31 26 1 = en := by first | exact qg31_1 | rw [qg31_1, qg2_1b] | (rw [qg31_1]; exact qg2_1b)
    have qg31_2b : ag31 26 5 = vi 26 5 := by first | exact qg31_2 | rw [qg31_2, qg2_2] | (rw [qg31_2]; exact qg2_2)
    have qg31_3b : ag31 26 7 = vi 26 7 := by first | exact qg31_3 | rw [qg31_3, qg2_3] | (rw [qg31_3]; exact qg2_3)
    have qg31_4b : ag31 26 8 = vi 26 8 := by first | exact qg31_4 | rw [qg31_4, qg2_4] | (rw [qg31_4]; exact qg2_4)
    have frvig31 : ∀ k : Nat, (¬ k = 26) → ag31 k = vi k := fun k hk => (frg31 k (by omega)).trans (frvig2 k hk)
    obtain ⟨sp32, hsp32⟩ : ∃ z : Int, z = A.2 := ⟨_, rfl⟩
    have esp32 : ag31 26 2 = sp32 := by rw [hsp32]; exact qg31_0b
    have hbsp32 := hh (sp + 1)
    clear hbsp32
    refine vx_if_eq hC (tgt := 22) (by omega) (by decide) eX5_readWord_15 (fun c33 => ?_) (fun c33 => ?_)
    · refine vx_iconst hC eX5_readWord_22 ?_
      have hE := pWd_t (h := h) (sp := sp) (by assumption)
      rw [← hA] at hE
      exact vx_iret hC hM (by decide) eX5_readWord_23 (⟨_, rfl, (by rw [hE]; show _ = (if A.1 = 0 then _ else _); first | (rw [if_pos (by omega)]; done) | (rw [if_neg (by omega)]; done)), (by rw [hE, esp32]; exact hsp32), qg31_1b, qg31_2b, qg31_3b, qg31_4b, rfl, rfl, rfl, rfl, fun k hk => frvig31 k hk⟩)
    · refine vx_iconst hC eX5_readWord_18 ?_
      refine vx_goto hC (tgt := 23) (by decide) eX5_readWord_19 ?_
      have hE := pWd_t (h := h) (sp := sp) (by assumption)
      rw [← hA] at hE
      exact vx_iret hC hM (by decide) eX5_readWord_23 (⟨_, rfl, (by rw [hE]; show _ = (if A.1 = 0 then _ else _); first | (rw [if_pos (by omega)]; done) | (rw [if_neg (by omega)]; done)), (by rw [hE, esp32]; exact hsp32), qg31_1b, qg31_2b, qg31_3b, qg31_4b, rfl, rfl, rfl, rfl, fun k hk => frvig31 k hk⟩)
