set_option maxRecDepth 100000 in
theorem kX12_someP (G : xg_T) (d : Nat) (n : Nat) (tau : Nat → Nat × Nat) (vi vl : Nat → Int → Int) (vr : Nat → Int → Option Nat) (hO : xo n tau vr) (h u : Int → Int) (ac en sp w : Int) (L : List Int) (h32 : vi 32 = pput u ac L) (h4 : vi 31 4 = ac) (h5 : vi 31 5 = sp) (h6 : vi 31 6 = en) (h7 : vi 31 7 = w) (h8 : vi 31 8 = 0) (hac : 0 ≤ ac ∧ ac ≤ 4) (hen : pH h u en) (hsp : 0 ≤ sp ∧ sp ≤ en) (hw : w = 0 ∨ w = 1) (hL : (L.length : Int) ≤ sp)  : xm G yX12_some cX12_some 1 none (d + 23) 0 0 [xa_r 31] n tau vi vl vr (xp_v (fun n1 t1 a1 b1 c1 => (a1 32 = pput u ac (L ++ (pW w (pEx (pF h 5) h sp) sp).2.2)) ∧ (a1 31 4 = ac) ∧ (a1 31 5 = (pW w (pEx (pF h 5) h sp) sp).2.1) ∧ (a1 31 6 = en) ∧ (a1 31 7 = 1 - (pW w (pEx (pF h 5) h sp) sp).1) ∧ (a1 31 8 = 0) ∧ (a1 31 3 = vi 31 3) ∧ (a1 31 22 = vi 31 22) ∧ xs_I (fun k => ¬ k = 31 ∧ ¬ k = 32) n tau vi vl vr n1 t1 a1 b1 c1)) := by
  rcases hw with rfl | rfl
  · have hS := (kX12_factorN G h u ac en hac hen 5 (by decide)).2
    rw [show (5 : Int) - ((5 : Nat) : Int) = 0 by decide, show 6 + 3 * 5 + 2 = 23 by decide] at hS
    have e : pW 0 (pEx (pF h 5) h sp) sp = pEx (pF h 5) h sp := if_pos rfl
    rw [e]
    exact hS d n tau vi vl vr hO sp L h32 h4 h5 h6 h7 h8 hsp hL
  · have e : pW 1 (pEx (pF h 5) h sp) sp = (0, sp, []) := if_neg (by decide)
    rw [e]
    refine (kX12_someW G (d + 20) n tau vi vl vr hO h7).post (fun r n1 t1 a1 b1 c1 hp => ?_)
    obtain ⟨hr, rfl, rfl, rfl, rfl, rfl⟩ := hp
    exact ⟨hr, by rw [List.append_nil]; exact h32, h4, h5, h6, h7, h8, rfl, rfl, rfl, rfl, rfl, rfl, fun _ _ => rfl⟩
theorem pW_ok {h u : Int → Int} {en w sp : Int} (hen : pH h u en) (hs : 0 ≤ sp ∧ sp ≤ en) : ((pW w (pEx (pF h 5) h sp) sp).1 = 0 ∨ (pW w (pEx (pF h 5) h sp) sp).1 = 1) ∧ sp ≤ (pW w (pEx (pF h 5) h sp) sp).2.1 ∧ (pW w (pEx (pF h 5) h sp) sp).2.1 ≤ en ∧ ((pW w (pEx (pF h 5) h sp) sp).2.2.length : Int) ≤ (pW w (pEx (pF h 5) h sp) sp).2.1 - sp ∧ ((pW w (pEx (pF h 5) h sp) sp).1 = 1 → w = 0 ∧ sp + 1 ≤ (pW w (pEx (pF h 5) h sp) sp).2.1) := by
  unfold pW
  by_cases e : w = 0
  · rw [if_pos e]
    obtain ⟨o1, o2, o3, o4, o5⟩ := pEx_ok hen (pF_ok hen 5) sp hs
    exact ⟨o1, o2, o3, o4, fun q => ⟨e, by have := (o5 q).1; omega⟩⟩
  · rw [if_neg e]
    exact ⟨Or.inl rfl, Int.le_refl _, hs.2, by simp, fun q => absurd q (by show ¬ ((0 : Int) = 1); decide)⟩
theorem pMuch_eq {h : Int → Int} {l : List Int} {kd sp lim w1 s1 w2 s2 w3 s3 v w4 s4 : Int} {L L4 L5 : List Int} (hw1 : w1 = (pLt h l 0 sp).1) (hs1 : s1 = (pLt h l 0 sp).2) (hv : v = pNv h w1 s1) (hw2 : w2 = pNw h w1 s1) (hs2 : s2 = pNs h w1 s1) (hw3 : w3 = pMw h 32 w2 s2) (hs3 : s3 = pMs h 32 w2 s2) (hw4 : w4 = 1 - (pW w3 (pEx (pF h 5) h s3) s3).1) (hs4 : s4 = (pW w3 (pEx (pF h 5) h s3) s3).2.1) (hL4 : L4 = L ++ (pW w3 (pEx (pF h 5) h s3) s3).2.2) (hL5 : L5 = pE w4 L4 (kd - v)) (hk : kd - v < 0) (ho : (pW w3 (pEx (pF h 5) h s3) s3).1 = 0 ∨ (pW w3 (pEx (pF h 5) h s3) s3).1 = 1) : L5 = L ++ pEm (pMuch h l kd sp lim) ∧ s4 = (pMuch h l kd sp lim).2.1 ∧ w4 = (pMuch h l kd sp lim).1 ∧ lim = (pMuch h l kd sp lim).2.2.2.2 := by
  have e : pMuch h l kd sp lim = (1 - (pW w3 (pEx (pF h 5) h s3) s3).1, (pW w3 (pEx (pF h 5) h s3) s3).2.1, (pW w3 (pEx (pF h 5) h s3) s3).2.2, if (pW w3 (pEx (pF h 5) h s3) s3).1 = 1 then kd - v else 0, lim) := by
    subst hs3 hw3 hs2 hw2 hv hs1 hw1; rfl
  rw [e]
  generalize pW w3 (pEx (pF h 5) h s3) s3 = r at *
  refine ⟨?_, hs4, hw4, rfl⟩
  rw [hL5, hL4, hw4]
  unfold pEm pE
  dsimp only
  rcases ho with ho | ho
  · rw [if_neg (by omega), if_neg (show ¬ r.1 = 1 by omega), if_pos rfl, List.append_nil]
  · rw [if_pos (by omega), if_pos ho, if_neg (show ¬ kd - v = 0 by omega), List.append_assoc]
set_option maxHeartbeats 4000000 in
set_option maxRecDepth 100000 in
theorem kX12_much (G : xg_T) (d : Nat) (n : Nat) (tau : Nat → Nat × Nat) (vi vl : Nat → Int → Int) (vr : Nat → Int → Option Nat) (hO : xo n tau vr) (h u : Int → Int) (ac en sp : Int) (L : List Int) (h32 : vi 32 = pput u ac L) (h4 : vi 31 4 = ac) (h5 : vi 31 5 = sp) (h6 : vi 31 6 = en) (h7 : vi 31 7 = 0) (h8 : vi 31 8 = 0) (hac : 0 ≤ ac ∧ ac ≤ 4) (hen : pH h u en) (hsp : 0 ≤ sp ∧ sp ≤ en) (hw : 0 = 0 ∨ 0 = 1) (hL : (L.length : Int) ≤ sp) (kd : Int) (hkd : kd = -10 ∨ kd = -200) (i : Nat) (hi : i < 8) (lim : Int) : xm G yX12_much cX12_much 4 none (d + 24) 0 0 [xa_r 31, xa_i kd, xa_r (1000002 + i)] n tau vi vl vr (xp_v (fun n1 t1 a1 b1 c1 => (a1 32 = pput u ac (L ++ pEm (pMuch h (xw_byt.getD i []) kd sp lim))) ∧ (a1 31 4 = ac) ∧ (a1 31 5 = (pMuch h (xw_byt.getD i []) kd sp lim).2.1) ∧ (a1 31 6 = en) ∧ (a1 31 7 = (pMuch h (xw_byt.getD i []) kd sp lim).1) ∧ (a1 31 8 = 0) ∧ (a1 31 3 = vi 31 3) ∧ (a1 31 22 = vi 31 22) ∧ xs_I (fun k => ¬ k = 31 ∧ ¬ k = 32) n tau vi vl vr n1 t1 a1 b1 c1)) := by
  refine xm.of (lv := [(0, xa_r 31), (1, xa_i kd), (2, xa_r (1000002 + i))]) (by decide) (Nat.le_of_ble_eq_true rfl) rfl (fun K hC hM hRm => ?_)
  have he := hen.1
  have hh := hen.2
  have hhs := hh sp
  refine vx_aload_n hC 0 rfl eX12_much_0 ?_
  refine vx_aload_n hC 2 rfl eX12_much_1 ?_
  refine vx_callV_v hC (kX12_spells G (d + 18) _ _ _ _ _ hO h u ac en sp 0 0 L h32 h4 h5 h6 h7 h8 hac hen (by omega) (by omega) (by omega) i hi) ly_X12_117 (ot_31 hO) rfl rfl rfl hRm (by omega) (Nat.le_of_ble_eq_true rfl) rfl eX12_much_2 (fun ng2 tg2 ag2 bg2 cg2 hg2 => ?_)
  obtain ⟨qg2_0, qg2_1, qg2_2, qg2_3, qg2_4, qg2_5, qg2_6, qg2_7, rfl, rfl, rfl, rfl, frg2⟩ := hg2
  have qg2_0b : ag2 32 = pput u ac L := by first | exact qg2_0 | rw [qg2_0, h32] | (rw [qg2_0]; exact h32)
  have qg2_1b : ag2 31 4 = ac := by first | exact qg2_1 | rw [qg2_1, h4] | (rw [qg2_1]; exact h4)
  have qg2_2b : ag2 31 5 = (pLt h (xw_byt.getD i []) 0 sp).2 := by first | exact qg2_2 | rw [qg2_2, h5] | (rw [qg2_2]; exact h5)
  have qg2_3b : ag2 31 6 = en := by first | exact qg2_3 | rw [qg2_3, h6] | (rw [qg2_3]; exact h6)
  have qg2_4b : ag2 31 7 = (pLt h (xw_byt.getD i []) 0 sp).1 := by first | exact qg2_4 | rw [qg2_4, h7] | (rw [qg2_4]; exact h7)
  have qg2_5b : ag2 31 8 = 0 := by first | exact qg2_5 | rw [qg2_5, h8] | (rw [qg2_5]; exact h8)
  have frvig2 : ∀ k : Nat, (¬ k = 31 ∧ ¬ k = 32) → ag2 k = vi k := fun k hk => (frg2 k (by omega))
  obtain ⟨sp3, hsp3⟩ : ∃ z : Int, z = (pLt h (xw_byt.getD i []) 0 sp).2 := ⟨_, rfl⟩
  have esp3 : ag2 31 5 = sp3 := by rw [hsp3]; exact qg2_2b
  obtain ⟨w4, hw4⟩ : ∃ z : Int, z = (pLt h (xw_byt.getD i []) 0 sp).1 := ⟨_, rfl⟩
  have ew4 : ag2 31 7 = w4 := by rw [hw4]; exact qg2_4b
  have hfsp3 := pLt_r hen (xw_byt.getD i []) 0 sp (tb_nn i (hi)) (by omega) (by omega)
  rw [← hsp3, ← hw4] at hfsp3
  refine vx_aload_n hC 0 rfl eX12_much_5 ?_
  refine vx_callV_i hC (kX12_figures G (d + 21) _ _ _ _ _ hO h u ac en sp3 w4 0 L qg2_0b qg2_1b esp3 qg2_3b ew4 qg2_5b hac hen (by omega) (by omega) (by omega)) ly_X12_111 (ot_31 hO) rfl rfl rfl hRm (by omega) (Nat.le_of_ble_eq_true rfl) rfl eX12_much_6 (fun x5 ng6 tg6 ag6 bg6 cg6 hg6 => ?_)
  obtain ⟨hx5, qg6_0, qg6_1, qg6_2, qg6_3, qg6_4, qg6_5, qg6_6, qg6_7, rfl, rfl, rfl, rfl, frg6⟩ := hg6
  have qg6_0b : ag6 32 = pput u ac L := by first | exact qg6_0 | rw [qg6_0, qg2_0b] | (rw [qg6_0]; exact qg2_0b)
  have qg6_1b : ag6 31 4 = ac := by first | exact qg6_1 | rw [qg6_1, qg2_1b] | (rw [qg6_1]; exact qg2_1b)
  have qg6_2b : ag6 31 5 = pNs h w4 sp3 := by first | exact qg6_2 | rw [qg6_2, esp3] | (rw [qg6_2]; exact esp3)
  have qg6_3b : ag6 31 6 = en := by first | exact qg6_3 | rw [qg6_3, qg2_3b] | (rw [qg6_3]; exact qg2_3b)
  have qg6_4b : ag6 31 7 = pNw h w4 sp3 := by first | exact qg6_4 | rw [qg6_4, ew4] | (rw [qg6_4]; exact ew4)
  have qg6_5b : ag6 31 8 = 0 := by first | exact qg6_5 | rw [qg6_5, qg2_5b] | (rw [qg6_5]; exact qg2_5b)
  have qg6_6b : ag6 31 3 = vi 31 3 := by first | exact qg6_6 | rw [qg6_6, qg2_6] | (rw [qg6_6]; exact qg2_6)
  have qg6_7b : ag6 31 22 = vi 31 22 := by first | exact qg6_7 | rw [qg6_7, qg2_7] | (rw [qg6_7]; exact qg2_7)
  have frvig6 : ∀ k : Nat, (¬ k = 31 ∧ ¬ k = 32) → ag6 k = vi k := fun k hk => (frg6 k (by omega)).trans (frvig2 k hk)
  obtain ⟨sp7, hsp7⟩ : ∃ z : Int, z = pNs h w4 sp3 := ⟨_, rfl⟩
  have esp7 : ag6 31 5 = sp7 := by rw [hsp7]; exact qg6_2b
  obtain ⟨w8, hw8⟩ : ∃ z : Int, z = pNw h w4 sp3 := ⟨_, rfl⟩
  have ew8 : ag6 31 7 = w8 := by rw [hw8]; exact qg6_4b
  have hfsp7 := pN_r (w := w4) hen (sp := sp3) (by omega)
  rw [← hsp7, ← hw8, ← hx5] at hfsp7
  refine vx_istore_n hC (lv1 := [(3, xa_i x5), (0, xa_r 31), (1, xa_i kd), (2, xa_r (1000002 + i))]) (by decide) rfl eX12_much_9 ?_
  refine vx_aload_n hC 1 rfl eX12_much_10 ?_
  refine vx_bipush hC (by decide) eX12_much_11 ?_
  refine vx_callV_v hC (kX12_must G (d + 21) _ _ _ _ _ hO h u ac en sp7 w8 0 L qg6_0b qg6_1b esp7 qg6_3b ew8 qg6_5b hac hen (by omega) (by omega) (by omega) 32 (by omega)) ly_X12_84 (ot_31 hO) rfl rfl rfl hRm (by omega) (Nat.le_of_ble_eq_true rfl) rfl eX12_much_13 (fun ng10 tg10 ag10 bg10 cg10 hg10 => ?_)
  obtain ⟨qg10_0, qg10_1, qg10_2, qg10_3, qg10_4, qg10_5, qg10_6, qg10_7, rfl, rfl, rfl, rfl, frg10⟩ := hg10
  have qg10_0b : ag10 32 = pput u ac L := by first | exact qg10_0 | rw [qg10_0, qg6_0b] | (rw [qg10_0]; exact qg6_0b)
  have qg10_1b : ag10 31 4 = ac := by first | exact qg10_1 | rw [qg10_1, qg6_1b] | (rw [qg10_1]; exact qg6_1b)
  have qg10_2b : ag10 31 5 = pMs h 32 w8 sp7 := by first | exact qg10_2 | rw [qg10_2, esp7] | (rw [qg10_2]; exact esp7)
  have qg10_3b : ag10 31 6 = en := by first | exact qg10_3 | rw [qg10_3, qg6_3b] | (rw [qg10_3]; exact qg6_3b)
  have qg10_4b : ag10 31 7 = pMw h 32 w8 sp7 := by first | exact qg10_4 | rw [qg10_4, ew8] | (rw [qg10_4]; exact ew8)
  have qg10_5b : ag10 31 8 = 0 := by first | exact qg10_5 | rw [qg10_5, qg6_5b] | (rw [qg10_5]; exact qg6_5b)
  have qg10_6b : ag10 31 3 = vi 31 3 := by first | exact qg10_6 | rw [qg10_6, qg6_6b] | (rw [qg10_6]; exact qg6_6b)
  have qg10_7b : ag10 31 22 = vi 31 22 := by first | exact qg10_7 | rw [qg10_7, qg6_7b] | (rw [qg10_7]; exact qg6_7b)
  have frvig10 : ∀ k : Nat, (¬ k = 31 ∧ ¬ k = 32) → ag10 k = vi k := fun k hk => (frg10 k (by omega)).trans (frvig6 k hk)
  obtain ⟨sp11, hsp11⟩ : ∃ z : Int, z = pMs h 32 w8 sp7 := ⟨_, rfl⟩
  have esp11 : ag10 31 5 = sp11 := by rw [hsp11]; exact qg10_2b
  obtain ⟨w12, hw12⟩ : ∃ z : Int, z = pMw h 32 w8 sp7 := ⟨_, rfl⟩
  have ew12 : ag10 31 7 = w12 := by rw [hw12]; exact qg10_4b
  have hfsp11 := pM_r (c := 32) (w := w8) hen (by omega) (sp := sp7) (by omega)
  rw [← hsp11, ← hw12] at hfsp11
  refine vx_aload_n hC 1 rfl eX12_much_16 ?_
  refine vx_callV_v hC (kX12_someP G d _ _ _ _ _ hO h u ac en sp11 w12 L qg10_0b qg10_1b esp11 qg10_3b ew12 qg10_5b hac hen (by omega) (by omega) (by omega)) ly_X12_100 (ot_31 hO) rfl rfl rfl hRm (by omega) (Nat.le_of_ble_eq_true rfl) rfl eX12_much_17 (fun ng14 tg14 ag14 bg14 cg14 hg14 => ?_)
  obtain ⟨qg14_0, qg14_1, qg14_2, qg14_3, qg14_4, qg14_5, qg14_6, qg14_7, rfl, rfl, rfl, rfl, frg14⟩ := hg14
  have qg14_0b : ag14 32 = pput u ac (L ++ (pW w12 (pEx (pF h 5) h sp11) sp11).2.2) := by first | exact qg14_0 | rw [qg14_0, qg10_0b] | (rw [qg14_0]; exact qg10_0b)
  have qg14_1b : ag14 31 4 = ac := by first | exact qg14_1 | rw [qg14_1, qg10_1b] | (rw [qg14_1]; exact qg10_1b)
  have qg14_2b : ag14 31 5 = (pW w12 (pEx (pF h 5) h sp11) sp11).2.1 := by first | exact qg14_2 | rw [qg14_2, esp11] | (rw [qg14_2]; exact esp11)
  have qg14_3b : ag14 31 6 = en := by first | exact qg14_3 | rw [qg14_3, qg10_3b] | (rw [qg14_3]; exact qg10_3b)
  have qg14_4b : ag14 31 7 = 1 - (pW w12 (pEx (pF h 5) h sp11) sp11).1 := by first | exact qg14_4 | rw [qg14_4, ew12] | (rw [qg14_4]; exact ew12)
  have qg14_5b : ag14 31 8 = 0 := by first | exact qg14_5 | rw [qg14_5, qg10_5b] | (rw [qg14_5]; exact qg10_5b)
  have qg14_6b : ag14 31 3 = vi 31 3 := by first | exact qg14_6 | rw [qg14_6, qg10_6b] | (rw [qg14_6]; exact qg10_6b)
  have qg14_7b : ag14 31 22 = vi 31 22 := by first | exact qg14_7 | rw [qg14_7, qg10_7b] | (rw [qg14_7]; exact qg10_7b)
  have frvig14 : ∀ k : Nat, (¬ k = 31 ∧ ¬ k = 32) → ag14 k = vi k := fun k hk => (frg14 k (by omega)).trans (frvig10 k hk)
  obtain ⟨sp15, hsp15⟩ : ∃ z : Int, z = (pW w12 (pEx (pF h 5) h sp11) sp11).2.1 := ⟨_, rfl⟩
  have esp15 : ag14 31 5 = sp15 := by rw [hsp15]; exact qg14_2b
  obtain ⟨w16, hw16⟩ : ∃ z : Int, z = 1 - (pW w12 (pEx (pF h 5) h sp11) sp11).1 := ⟨_, rfl⟩
  have ew16 : ag14 31 7 = w16 := by rw [hw16]; exact qg14_4b
  obtain ⟨L17, hL17⟩ : ∃ z : List Int, z = L ++ (pW w12 (pEx (pF h 5) h sp11) sp11).2.2 := ⟨_, rfl⟩
  have eL17 : ag14 32 = pput u ac L17 := by rw [hL17]; exact qg14_0b
  have hosp15 := pW_ok (w := w12) hen (sp := sp11) (by omega)
  have hlL17 : (L17.length : Int) = (L.length : Int) + ((pW w12 (pEx (pF h 5) h sp11) sp11).2.2.length : Int) := by rw [hL17, List.length_append]; omega
  rw [← hsp15] at hosp15
  have hoo := (pW_ok (w := w12) hen (sp := sp11) (by omega)).1
  refine vx_aload_n hC 1 rfl eX12_much_20 ?_
  refine vx_iload_n hC 2 rfl eX12_much_21 ?_
  refine vx_iload_n hC 0 rfl eX12_much_22 ?_
  refine vx_isub hC eX12_much_23 ?_
  refine vx_callV_v hC (kX12_emits G (d + 22) _ _ _ _ _ hO h u ac en sp15 w16 0 L17 eL17 qg14_1b esp15 qg14_3b ew16 qg14_5b hac hen (by omega) (by omega) (by omega) (kd - x5)) ly_X12_97 (ot_31 hO) rfl rfl rfl hRm (by omega) (Nat.le_of_ble_eq_true rfl) rfl eX12_much_24 (fun ng19 tg19 ag19 bg19 cg19 hg19 => ?_)
  obtain ⟨qg19_0, qg19_1, qg19_2, qg19_3, qg19_4, qg19_5, qg19_6, qg19_7, rfl, rfl, rfl, rfl, frg19⟩ := hg19
  have qg19_0b : ag19 32 = pput u ac (pE w16 L17 (kd - x5)) := by first | exact qg19_0 | rw [qg19_0, eL17] | (rw [qg19_0]; exact eL17)
  have qg19_1b : ag19 31 4 = ac := by first | exact qg19_1 | rw [qg19_1, qg14_1b] | (rw [qg19_1]; exact qg14_1b)
  have qg19_2b : ag19 31 5 = sp15 := by first | exact qg19_2 | rw [qg19_2, esp15] | (rw [qg19_2]; exact esp15)
  have qg19_3b : ag19 31 6 = en := by first | exact qg19_3 | rw [qg19_3, qg14_3b] | (rw [qg19_3]; exact qg14_3b)
  have qg19_4b : ag19 31 7 = w16 := by first | exact qg19_4 | rw [qg19_4, ew16] | (rw [qg19_4]; exact ew16)
  have qg19_5b : ag19 31 8 = 0 := by first | exact qg19_5 | rw [qg19_5, qg14_5b] | (rw [qg19_5]; exact qg14_5b)
  have qg19_6b : ag19 31 3 = vi 31 3 := by first | exact qg19_6 | rw [qg19_6, qg14_6b] | (rw [qg19_6]; exact qg14_6b)
  have qg19_7b : ag19 31 22 = vi 31 22 := by first | exact qg19_7 | rw [qg19_7, qg14_7b] | (rw [qg19_7]; exact qg14_7b)
  have frvig19 : ∀ k : Nat, (¬ k = 31 ∧ ¬ k = 32) → ag19 k = vi k := fun k hk => (frg19 k (by omega)).trans (frvig14 k hk)
  obtain ⟨L20, hL20⟩ : ∃ z : List Int, z = pE w16 L17 (kd - x5) := ⟨_, rfl⟩
  have eL20 : ag19 32 = pput u ac L20 := by rw [hL20]; exact qg19_0b
  have hfL20 := pE_len w16 L17 (kd - x5)
  rw [← hL20] at hfL20
  have hE := pMuch_eq (l := xw_byt.getD i []) (kd := kd) (sp := sp) (lim := lim) (L := L) hw4 hsp3 hx5 hw8 hsp7 hw12 hsp11 hw16 hsp15 hL17 hL20 (by omega) hoo
  exact vx_vret hC hM eX12_much_27 (⟨rfl, (by rw [eL20, hE.1]), qg19_1b, (by rw [qg19_2b]; exact hE.2.1), qg19_3b, (by rw [qg19_4b]; exact hE.2.2.1), qg19_5b, qg19_6b, qg19_7b, rfl, rfl, rfl, rfl, fun k hk => frvig19 k hk⟩)
set_option maxHeartbeats 4000000 in
set_option maxRecDepth 100000 in
theorem kX12_clauseOfL (G : xg_T) (d : Nat) (n : Nat) (tau : Nat → Nat × Nat) (vi vl : Nat → Int → Int) (vr : Nat → Int → Option Nat) (hO : xo n tau vr) (h u : Int → Int) (ac en sp : Int) (L : List Int) (h32 : vi 32 = pput u ac L) (h4 : vi 31 4 = ac) (h5 : vi 31 5 = sp) (h6 : vi 31 6 = en) (h7 : vi 31 7 = 0) (h8 : vi 31 8 = 0) (hac : 0 ≤ ac ∧ ac ≤ 4) (hen : pH h u en) (hsp : 0 ≤ sp ∧ sp ≤ en) (hw : 0 = 0 ∨ 0 = 1) (hL : (L.length : Int) ≤ sp) (lim : Int) (hlim : u (166 + ac) = lim) (hl8 : h sp = 108) : xm G yX12_clauseOfL cX12_clauseOfL 2 none (d + 25) 0 0 [xa_r 31] n tau vi vl vr (xp_v (fun n1 t1 a1 b1 c1 => (a1 32 = pput (fu u (166 + ac) (pCl h sp lim).2.2.2.2) ac (L ++ pEm (pCl h sp lim))) ∧ (a1 31 4 = ac) ∧ (a1 31 5 = (pCl h sp lim).2.1) ∧ (a1 31 6 = en) ∧ (a1 31 7 = (pCl h sp lim).1) ∧ (a1 31 8 = 0) ∧ (a1 31 3 = vi 31 3) ∧ (a1 31 22 = vi 31 22) ∧ xs_I (fun k => ¬ k = 31 ∧ ¬ k = 32) n tau vi vl vr n1 t1 a1 b1 c1)) := by
  refine xm.of (lv := [(0, xa_r 31)]) (by decide) (Nat.le_of_ble_eq_true rfl) rfl (fun K hC hM hRm => ?_)
  have he := hen.1
  have hh := hen.2
  have hhs := hh sp
  refine vx_aload_n hC 0 rfl eX12_clauseOfL_0 ?_
  refine vx_bipush hC (by decide) eX12_clauseOfL_1 ?_
  refine vx_callV_v hC (kX12_must G (d + 22) _ _ _ _ _ hO h u ac en sp 0 0 L h32 h4 h5 h6 h7 h8 hac hen (by omega) (by omega) (by omega) 108 (by omega)) ly_X12_84 (ot_31 hO) rfl rfl rfl hRm (by omega) (Nat.le_of_ble_eq_true rfl) rfl eX12_clauseOfL_3 (fun ng2 tg2 ag2 bg2 cg2 hg2 => ?_)
  obtain ⟨qg2_0, qg2_1, qg2_2, qg2_3, qg2_4, qg2_5, qg2_6, qg2_7, rfl, rfl, rfl, rfl, frg2⟩ := hg2
  have qg2_0b : ag2 32 = pput u ac L := by first | exact qg2_0 | rw [qg2_0, h32] | (rw [qg2_0]; exact h32)
  have qg2_1b : ag2 31 4 = ac := by first | exact qg2_1 | rw [qg2_1, h4] | (rw [qg2_1]; exact h4)
  have qg2_2b : ag2 31 5 = pMs h 108 0 sp := by first | exact qg2_2 | rw [qg2_2, h5] | (rw [qg2_2]; exact h5)
  have qg2_3b : ag2 31 6 = en := by first | exact qg2_3 | rw [qg2_3, h6] | (rw [qg2_3]; exact h6)
  have qg2_4b : ag2 31 7 = pMw h 108 0 sp := by first | exact qg2_4 | rw [qg2_4, h7] | (rw [qg2_4]; exact h7)
  have qg2_5b : ag2 31 8 = 0 := by first | exact qg2_5 | rw [qg2_5, h8] | (rw [qg2_5]; exact h8)
  have frvig2 : ∀ k : Nat, (¬ k = 31 ∧ ¬ k = 32) → ag2 k = vi k := fun k hk => (frg2 k (by omega))
  obtain ⟨sp3, hsp3⟩ : ∃ z : Int, z = pMs h 108 0 sp := ⟨_, rfl⟩
  have esp3 : ag2 31 5 = sp3 := by rw [hsp3]; exact qg2_2b
  obtain ⟨w4, hw4⟩ : ∃ z : Int, z = pMw h 108 0 sp := ⟨_, rfl⟩
  have ew4 : ag2 31 7 = w4 := by rw [hw4]; exact qg2_4b
  have hfsp3 := pM_r (c := 108) (w := 0) hen (by omega) (sp := sp) (by omega)
  rw [← hsp3, ← hw4] at hfsp3
  have hs1 : sp3 = sp + 1 := by rw [hsp3]; unfold pMs; rw [if_pos ⟨rfl, hl8⟩]
  have hw1 : w4 = 0 := by rw [hw4]; unfold pMw; rw [if_pos ⟨rfl, hl8⟩]
  have e0 : ag2 31 7 = 0 := by rw [← hw1]; exact ew4
  refine vx_aload_n hC 0 rfl eX12_clauseOfL_6 ?_
  refine vx_callV_i hC (kX12_hereP G (d + 23) _ _ _ _ _ hO h u ac en sp3 0 0 L qg2_0b qg2_1b esp3 qg2_3b e0 qg2_5b hac hen (by omega) (by omega) (by omega)) ly_X12_71 (ot_31 hO) rfl rfl rfl hRm (by omega) (Nat.le_of_ble_eq_true rfl) rfl eX12_clauseOfL_7 (fun x5 n9 t9 a9 b9 c9 hx5 => ?_)
  obtain ⟨hx5, rfl, rfl, rfl, rfl, rfl⟩ := hx5
  have hrx5 := hh sp3
  refine vx_bipush hC (by decide) eX12_clauseOfL_10 ?_
  refine vx_icmp_ne hC (tgt := 24) (by omega) (by decide) eX12_clauseOfL_12 (fun c6 => ?_) (fun c6 => ?_)
  · refine vx_aload_n hC 0 rfl eX12_clauseOfL_24 ?_
    refine vx_ldcs hC (i := 2) (tx := "imit ") (by decide) eX12_clauseOfL_25 ?_
    refine vx_callV_v hC (kX12_spells G (d + 19) _ _ _ _ _ hO h u ac en sp3 0 0 L qg2_0b qg2_1b esp3 qg2_3b e0 qg2_5b hac hen (by omega) (by omega) (by omega) 2 (by decide)) ly_X12_117 (ot_31 hO) rfl rfl rfl hRm (by omega) (Nat.le_of_ble_eq_true rfl) rfl eX12_clauseOfL_27 (fun ng8 tg8 ag8 bg8 cg8 hg8 => ?_)
    obtain ⟨qg8_0, qg8_1, qg8_2, qg8_3, qg8_4, qg8_5, qg8_6, qg8_7, rfl, rfl, rfl, rfl, frg8⟩ := hg8
    have qg8_0b : ag8 32 = pput u ac L := by first | exact qg8_0 | rw [qg8_0, qg2_0b] | (rw [qg8_0]; exact qg2_0b)
    have qg8_1b : ag8 31 4 = ac := by first | exact qg8_1 | rw [qg8_1, qg2_1b] | (rw [qg8_1]; exact qg2_1b)
    have qg8_2b : ag8 31 5 = (pLt h (xw_byt.getD 2 []) 0 sp3).2 := by first | exact qg8_2 | rw [qg8_2, esp3] | (rw [qg8_2]; exact esp3)
    have qg8_3b : ag8 31 6 = en := by first | exact qg8_3 | rw [qg8_3, qg2_3b] | (rw [qg8_3]; exact qg2_3b)
    have qg8_4b : ag8 31 7 = (pLt h (xw_byt.getD 2 []) 0 sp3).1 := by first | exact qg8_4 | rw [qg8_4, e0] | (rw [qg8_4]; exact e0)
    have qg8_5b : ag8 31 8 = 0 := by first | exact qg8_5 | rw [qg8_5, qg2_5b] | (rw [qg8_5]; exact qg2_5b)
    have qg8_6b : ag8 31 3 = vi 31 3 := by first | exact qg8_6 | rw [qg8_6, qg2_6] | (rw [qg8_6]; exact qg2_6)
    have qg8_7b : ag8 31 22 = vi 31 22 := by first | exact qg8_7 | rw [qg8_7, qg2_7] | (rw [qg8_7]; exact qg2_7)
    have frvig8 : ∀ k : Nat, (¬ k = 31 ∧ ¬ k = 32) → ag8 k = vi k := fun k hk => (frg8 k (by omega)).trans (frvig2 k hk)
    obtain ⟨sp9, hsp9⟩ : ∃ z : Int, z = (pLt h (xw_byt.getD 2 []) 0 sp3).2 := ⟨_, rfl⟩
    have esp9 : ag8 31 5 = sp9 := by rw [hsp9]; exact qg8_2b
    obtain ⟨w10, hw10⟩ : ∃ z : Int, z = (pLt h (xw_byt.getD 2 []) 0 sp3).1 := ⟨_, rfl⟩
    have ew10 : ag8 31 7 = w10 := by rw [hw10]; exact qg8_4b
    have hfsp9 := pLt_r hen (xw_byt.getD 2 []) 0 sp3 (tb_nn 2 (by decide)) (by omega) (by omega)
    rw [← hsp9, ← hw10] at hfsp9
    refine vx_aload_n hC 0 rfl eX12_clauseOfL_30 ?_
    refine vx_callV_i hC (kX12_figures G (d + 22) _ _ _ _ _ hO h u ac en sp9 w10 0 L qg8_0b qg8_1b esp9 qg8_3b ew10 qg8_5b hac hen (by omega) (by omega) (by omega)) ly_X12_111 (ot_31 hO) rfl rfl rfl hRm (by omega) (Nat.le_of_ble_eq_true rfl) rfl eX12_clauseOfL_31 (fun x11 ng12 tg12 ag12 bg12 cg12 hg12 => ?_)
    obtain ⟨hx11, qg12_0, qg12_1, qg12_2, qg12_3, qg12_4, qg12_5, qg12_6, qg12_7, rfl, rfl, rfl, rfl, frg12⟩ := hg12
    have qg12_0b : ag12 32 = pput u ac L := by first | exact qg12_0 | rw [qg12_0, qg8_0b] | (rw [qg12_0]; exact qg8_0b)
    have qg12_1b : ag12 31 4 = ac := by first | exact qg12_1 | rw [qg12_1, qg8_1b] | (rw [qg12_1]; exact qg8_1b)
    have qg12_2b : ag12 31 5 = pNs h w10 sp9 := by first | exact qg12_2 | rw [qg12_2, esp9] | (rw [qg12_2]; exact esp9)
    have qg12_3b : ag12 31 6 = en := by first | exact qg12_3 | rw [qg12_3, qg8_3b] | (rw [qg12_3]; exact qg8_3b)
    have qg12_4b : ag12 31 7 = pNw h w10 sp9 := by first | exact qg12_4 | rw [qg12_4, ew10] | (rw [qg12_4]; exact ew10)
    have qg12_5b : ag12 31 8 = 0 := by first | exact qg12_5 | rw [qg12_5, qg8_5b] | (rw [qg12_5]; exact qg8_5b)
    have qg12_6b : ag12 31 3 = vi 31 3 := by first | exact qg12_6 | rw [qg12_6, qg8_6b] | (rw [qg12_6]; exact qg8_6b)
    have qg12_7b : ag12 31 22 = vi 31 22 := by first | exact qg12_7 | rw [qg12_7, qg8_7b] | (rw [qg12_7]; exact qg8_7b)
    have frvig12 : ∀ k : Nat, (¬ k = 31 ∧ ¬ k = 32) → ag12 k = vi k := fun k hk => (frg12 k (by omega)).trans (frvig8 k hk)
    obtain ⟨sp13, hsp13⟩ : ∃ z : Int, z = pNs h w10 sp9 := ⟨_, rfl⟩
    have esp13 : ag12 31 5 = sp13 := by rw [hsp13]; exact qg12_2b
    obtain ⟨w14, hw14⟩ : ∃ z : Int, z = pNw h w10 sp9 := ⟨_, rfl⟩
    have ew14 : ag12 31 7 = w14 := by rw [hw14]; exact qg12_4b
    have hfsp13 := pN_r (w := w10) hen (sp := sp9) (by omega)
    rw [← hsp13, ← hw14, ← hx11] at hfsp13
    refine vx_istore_n hC (lv1 := [(1, xa_i x11), (0, xa_r 31)]) (by decide) rfl eX12_clauseOfL_34 ?_
    refine vx_aload_n hC 1 rfl eX12_clauseOfL_35 ?_
    refine vx_gi hC 7 (ot_31 hO) lf_X12_67 rfl eX12_clauseOfL_36 ?_
    refine vx_eqi ew14 ?_
    refine vx_if_ne hC (tgt := 65) (by omega) (by decide) eX12_clauseOfL_39 (fun c15 => ?_) (fun c15 => ?_)
    · have hE : pCl h sp lim = pLim h sp3 lim := by unfold pCl; rw [if_neg (by omega), if_pos hl8, ← hs1, if_neg (by omega)]
      have hE2 : pLim h sp3 lim = (w14, sp13, [], 0, if w14 = 0 then (if x11 < 1 then 1 else x11) else lim) := by rw [hx11, hw14, hsp13, hw10, hsp9]; rfl
      have hE3 : pEm (pCl h sp lim) = [] := by rw [hE, hE2]; rfl
      exact vx_vret hC hM eX12_clauseOfL_65 (⟨rfl, (by rw [hE3, List.append_nil, hE, hE2]; show _ = pput (fu u (166 + ac) (if w14 = 0 then (if x11 < 1 then 1 else x11) else lim)) ac L; rw [if_neg (by omega), fu_self _ hlim]; exact qg12_0b), qg12_1b, (by rw [hE, hE2, esp13]), qg12_3b, (by rw [hE, hE2, ew14]), qg12_5b, qg12_6b, qg12_7b, rfl, rfl, rfl, rfl, fun k hk => frvig12 k hk⟩)
    · refine vx_aload_n hC 1 rfl eX12_clauseOfL_42 ?_
      refine vx_gr hC 1 (ot_31 hO) lf_X12_9 rfl (or_31_1 hO) eX12_clauseOfL_43 ?_
      refine vx_sipush hC (by decide) eX12_clauseOfL_46 ?_
      refine vx_aload_n hC 1 rfl eX12_clauseOfL_49 ?_
      refine vx_gi hC 4 (ot_31 hO) lf_X12_88 rfl eX12_clauseOfL_50 ?_
      refine vx_eqi qg12_1b ?_
      refine vx_iadd hC eX12_clauseOfL_53 ?_
      refine vx_iload_n hC 0 rfl eX12_clauseOfL_54 ?_
      refine vx_iconst hC eX12_clauseOfL_55 ?_
      refine vx_icmp_ge hC (tgt := 63) (by omega) (by decide) eX12_clauseOfL_56 (fun c16 => ?_) (fun c16 => ?_)
      · refine vx_iload_n hC 0 rfl eX12_clauseOfL_63 ?_
        refine vx_iastore hC (ot_32 hO) (by omega) (by omega) eX12_clauseOfL_64 ?_
        refine vx_vi (fun v17 hv17 => ?_)
        obtain ⟨f18, hf18⟩ : ∃ f, f = fu (pput u ac L) (166 + ac) x11 := ⟨_, rfl⟩
        have hv17_32 : v17 32 = f18 := by rw [hv17, hf18, xu_k, qg12_0b]
        have hv17_31_4 : v17 31 4 = ac := by rw [hv17, xu_c _ _ _ _ (by decide), qg12_1b]
        have hv17_31_5 : v17 31 5 = sp13 := by rw [hv17, xu_c _ _ _ _ (by decide), esp13]
        have hv17_31_6 : v17 31 6 = en := by rw [hv17, xu_c _ _ _ _ (by decide), qg12_3b]
        have hv17_31_7 : v17 31 7 = w14 := by rw [hv17, xu_c _ _ _ _ (by decide), ew14]
        have hv17_31_8 : v17 31 8 = 0 := by rw [hv17, xu_c _ _ _ _ (by decide), qg12_5b]
        have hv17_31_3 : v17 31 3 = vi 31 3 := by rw [hv17, xu_c _ _ _ _ (by decide), qg12_6b]
        have hv17_31_22 : v17 31 22 = vi 31 22 := by rw [hv17, xu_c _ _ _ _ (by decide), qg12_7b]
        have frv17 : ∀ k : Nat, (¬ k = 31 ∧ ¬ k = 32) → v17 k = vi k := fun k hk => by rw [hv17, xu_c _ _ _ _ (by omega)]; exact frvig12 k hk
        have hE : pCl h sp lim = pLim h sp3 lim := by unfold pCl; rw [if_neg (by omega), if_pos hl8, ← hs1, if_neg (by omega)]
        have hE2 : pLim h sp3 lim = (w14, sp13, [], 0, if w14 = 0 then (if x11 < 1 then 1 else x11) else lim) := by rw [hx11, hw14, hsp13, hw10, hsp9]; rfl
        have hE3 : pEm (pCl h sp lim) = [] := by rw [hE, hE2]; rfl
        exact vx_vret hC hM eX12_clauseOfL_65 (⟨rfl, (by rw [hE3, List.append_nil, hE, hE2]; show _ = pput (fu u (166 + ac) (if w14 = 0 then (if x11 < 1 then 1 else x11) else lim)) ac L; rw [if_pos (by omega), hv17_32, hf18]; rw [show (if x11 < 1 then 1 else x11) = x11 by split <;> omega]; rw [pput_fu u L hac.1 (by omega)]), hv17_31_4, (by rw [hE, hE2, hv17_31_5]), hv17_31_6, (by rw [hE, hE2, hv17_31_7]), hv17_31_8, hv17_31_3, hv17_31_22, rfl, rfl, rfl, rfl, fun k hk => frv17 k hk⟩)
      · refine vx_iconst hC eX12_clauseOfL_59 ?_
        refine vx_goto hC (tgt := 64) (by decide) eX12_clauseOfL_60 ?_
        refine vx_iastore hC (ot_32 hO) (by omega) (by omega) eX12_clauseOfL_64 ?_
        refine vx_vi (fun v19 hv19 => ?_)
        obtain ⟨f20, hf20⟩ : ∃ f, f = fu (pput u ac L) (166 + ac) 1 := ⟨_, rfl⟩
        have hv19_32 : v19 32 = f20 := by rw [hv19, hf20, xu_k, qg12_0b]
        have hv19_31_4 : v19 31 4 = ac := by rw [hv19, xu_c _ _ _ _ (by decide), qg12_1b]
        have hv19_31_5 : v19 31 5 = sp13 := by rw [hv19, xu_c _ _ _ _ (by decide), esp13]
        have hv19_31_6 : v19 31 6 = en := by rw [hv19, xu_c _ _ _ _ (by decide), qg12_3b]
        have hv19_31_7 : v19 31 7 = w14 := by rw [hv19, xu_c _ _ _ _ (by decide), ew14]
        have hv19_31_8 : v19 31 8 = 0 := by rw [hv19, xu_c _ _ _ _ (by decide), qg12_5b]
        have hv19_31_3 : v19 31 3 = vi 31 3 := by rw [hv19, xu_c _ _ _ _ (by decide), qg12_6b]
        have hv19_31_22 : v19 31 22 = vi 31 22 := by rw [hv19, xu_c _ _ _ _ (by decide), qg12_7b]
        have frv19 : ∀ k : Nat, (¬ k = 31 ∧ ¬ k = 32) → v19 k = vi k := fun k hk => by rw [hv19, xu_c _ _ _ _ (by omega)]; exact frvig12 k hk
        have hE : pCl h sp lim = pLim h sp3 lim := by unfold pCl; rw [if_neg (by omega), if_pos hl8, ← hs1, if_neg (by omega)]
        have hE2 : pLim h sp3 lim = (w14, sp13, [], 0, if w14 = 0 then (if x11 < 1 then 1 else x11) else lim) := by rw [hx11, hw14, hsp13, hw10, hsp9]; rfl
        have hE3 : pEm (pCl h sp lim) = [] := by rw [hE, hE2]; rfl
        exact vx_vret hC hM eX12_clauseOfL_65 (⟨rfl, (by rw [hE3, List.append_nil, hE, hE2]; show _ = pput (fu u (166 + ac) (if w14 = 0 then (if x11 < 1 then 1 else x11) else lim)) ac L; rw [if_pos (by omega), hv19_32, hf20]; rw [show (if x11 < 1 then 1 else x11) = 1 by split <;> omega]; rw [pput_fu u L hac.1 (by omega)]), hv19_31_4, (by rw [hE, hE2, hv19_31_5]), hv19_31_6, (by rw [hE, hE2, hv19_31_7]), hv19_31_8, hv19_31_3, hv19_31_22, rfl, rfl, rfl, rfl, fun k hk => frv19 k hk⟩)
  · refine vx_aload_n hC 0 rfl eX12_clauseOfL_15 ?_
    refine vx_bipush hC (by decide) eX12_clauseOfL_16 ?_
    refine vx_ldcs hC (i := 6) (tx := "ean ") (by decide) eX12_clauseOfL_18 ?_
    refine vx_callV_v hC (kX12_much G d _ _ _ _ _ hO h u ac en sp3 L qg2_0b qg2_1b esp3 qg2_3b e0 qg2_5b hac hen (by omega) (by omega) (by omega) (-10) (by omega) 6 (by decide) lim) ly_X12_123 (ot_31 hO) rfl rfl rfl hRm (by omega) (Nat.le_of_ble_eq_true rfl) rfl eX12_clauseOfL_20 (fun ng22 tg22 ag22 bg22 cg22 hg22 => ?_)
    obtain ⟨qg22_0, qg22_1, qg22_2, qg22_3, qg22_4, qg22_5, qg22_6, qg22_7, rfl, rfl, rfl, rfl, frg22⟩ := hg22
    have qg22_0b : ag22 32 = pput u ac (L ++ pEm (pMuch h [101, 97, 110, 32] (-10) sp3 lim)) := by first | exact qg22_0 | rw [qg22_0, qg2_0b] | (rw [qg22_0]; exact qg2_0b)
    have qg22_1b : ag22 31 4 = ac := by first | exact qg22_1 | rw [qg22_1, qg2_1b] | (rw [qg22_1]; exact qg2_1b)
    have qg22_2b : ag22 31 5 = (pMuch h [101, 97, 110, 32] (-10) sp3 lim).2.1 := by first | exact qg22_2 | rw [qg22_2, esp3] | (rw [qg22_2]; exact esp3)
    have qg22_3b : ag22 31 6 = en := by first | exact qg22_3 | rw [qg22_3, qg2_3b] | (rw [qg22_3]; exact qg2_3b)
    have qg22_4b : ag22 31 7 = (pMuch h [101, 97, 110, 32] (-10) sp3 lim).1 := by first | exact qg22_4 | rw [qg22_4, e0] | (rw [qg22_4]; exact e0)
    have qg22_5b : ag22 31 8 = 0 := by first | exact qg22_5 | rw [qg22_5, qg2_5b] | (rw [qg22_5]; exact qg2_5b)
    have qg22_6b : ag22 31 3 = vi 31 3 := by first | exact qg22_6 | rw [qg22_6, qg2_6] | (rw [qg22_6]; exact qg2_6)
    have qg22_7b : ag22 31 22 = vi 31 22 := by first | exact qg22_7 | rw [qg22_7, qg2_7] | (rw [qg22_7]; exact qg2_7)
    have frvig22 : ∀ k : Nat, (¬ k = 31 ∧ ¬ k = 32) → ag22 k = vi k := fun k hk => (frg22 k (by omega)).trans (frvig2 k hk)
    obtain ⟨sp23, hsp23⟩ : ∃ z : Int, z = (pMuch h [101, 97, 110, 32] (-10) sp3 lim).2.1 := ⟨_, rfl⟩
    have esp23 : ag22 31 5 = sp23 := by rw [hsp23]; exact qg22_2b
    obtain ⟨w24, hw24⟩ : ∃ z : Int, z = (pMuch h [101, 97, 110, 32] (-10) sp3 lim).1 := ⟨_, rfl⟩
    have ew24 : ag22 31 7 = w24 := by rw [hw24]; exact qg22_4b
    obtain ⟨L25, hL25⟩ : ∃ z : List Int, z = L ++ pEm (pMuch h [101, 97, 110, 32] (-10) sp3 lim) := ⟨_, rfl⟩
    have eL25 : ag22 32 = pput u ac L25 := by rw [hL25]; exact qg22_0b
    have hE : pCl h sp lim = pMuch h [101, 97, 110, 32] (-10) sp3 lim := by unfold pCl; rw [if_neg (by omega), if_pos hl8, ← hs1, if_pos (by omega)]
    have hl9 : fu u (166 + ac) (pMuch h [101, 97, 110, 32] (-10) sp3 lim).2.2.2.2 = u := fu_self _ hlim
    exact vx_vret hC hM eX12_clauseOfL_23 (⟨rfl, (by rw [hE, hl9, eL25, hL25]), qg22_1b, (by rw [hE, esp23, hsp23]), qg22_3b, (by rw [hE, ew24, hw24]), qg22_5b, qg22_6b, qg22_7b, rfl, rfl, rfl, rfl, fun k hk => frvig22 k hk⟩)
set_option maxHeartbeats 4000000 in
set_option maxRecDepth 100000 in
theorem kX12_clauseHere (G : xg_T) (d : Nat) (n : Nat) (tau : Nat → Nat × Nat) (vi vl : Nat → Int → Int) (vr : Nat → Int → Option Nat) (hO : xo n tau vr) (h u : Int → Int) (ac en sp : Int) (L : List Int) (h32 : vi 32 = pput u ac L) (h4 : vi 31 4 = ac) (h5 : vi 31 5 = sp) (h6 : vi 31 6 = en) (h7 : vi 31 7 = 0) (h8 : vi 31 8 = 0) (hac : 0 ≤ ac ∧ ac ≤ 4) (hen : pH h u en) (hsp : 0 ≤ sp ∧ sp ≤ en) (hw : 0 = 0 ∨ 0 = 1) (hL : (L.length : Int) ≤ sp) (lim : Int) (hlim : u (166 + ac) = lim) : xm G yX12_clauseHere cX12_clauseHere 1 none (d + 26) 0 0 [xa_r 31] n tau vi vl vr (xp_v (fun n1 t1 a1 b1 c1 => (a1 32 = pput (fu u (166 + ac) (pCl h sp lim).2.2.2.2) ac (L ++ pEm (pCl h sp lim))) ∧ (a1 31 4 = ac) ∧ (a1 31 5 = (pCl h sp lim).2.1) ∧ (a1 31 6 = en) ∧ (a1 31 7 = (pCl h sp lim).1) ∧ (a1 31 8 = 0) ∧ (a1 31 3 = vi 31 3) ∧ (a1 31 22 = vi 31 22) ∧ xs_I (fun k => ¬ k = 31 ∧ ¬ k = 32) n tau vi vl vr n1 t1 a1 b1 c1)) := by
  refine xm.of (lv := [(0, xa_r 31)]) (by decide) (Nat.le_of_ble_eq_true rfl) rfl (fun K hC hM hRm => ?_)
  have he := hen.1
  have hh := hen.2
  have hhs := hh sp
  refine vx_aload_n hC 0 rfl eX12_clauseHere_0 ?_
  refine vx_callV_i hC (kX12_hereP G (d + 24) _ _ _ _ _ hO h u ac en sp 0 0 L h32 h4 h5 h6 h7 h8 hac hen (by omega) (by omega) (by omega)) ly_X12_71 (ot_31 hO) rfl rfl rfl hRm (by omega) (Nat.le_of_ble_eq_true rfl) rfl eX12_clauseHere_1 (fun x1 n9 t9 a9 b9 c9 hx1 => ?_)
  obtain ⟨hx1, rfl, rfl, rfl, rfl, rfl⟩ := hx1
  have hrx1 := hh sp
  rcases (show x1 = 108 ∨ x1 = 116 ∨ (¬ x1 = 108 ∧ ¬ x1 = 116) by omega) with c2 | c2 | c2
  · refine vx_lookup hC (tgt := 32) (by omega) (by decide) (by rw [c2] <;> rfl) (by decide) eX12_clauseHere_4 ?_
    refine vx_aload_n hC 0 rfl eX12_clauseHere_32 ?_
    refine vx_callV_v hC (kX12_clauseOfL G d _ _ _ _ _ hO h u ac en sp L h32 h4 h5 h6 h7 h8 hac hen (by omega) (by omega) (by omega) lim hlim (by omega)) ly_X12_129 (ot_31 hO) rfl rfl rfl hRm (by omega) (Nat.le_of_ble_eq_true rfl) rfl eX12_clauseHere_33 (fun ng4 tg4 ag4 bg4 cg4 hg4 => ?_)
    obtain ⟨qg4_0, qg4_1, qg4_2, qg4_3, qg4_4, qg4_5, qg4_6, qg4_7, rfl, rfl, rfl, rfl, frg4⟩ := hg4
    have qg4_0b : ag4 32 = pput (fu u (166 + ac) (pCl h sp lim).2.2.2.2) ac (L ++ pEm (pCl h sp lim)) := by first | exact qg4_0 | rw [qg4_0, h32] | (rw [qg4_0]; exact h32)
    have qg4_1b : ag4 31 4 = ac := by first | exact qg4_1 | rw [qg4_1, h4] | (rw [qg4_1]; exact h4)
    have qg4_2b : ag4 31 5 = (pCl h sp lim).2.1 := by first | exact qg4_2 | rw [qg4_2, h5] | (rw [qg4_2]; exact h5)
    have qg4_3b : ag4 31 6 = en := by first | exact qg4_3 | rw [qg4_3, h6] | (rw [qg4_3]; exact h6)
    have qg4_4b : ag4 31 7 = (pCl h sp lim).1 := by first | exact qg4_4 | rw [qg4_4, h7] | (rw [qg4_4]; exact h7)
    have qg4_5b : ag4 31 8 = 0 := by first | exact qg4_5 | rw [qg4_5, h8] | (rw [qg4_5]; exact h8)
    have frvig4 : ∀ k : Nat, (¬ k = 31 ∧ ¬ k = 32) → ag4 k = vi k := fun k hk => (frg4 k (by omega))
    obtain ⟨sp5, hsp5⟩ : ∃ z : Int, z = (pCl h sp lim).2.1 := ⟨_, rfl⟩
    have esp5 : ag4 31 5 = sp5 := by rw [hsp5]; exact qg4_2b
    obtain ⟨w6, hw6⟩ : ∃ z : Int, z = (pCl h sp lim).1 := ⟨_, rfl⟩
    have ew6 : ag4 31 7 = w6 := by rw [hw6]; exact qg4_4b
    obtain ⟨L7, hL7⟩ : ∃ z : List Int, z = L ++ pEm (pCl h sp lim) := ⟨_, rfl⟩
    have eL7 : ag4 32 = pput (fu u (166 + ac) (pCl h sp lim).2.2.2.2) ac L7 := by rw [hL7]; exact qg4_0b
    refine vx_goto hC (tgt := 56) (by decide) eX12_clauseHere_36 ?_
    exact vx_vret hC hM eX12_clauseHere_56 (⟨rfl, (by rw [eL7, hL7]), qg4_1b, (by rw [esp5, hsp5]), qg4_3b, (by rw [ew6, hw6]), qg4_5b, qg4_6, qg4_7, rfl, rfl, rfl, rfl, fun k hk => frvig4 k hk⟩)
  · refine vx_lookup hC (tgt := 39) (by omega) (by decide) (by rw [c2] <;> rfl) (by decide) eX12_clauseHere_4 ?_
    refine vx_aload_n hC 0 rfl eX12_clauseHere_39 ?_
    refine vx_sipush hC (by decide) eX12_clauseHere_40 ?_
    refine vx_ldcs hC (i := 7) (tx := "tilt ") (by decide) eX12_clauseHere_43 ?_
    refine vx_callV_v hC (kX12_much G (d + 1) _ _ _ _ _ hO h u ac en sp L h32 h4 h5 h6 h7 h8 hac hen (by omega) (by omega) (by omega) (-200) (by omega) 7 (by decide) lim) ly_X12_123 (ot_31 hO) rfl rfl rfl hRm (by omega) (Nat.le_of_ble_eq_true rfl) rfl eX12_clauseHere_45 (fun ng9 tg9 ag9 bg9 cg9 hg9 => ?_)
    obtain ⟨qg9_0, qg9_1, qg9_2, qg9_3, qg9_4, qg9_5, qg9_6, qg9_7, rfl, rfl, rfl, rfl, frg9⟩ := hg9
    have qg9_0b : ag9 32 = pput u ac (L ++ pEm (pMuch h [116, 105, 108, 116, 32] (-200) sp lim)) := by first | exact qg9_0 | rw [qg9_0, h32] | (rw [qg9_0]; exact h32)
    have qg9_1b : ag9 31 4 = ac := by first | exact qg9_1 | rw [qg9_1, h4] | (rw [qg9_1]; exact h4)
    have qg9_2b : ag9 31 5 = (pMuch h [116, 105, 108, 116, 32] (-200) sp lim).2.1 := by first | exact qg9_2 | rw [qg9_2, h5] | (rw [qg9_2]; exact h5)
    have qg9_3b : ag9 31 6 = en := by first | exact qg9_3 | rw [qg9_3, h6] | (rw [qg9_3]; exact h6)
    have qg9_4b : ag9 31 7 = (pMuch h [116, 105, 108, 116, 32] (-200) sp lim).1 := by first | exact qg9_4 | rw [qg9_4, h7] | (rw [qg9_4]; exact h7)
    have qg9_5b : ag9 31 8 = 0 := by first | exact qg9_5 | rw [qg9_5, h8] | (rw [qg9_5]; exact h8)
    have frvig9 : ∀ k : Nat, (¬ k = 31 ∧ ¬ k = 32) → ag9 k = vi k := fun k hk => (frg9 k (by omega))
    obtain ⟨sp10, hsp10⟩ : ∃ z : Int, z = (pMuch h [116, 105, 108, 116, 32] (-200) sp lim).2.1 := ⟨_, rfl⟩
    have esp10 : ag9 31 5 = sp10 := by rw [hsp10]; exact qg9_2b
    obtain ⟨w11, hw11⟩ : ∃ z : Int, z = (pMuch h [116, 105, 108, 116, 32] (-200) sp lim).1 := ⟨_, rfl⟩
    have ew11 : ag9 31 7 = w11 := by rw [hw11]; exact qg9_4b
    obtain ⟨L12, hL12⟩ : ∃ z : List Int, z = L ++ pEm (pMuch h [116, 105, 108, 116, 32] (-200) sp lim) := ⟨_, rfl⟩
    have eL12 : ag9 32 = pput u ac L12 := by rw [hL12]; exact qg9_0b
    refine vx_goto hC (tgt := 56) (by decide) eX12_clauseHere_48 ?_
    have hE : pCl h sp lim = pMuch h [116, 105, 108, 116, 32] (-200) sp lim := by unfold pCl; rw [if_pos (by omega)]
    have hl9 : fu u (166 + ac) (pMuch h [116, 105, 108, 116, 32] (-200) sp lim).2.2.2.2 = u := fu_self _ hlim
    exact vx_vret hC hM eX12_clauseHere_56 (⟨rfl, (by rw [hE, hl9, eL12, hL12]), qg9_1b, (by rw [hE, esp10, hsp10]), qg9_3b, (by rw [hE, ew11, hw11]), qg9_5b, qg9_6, qg9_7, rfl, rfl, rfl, rfl, fun k hk => frvig9 k hk⟩)
  · refine vx_lookup hC (tgt := 51) (by omega) (by decide) (xn_osw c2) (by decide) eX12_clauseHere_4 ?_
    refine vx_aload_n hC 0 rfl eX12_clauseHere_51 ?_
    refine vx_iconst hC eX12_clauseHere_52 ?_
    refine vx_pi hC 7 (ot_31 hO) lp_X12_67 rfl (Or.inl rfl) (Or.inr ⟨rfl, by omega⟩) eX12_clauseHere_53 ?_
    refine vx_vi (fun v13 hv13 => ?_)
    have hv13_32 : v13 32 = pput u ac L := by rw [hv13, xu_c _ _ _ _ (by decide), h32]
    have hv13_31_4 : v13 31 4 = ac := by rw [hv13, xu_k, fu_n _ _ _ (by decide), h4]
    have hv13_31_5 : v13 31 5 = sp := by rw [hv13, xu_k, fu_n _ _ _ (by decide), h5]
    have hv13_31_6 : v13 31 6 = en := by rw [hv13, xu_k, fu_n _ _ _ (by decide), h6]
    have hv13_31_7 : v13 31 7 = 1 := by rw [hv13, xu_k, fu_s]
    have hv13_31_8 : v13 31 8 = 0 := by rw [hv13, xu_k, fu_n _ _ _ (by decide), h8]
    have hv13_31_3 : v13 31 3 = vi 31 3 := by rw [hv13, xu_k, fu_n _ _ _ (by decide)]
    have hv13_31_22 : v13 31 22 = vi 31 22 := by rw [hv13, xu_k, fu_n _ _ _ (by decide)]
    have frv13 : ∀ k : Nat, (¬ k = 31 ∧ ¬ k = 32) → v13 k = vi k := fun k hk => by rw [hv13, xu_c _ _ _ _ (by omega)]
    have hE : pCl h sp lim = (1, sp, [], 0, lim) := by unfold pCl; rw [if_neg (by omega), if_neg (by omega)]
    exact vx_vret hC hM eX12_clauseHere_56 (⟨rfl, (by rw [hE]; show _ = pput (fu u (166 + ac) lim) ac (L ++ []); rw [fu_self _ hlim, List.append_nil]; exact hv13_32), hv13_31_4, (by rw [hE]; exact hv13_31_5), hv13_31_6, (by rw [hE]; exact hv13_31_7), hv13_31_8, hv13_31_3, hv13_31_22, rfl, rfl, rfl, rfl, fun k hk => frv13 k hk⟩)
