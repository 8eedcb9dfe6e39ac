/-- what a step may be, good or not -/
def pR (L : List Int) : Prop := ∀ x ∈ L, -1000 ≤ x ∧ x ≤ 10000
theorem pR_nil : pR [] := fun x hx => absurd hx List.not_mem_nil
theorem pR_app {a b : List Int} (h1 : pR a) (h2 : pR b) : pR (a ++ b) := fun x hx => by
  rw [List.mem_append] at hx
  rcases hx with hx | hx
  · exact h1 x hx
  · exact h2 x hx
theorem pR_one {t : Int} (h : -1000 ≤ t ∧ t ≤ 10000) : pR [t] := fun x hx => by rw [List.mem_singleton] at hx; rw [hx]; exact h
theorem pNv_r (h : Int → Int) (w sp : Int) : 0 ≤ pNv h w sp ∧ pNv h w sp ≤ 99 := by
  unfold pNv
  by_cases e : w = 0 ∧ 48 ≤ h sp ∧ h sp ≤ 57
  · rw [if_pos e]
    by_cases e2 : h sp = 48
    · rw [if_pos e2]; omega
    · rw [if_neg e2]
      by_cases e3 : 48 ≤ h (sp + 1) ∧ h (sp + 1) ≤ 57
      · rw [if_pos e3]; omega
      · rw [if_neg e3]; omega
  · rw [if_neg e]; omega
theorem pTest_rg (h : Int → Int) (sp : Int) : pR (pTest h sp).2.2 := by
  have a1 := pA1_r h sp
  have a2 := pA2_r h (sp + 1)
  have a3 := pNv_r h 0 (sp + 2)
  unfold pTest
  split
  · exact pR_nil
  · split
    · exact pR_nil
    · split
      · exact pR_one (by omega)
      · exact pR_nil
theorem pLoop_rg {F : Int → pr_T} {h : Int → Int} {c t : Int} (hF : ∀ sp, pR (F sp).2.2) (ht : -1000 ≤ t ∧ t ≤ 10000) : ∀ (k : Nat) (sp : Int) (acc : List Int), pR acc → pR (pLoop F h c t k sp acc).2.2
  | 0, sp, acc, ha => by rw [pLoop]; exact ha
  | k + 1, sp, acc, ha => by
    rw [pLoop]
    split
    · split
      · exact pR_app ha (hF _)
      · exact pLoop_rg hF ht k _ _ (pR_app (pR_app ha (hF _)) (pR_one ht))
    · exact ha
theorem pSeq_rg {F : Int → pr_T} {h : Int → Int} {c t : Int} (hF : ∀ sp, pR (F sp).2.2) (ht : -1000 ≤ t ∧ t ≤ 10000) (sp : Int) : pR (pSeq F h c t sp).2.2 := by
  unfold pSeq
  split
  · exact hF _
  · exact pLoop_rg hF ht _ _ _ (hF _)
theorem pEx_rg {F : Int → pr_T} {h : Int → Int} (hF : ∀ sp, pR (F sp).2.2) (sp : Int) : pR (pEx F h sp).2.2 :=
  pSeq_rg (fun sp => pSeq_rg hF (by omega) sp) (by omega) sp
theorem pF_rg (h : Int → Int) : ∀ (k : Nat) (sp : Int), pR (pF h k sp).2.2
  | 0, sp => by rw [pF]; exact pTest_rg h sp
  | k + 1, sp => by
    have ih := pF_rg h k
    have ie := pEx_rg (h := h) ih (sp + 1)
    rw [pF]
    split
    · split
      · exact ih _
      · exact pR_app (ih _) (pR_one (by omega))
    · split
      · split
        · exact ie
        · split
          · exact ie
          · exact ie
      · exact pTest_rg h sp
theorem pW_rg {w sp : Int} {r : pr_T} (h : pR r.2.2) : pR (pW w r sp).2.2 := by
  unfold pW
  split
  · exact h
  · exact pR_nil
theorem pEm_rg {r : pc_T} (h1 : pR r.2.2.1) (h2 : -1000 ≤ r.2.2.2.1 ∧ r.2.2.2.1 ≤ 10000) : pR (pEm r) := by
  unfold pEm
  refine pR_app h1 ?_
  split
  · exact pR_nil
  · exact pR_one h2
theorem pMuch_rg {h : Int → Int} {l : List Int} {kd sp lim : Int} (hk : kd = -10 ∨ kd = -200) : pR (pEm (pMuch h l kd sp lim)) := by
  have hv := pNv_r h (pLt h l 0 sp).1 (pLt h l 0 sp).2
  refine pEm_rg (pW_rg (pEx_rg (pF_rg h 5) _)) ?_
  unfold pMuch
  dsimp only
  split <;> omega
theorem pCl_rg (h : Int → Int) (sp lim : Int) : pR (pEm (pCl h sp lim)) := by
  unfold pCl
  split
  · exact pMuch_rg (Or.inr rfl)
  · split
    · split
      · exact pMuch_rg (Or.inl rfl)
      · unfold pLim pEm; dsimp only; exact pR_nil
    · unfold pEm; exact pR_nil
theorem pTab_rg (h : Int → Int) : ∀ (k : Nat) (sp lim : Int) (em : List Int) (cl : List (List Int × Int)), pR em → pR (pTab h k sp lim em cl).2.2.2.1
  | 0, sp, lim, em, cl, he => by rw [pTab]; exact he
  | k + 1, sp, lim, em, cl, he => by
    rw [pTab_s]
    split
    · exact pTab_rg h k _ _ _ _ (pR_app he (pCl_rg h sp lim))
    · exact pR_app he (pCl_rg h sp lim)
theorem me_wf_e {t : Int} {q : List Int} (h : (-109 ≤ t ∧ t ≤ -10) ∨ (-299 ≤ t ∧ t ≤ -200)) : me_wf (t :: q) 1 = me_wf q 0 := by
  rw [me_wf, if_neg (by omega), if_neg (by omega), if_neg (by omega), if_pos h]
  simp
theorem pCl_wf {en sp : Int} {r : pc_T} (h : pcOK en sp r) (h0 : r.1 = 0) (q : List Int) : me_wf (pEm r ++ q) 0 = me_wf q 0 := by
  obtain ⟨o1, o2, o3, o4, o5, o6, o7⟩ := h
  obtain ⟨p1, p2, p3⟩ := o6 h0
  unfold pEm
  by_cases e : r.2.2.2.1 = 0
  · rw [if_pos e, p2 e]; rfl
  · rw [if_neg e, List.append_assoc, (p3 e).2.2.2.2]
    exact me_wf_e (p3 e).2.2.2.1
theorem pTab_ok {h u : Int → Int} {en : Int} (hh : pH h u en) : ∀ (k : Nat) (sp lim : Int) (em : List Int) (cl : List (List Int × Int)), (0 ≤ sp ∧ sp ≤ en) → (1 ≤ lim ∧ lim ≤ 99) → (∀ q, me_wf (em ++ q) 0 = me_wf q 0) → ((((pTab h k sp lim em cl).2.2.2.1.length : Nat) : Int) ≤ (em.length : Int) + (en - sp)) ∧ (1 ≤ (pTab h k sp lim em cl).2.2.1 ∧ (pTab h k sp lim em cl).2.2.1 ≤ 99) ∧ ((pTab h k sp lim em cl).1 = 0 → ∀ q, me_wf ((pTab h k sp lim em cl).2.2.2.1 ++ q) 0 = me_wf q 0)
  | 0, sp, lim, em, cl, hs, hm, he => by rw [pTab]; exact ⟨by show (em.length : Int) ≤ _; omega, hm, fun h => absurd h (by show ¬ ((1 : Int) = 0); decide)⟩
  | k + 1, sp, lim, em, cl, hs, hm, he => by
    have hk := pCl_ok hh (sp := sp) (lim := lim) hs hm
    have hwf := fun (h0 : (pCl h sp lim).1 = 0) => pCl_wf hk h0
    obtain ⟨o1, o2, o3, o4, o5, o6, o7⟩ := hk
    have hb := hh.2 (pCl h sp lim).2.1
    rw [pTab_s]
    by_cases e : (pCl h sp lim).1 = 0 ∧ 0 < k ∧ h (pCl h sp lim).2.1 = 59
    · rw [if_pos e]
      have ih := pTab_ok hh k ((pCl h sp lim).2.1 + 1) (pCl h sp lim).2.2.2.2 (em ++ pEm (pCl h sp lim)) (cl ++ pCs (pCl h sp lim)) (by omega) o5 (fun q => by rw [List.append_assoc, he, hwf e.1])
      refine ⟨?_, ih.2⟩
      have i1 := ih.1
      rw [List.length_append] at i1
      omega
    · rw [if_neg e]
      refine ⟨?_, o5, fun h0 q => ?_⟩
      · show (((em ++ pEm (pCl h sp lim)).length : Nat) : Int) ≤ _
        rw [List.length_append]
        omega
      · show me_wf (em ++ pEm (pCl h sp lim) ++ q) 0 = _
        rw [List.append_assoc, he, hwf h0]
theorem tbR_ok {s : Int → Int} (h : ms_W s) : (((tbR s).2.2.2.1.length : Int) ≤ 100) ∧ (1 ≤ (tbR s).2.2.1 ∧ (tbR s).2.2.1 ≤ 99) ∧ ((tbR s).1 = 0 → me_wf (tbR s).2.2.2.1 0 = true) ∧ pR (tbR s).2.2.2.1 := by
  have h3 := h.2.2.2.2.1
  have := pTab_ok (pH_ph h) 10 0 99 [] [] (by omega) (by omega) (fun q => rfl)
  refine ⟨?_, this.2.1, fun h0 => ?_, pTab_rg _ _ _ _ _ _ pR_nil⟩
  · have i1 := this.1
    rw [List.length_nil] at i1
    unfold tbR
    omega
  · have i2 := this.2.2 h0 []
    rw [List.append_nil] at i2
    unfold tbR
    rw [i2]; rfl
theorem pR_getD {L : List Int} (h : pR L) (j : Nat) : -1000 ≤ L.getD j 0 ∧ L.getD j 0 ≤ 10000 := by
  rw [List.getD_eq_getElem?_getD]
  cases e : L[j]? with
  | none => simp
  | some x => exact h x (List.mem_of_getElem? e)
theorem pput_r {u : Int → Int} {ac : Int} {L : List Int} (hu : ∀ z, -2147483648 ≤ u z ∧ u z < 2147483648) (hl : (L.length : Int) ≤ 100) (hr : pR L) (z : Int) : -2147483648 ≤ pput u ac L z ∧ pput u ac L z < 2147483648 := by
  unfold pput
  split
  · omega
  · split
    · have := pR_getD hr (z - (176 + 140 * ac)).toNat; omega
    · exact hu z
theorem tbU_hi {s : Int → Int} (h1 : 0 ≤ s 1 ∧ s 1 ≤ 4) {t : Int} (ht : 0 ≤ t ∧ t < s 1) : tbU s (171 + t) = s (171 + t) := by
  unfold tbU pput
  rw [if_neg (by omega), if_neg (by omega), fu_n _ _ _ (by omega), fu_n _ _ _ (by omega)]
theorem fu_r {s : Int → Int} {z x : Int} (h : ∀ z, -2147483648 ≤ s z ∧ s z < 2147483648) (hx : -2147483648 ≤ x ∧ x < 2147483648) (w : Int) : -2147483648 ≤ fu s z x w ∧ fu s z x w < 2147483648 := by
  unfold fu
  split
  · exact hx
  · exact h w
theorem tbU_r {s : Int → Int} (h : ms_W s) (z : Int) : -2147483648 ≤ tbU s z ∧ tbU s z < 2147483648 := by
  obtain ⟨o1, o2, o3, o4⟩ := tbR_ok h
  exact pput_r (fu_r (fu_r h.1 (by omega)) (by omega)) o1 o4 z
theorem tbU_O {s : Int → Int} (h : ms_W s) (h5 : ¬ s 1 = 5) (hO : ms_O s) : ms_O (tbU s) := by
  obtain ⟨o1, o2, o3, o4⟩ := tbR_ok h
  have h1 := h.2.2.1
  intro z hz
  unfold tbU pput
  rw [if_neg (by omega), if_neg (by omega), fu_n _ _ _ (by omega), fu_n _ _ _ (by omega)]
  exact hO z hz
theorem tbU_W {s : Int → Int} (h : ms_V s) (h5 : ¬ s 1 = 5) : ms_V (tbU s) := by
  have hr2 := tbU_r h.1
  obtain ⟨⟨hr, h0, h1, h2, h3, h4, h5a, h6, hp0, hrow, hwon, htape, htab⟩, h60⟩ := h
  have e : ∀ z, z < 166 → ¬ z = 3 → tbU s z = s z := fun z z1 z2 => tbU_lo (by omega) z1 z2
  refine ⟨⟨hr2, ?_, ?_, ?_, ?_, ?_, ?_, ?_, fun q q1 q2 => ?_, fun z z1 z2 => ?_, fun z z1 z2 => ?_, fun z z1 z2 => ?_, fun t t1 t2 => ?_⟩, ?_⟩
  · rw [e 0 (by omega) (by omega)]; exact h0
  · rw [e 1 (by omega) (by omega)]; exact h1
  · rw [e 2 (by omega) (by omega)]; exact h2
  · rw [tbU_3 (by omega)]; omega
  · rw [e 4 (by omega) (by omega), e 1 (by omega) (by omega)]; exact h4
  · rw [e 5 (by omega) (by omega)]; exact h5a
  · rw [e 6 (by omega) (by omega)]; exact h6
  · rw [e 0 (by omega) (by omega)] at q2
    rw [e (10 + q) (by omega) (by omega), e (14 + q) (by omega) (by omega), e (18 + q) (by omega) (by omega), e (22 + q) (by omega) (by omega)]
    exact hp0 q q1 q2
  · rw [e z (by omega) (by omega)]; exact hrow z z1 z2
  · rw [e z (by omega) (by omega)]; exact hwon z z1 z2
  · rw [e z (by omega) (by omega)]; exact htape z z1 z2
  · rw [e 1 (by omega) (by omega)] at t2
    have g := htab t t1 t2
    rw [tbU_oldl (by omega) ⟨t1, t2⟩, tbU_hi (by omega) ⟨t1, t2⟩, tbU_olds (by omega) ⟨t1, t2⟩ (by omega)]
    exact g
  · rw [e 6 (by omega) (by omega)]; exact h60
theorem tab_V {s : Int → Int} (h : ms_V s) : ms_V (sp_table s).2 := by
  by_cases h5 : s 1 = 5
  · rw [spt_5 h5]; exact h
  · by_cases hg : (tbR s).1 = 0 ∧ (tbR s).2.1 = s 3
    · rw [spt_G h5 hg]
      obtain ⟨o1, o2, o3, o4⟩ := tbR_ok h.1
      have hU := tbU_W h h5
      have h1 := h.1.2.2.1
      have u1 : tbU s 1 = s 1 := tbU_lo (by omega) (by omega) (by omega)
      obtain ⟨⟨gr, g0, g1, g2, g3, g4, g5a, g6, gp0, grow, gwon, gtape, gtab⟩, g60⟩ := hU
      show ms_V (fu (fu (tbU s) 1 (s 1 + 1)) 4 (s 1))
      have e : ∀ z, ¬ z = 1 → ¬ z = 4 → fu (fu (tbU s) 1 (s 1 + 1)) 4 (s 1) z = tbU s z := fun z z1 z2 => by rw [fu_n _ _ _ z2, fu_n _ _ _ z1]
      have e1 : fu (fu (tbU s) 1 (s 1 + 1)) 4 (s 1) 1 = s 1 + 1 := by rw [fu_n _ _ _ (by decide), fu_s]
      refine ⟨⟨fu_r (fu_r gr (by omega)) (by omega), ?_, ?_, ?_, ?_, ?_, ?_, ?_, fun q q1 q2 => ?_, fun z z1 z2 => ?_, fun z z1 z2 => ?_, fun z z1 z2 => ?_, fun t t1 t2 => ?_⟩, ?_⟩
      · rw [e 0 (by omega) (by omega)]; exact g0
      · rw [e1]; omega
      · rw [e 2 (by omega) (by omega)]; exact g2
      · rw [e 3 (by omega) (by omega)]; exact g3
      · rw [fu_s, e1]; omega
      · rw [e 5 (by omega) (by omega)]; exact g5a
      · rw [e 6 (by omega) (by omega)]; exact g6
      · rw [e 0 (by omega) (by omega)] at q2
        rw [e (10 + q) (by omega) (by omega), e (14 + q) (by omega) (by omega), e (18 + q) (by omega) (by omega), e (22 + q) (by omega) (by omega)]
        exact gp0 q q1 q2
      · rw [e z (by omega) (by omega)]; exact grow z z1 z2
      · rw [e z (by omega) (by omega)]; exact gwon z z1 z2
      · rw [e z (by omega) (by omega)]; exact gtape z z1 z2
      · rw [e1] at t2
        rw [e (166 + t) (by omega) (by omega), e (171 + t) (by omega) (by omega), ms_14 _ _ _ _ t1]
        by_cases et : t = s 1
        · rw [et, tbU_lim (by omega), tbU_new (by omega)]
          refine ⟨o2, ?_, o3 hg.1⟩
          unfold tbU
          rw [pput_m]
          omega
        · exact gtab t t1 (by omega)
      · rw [e 6 (by omega) (by omega)]; exact g60
    · rw [spt_F h5 hg]; exact tbU_W h h5
theorem fu_O {s : Int → Int} {z x : Int} (h : ms_O s) (hz : 0 ≤ z ∧ z < 876) : ms_O (fu s z x) := fun w hw => by rw [fu_n _ _ _ (by omega)]; exact h w hw
theorem tab_O {s : Int → Int} (h : ms_V s) (hO : ms_O s) : ms_O (sp_table s).2 := by
  by_cases h5 : s 1 = 5
  · rw [spt_5 h5]; exact hO
  · have hU := tbU_O h.1 h5 hO
    by_cases hg : (tbR s).1 = 0 ∧ (tbR s).2.1 = s 3
    · rw [spt_G h5 hg]
      exact fu_O (fu_O hU (by omega)) (by omega)
    · rw [spt_F h5 hg]; exact hU
/-- a row that is another below its tables -/
theorem ms_V_mk {s s2 : Int → Int} (h : ms_V s) (hr2 : ∀ z, -2147483648 ≤ s2 z ∧ s2 z < 2147483648) (e1 : s2 1 = s 1) (e4 : s2 4 = s 4) (e6 : s2 6 = s 6) (hz : ∀ z, 166 ≤ z → s2 z = s z) (g0 : 0 ≤ s2 0 ∧ s2 0 ≤ 4) (g2 : 0 ≤ s2 2 ∧ s2 2 ≤ 24) (g3 : 0 ≤ s2 3 ∧ s2 3 ≤ 100) (g5 : 0 ≤ s2 5 ∧ s2 5 ≤ 9)
    (gp : ∀ p, 0 ≤ p → p < s2 0 → (0 ≤ s2 (10 + p) ∧ s2 (10 + p) ≤ 6) ∧ (0 ≤ s2 (14 + p) ∧ s2 (14 + p) ≤ 9) ∧ (2 ≤ s2 (18 + p) ∧ s2 (18 + p) ≤ 12) ∧ (0 ≤ s2 (22 + p) ∧ s2 (22 + p) ≤ s2 (18 + p))) (gr : ∀ z, 26 ≤ z → z < 42 → 0 ≤ s2 z ∧ s2 z ≤ 9) (gw : ∀ z, 42 ≤ z → z < 66 → 0 ≤ s2 z ∧ s2 z ≤ 1) (gt : ∀ z, 66 ≤ z → z < 166 → 0 ≤ s2 z ∧ s2 z ≤ 127) : ms_V s2 := by
  obtain ⟨⟨hr, h0, h1, h2, h3, h4, h5a, h6, hp0, hrow, hwon, htape, htab⟩, h60⟩ := h
  exact ⟨⟨hr2, g0, by rw [e1]; exact h1, g2, g3, by rw [e4, e1]; exact h4, g5, by rw [e6]; exact h6, gp, gr, gw, gt, ms_tab e1 hz h1.2 htab⟩, by rw [e6]; exact h60⟩
theorem feed_V {s : Int → Int} {x : Int} (h : ms_V s) : ms_V (sp_feed s x).2 := by
  unfold sp_feed
  split
  · exact h
  · split
    · exact h
    · have h' := h
      obtain ⟨⟨hr, h0, h1, h2, h3, h4, h5a, h6, hp0, hrow, hwon, htape, htab⟩, h60⟩ := h
      show ms_V (fu (fu s (66 + s 3) x) 3 (s 3 + 1))
      have e : ∀ z, ¬ z = 3 → ¬ z = 66 + s 3 → fu (fu s (66 + s 3) x) 3 (s 3 + 1) z = s z := fun z z1 z2 => by rw [fu_n _ _ _ z1, fu_n _ _ _ z2]
      refine ms_V_mk h' (fu_r (fu_r hr (by omega)) (by omega)) (e 1 (by omega) (by omega)) (e 4 (by omega) (by omega)) (e 6 (by omega) (by omega)) (fun z z1 => e z (by omega) (by omega)) ?_ ?_ ?_ ?_ (fun q q1 q2 => ?_) (fun z z1 z2 => ?_) (fun z z1 z2 => ?_) (fun z z1 z2 => ?_)
      · rw [e 0 (by omega) (by omega)]; exact h0
      · rw [e 2 (by omega) (by omega)]; exact h2
      · rw [fu_s]; omega
      · rw [e 5 (by omega) (by omega)]; exact h5a
      · rw [e 0 (by omega) (by omega)] at q2
        rw [e (10 + q) (by omega) (by omega), e (14 + q) (by omega) (by omega), e (18 + q) (by omega) (by omega), e (22 + q) (by omega) (by omega)]
        exact hp0 q q1 q2
      · rw [e z (by omega) (by omega)]; exact hrow z z1 z2
      · rw [e z (by omega) (by omega)]; exact hwon z z1 z2
      · by_cases ez : z = 66 + s 3
        · rw [ez, fu_n _ _ _ (by omega), fu_s]; omega
        · rw [e z (by omega) ez]; exact htape z z1 z2
theorem feed_O {s : Int → Int} {x : Int} (h : ms_V s) (hO : ms_O s) : ms_O (sp_feed s x).2 := by
  have h3 := h.1.2.2.2.2.1
  unfold sp_feed
  split
  · exact hO
  · split
    · exact hO
    · exact fu_O (fu_O hO (by omega)) (by omega)
/-- one place below the tables is another -/
theorem ms_V_1 {s : Int → Int} {z x : Int} (h : ms_V s) (hz : z < 166) (z1 : ¬ z = 1) (z4 : ¬ z = 4) (z6 : ¬ z = 6) (hx : -2147483648 ≤ x ∧ x < 2147483648) (x0 : ¬ z = 0) (x2 : z = 2 → 0 ≤ x ∧ x ≤ 24) (x3 : z = 3 → 0 ≤ x ∧ x ≤ 100) (x5 : z = 5 → 0 ≤ x ∧ x ≤ 9) (xp : ∀ p, 0 ≤ p → p < s 0 → ¬ z = 10 + p ∧ ¬ z = 14 + p ∧ ¬ z = 18 + p ∧ (z = 22 + p → 0 ≤ x ∧ x ≤ s (18 + p))) (xr : 26 ≤ z → z < 42 → 0 ≤ x ∧ x ≤ 9) (xw : 42 ≤ z → z < 66 → 0 ≤ x ∧ x ≤ 1) (xt : 66 ≤ z → 0 ≤ x ∧ x ≤ 127) : ms_V (fu s z x) := by
  have h' := h
  obtain ⟨⟨hr, h0, h1, h2, h3, h4, h5a, h6, hp0, hrow, hwon, htape, htab⟩, h60⟩ := h
  have e : ∀ w, ¬ w = z → fu s z x w = s w := fun w w1 => fu_n _ _ _ w1
  refine ms_V_mk h' (fu_r hr hx) (e 1 (by omega)) (e 4 (by omega)) (e 6 (by omega)) (fun w w1 => e w (by omega)) ?_ ?_ ?_ ?_ (fun q q1 q2 => ?_) (fun w w1 w2 => ?_) (fun w w1 w2 => ?_) (fun w w1 w2 => ?_)
  · rw [e 0 (by omega)]; exact h0
  · by_cases ez : z = 2
    · rw [ez, fu_s]; exact x2 ez
    · rw [e 2 (by omega)]; exact h2
  · by_cases ez : z = 3
    · rw [ez, fu_s]; exact x3 ez
    · rw [e 3 (by omega)]; exact h3
  · by_cases ez : z = 5
    · rw [ez, fu_s]; exact x5 ez
    · rw [e 5 (by omega)]; exact h5a
  · rw [e 0 (by omega)] at q2
    have g := xp q q1 q2
    have g2 := hp0 q q1 q2
    rw [e (10 + q) (by omega), e (14 + q) (by omega), e (18 + q) (by omega)]
    refine ⟨g2.1, g2.2.1, g2.2.2.1, ?_⟩
    by_cases ez : z = 22 + q
    · rw [ez, fu_s]; exact g.2.2.2 ez
    · rw [e (22 + q) (by omega)]; exact g2.2.2.2
  · by_cases ez : w = z
    · rw [ez, fu_s]; exact xr (by omega) (by omega)
    · rw [e w ez]; exact hrow w w1 w2
  · by_cases ez : w = z
    · rw [ez, fu_s]; exact xw (by omega) (by omega)
    · rw [e w ez]; exact hwon w w1 w2
  · by_cases ez : w = z
    · rw [ez, fu_s]; exact xt (by omega)
    · rw [e w ez]; exact htape w w1 w2
theorem day_V {s : Int → Int} {x : Int} (h : ms_V s) : ms_V (sp_day s x).2 := by
  have h0 := h.1.2.1
  unfold sp_day
  split
  · exact h
  · exact ms_V_1 h (by omega) (by omega) (by omega) (by omega) (by omega) (by omega) (by omega) (by omega) (by omega) (fun p p1 p2 => by omega) (by omega) (by omega) (by omega)
theorem day_O {s : Int → Int} {x : Int} (hO : ms_O s) : ms_O (sp_day s x).2 := by
  unfold sp_day
  split
  · exact hO
  · exact fu_O hO (by omega)
theorem purse_V1 {s : Int → Int} {q x : Int} (h : ms_V s) (hq : 0 ≤ q ∧ q < s 0) (hx : 0 ≤ x ∧ x ≤ s (18 + q)) : ms_V (fu s (22 + q) x) := by
  have h0 := h.1.2.1
  have hg := h.1.2.2.2.2.2.2.2.2.1 q hq.1 hq.2
  exact ms_V_1 h (by omega) (by omega) (by omega) (by omega) (by omega) (by omega) (by omega) (by omega) (by omega) (fun p p1 p2 => ⟨by omega, by omega, by omega, fun e => by rw [show p = q by omega]; exact hx⟩) (by omega) (by omega) (by omega)
theorem purse_V {s : Int → Int} {q x : Int} (h : ms_V s) : ms_V (sp_purse s q x).2 := by
  unfold sp_purse
  split
  · exact h
  · split
    · exact h
    · exact purse_V1 h (by omega) (by omega)
theorem purse_O {s : Int → Int} {q x : Int} (h : ms_V s) (hO : ms_O s) : ms_O (sp_purse s q x).2 := by
  have h0 := h.1.2.1
  unfold sp_purse
  split
  · exact hO
  · split
    · exact hO
    · exact fu_O hO (by omega)
theorem row_V {s : Int → Int} {q k x : Int} (h : ms_V s) : ms_V (sp_row s q k x).2 := by
  have h0 := h.1.2.1
  unfold sp_row
  split
  · exact h
  · split
    · exact h
    · split
      · exact h
      · exact ms_V_1 h (by omega) (by omega) (by omega) (by omega) (by omega) (by omega) (by omega) (by omega) (by omega) (fun p p1 p2 => by omega) (by omega) (by omega) (by omega)
theorem row_O {s : Int → Int} {q k x : Int} (h : ms_V s) (hO : ms_O s) : ms_O (sp_row s q k x).2 := by
  have h0 := h.1.2.1
  unfold sp_row
  split
  · exact hO
  · split
    · exact hO
    · split
      · exact hO
      · exact fu_O hO (by omega)
theorem play_V {s : Int → Int} {q w : Int} (h : ms_V s) : ms_V (sp_play s q w).2 := by
  unfold sp_play
  split
  · exact h
  · split
    · exact h
    · next h1 h2 =>
      have hg := h.1.2.2.2.2.2.2.2.2.1 q (by omega) (by omega)
      have hs := ms_stake_r h.1 (p := q) (q := s (22 + q)) (by omega) (by omega)
      show ms_V (ms_goes s q w)
      unfold ms_goes
      refine purse_V1 h (by omega) ?_
      split <;> omega
theorem play_O {s : Int → Int} {q w : Int} (h : ms_V s) (hO : ms_O s) : ms_O (sp_play s q w).2 := by
  have h0 := h.1.2.1
  unfold sp_play
  split
  · exact hO
  · split
    · exact hO
    · exact fu_O hO (by omega)
theorem toss_V {s : Int → Int} {x : Int} (hx : x = 0 ∨ x = 1) (h : ms_V s) : ms_V (sp_toss s x).2 := by
  have h0 := h.1.2.1
  have h2 := h.1.2.2.2.1
  unfold sp_toss
  split
  · exact h
  · have g : ms_V (fu s (42 + s 2) x) := ms_V_1 h (by omega) (by omega) (by omega) (by omega) (by omega) (by omega) (by omega) (by omega) (by omega) (fun p p1 p2 => by omega) (by omega) (by omega) (by omega)
    have e0 : fu s (42 + s 2) x 0 = s 0 := fu_n _ _ _ (by omega)
    exact ms_V_1 g (by omega) (by omega) (by omega) (by omega) (by omega) (by omega) (by omega) (by omega) (by omega) (fun p p1 p2 => by omega) (by omega) (by omega) (by omega)
theorem toss_O {s : Int → Int} {x : Int} (h : ms_V s) (hO : ms_O s) : ms_O (sp_toss s x).2 := by
  have h2 := h.1.2.2.2.1
  unfold sp_toss
  split
  · exact hO
  · exact fu_O (fu_O hO (by omega)) (by omega)
theorem clear_V {s : Int → Int} (h : ms_V s) : ms_V (sp_clear s).2 :=
  ms_V_1 h (by omega) (by omega) (by omega) (by omega) (by omega) (by omega) (by omega) (by omega) (by omega) (fun p p1 p2 => by omega) (by omega) (by omega) (by omega)
theorem clear_O {s : Int → Int} (hO : ms_O s) : ms_O (sp_clear s).2 := fu_O hO (by omega)
theorem undo_V {s im : Int → Int} {has : Int} (h : ms_V s) (hi : has = 0 ∨ (has = 1 ∧ ms_V im)) : ms_V (sp_undo s im has).2 := by
  unfold sp_undo
  split
  · exact h
  · next e => exact (hi.resolve_left e).2
theorem undo_O {s im : Int → Int} {has : Int} (h : ms_O s) (hi : ms_O im) : ms_O (sp_undo s im has).2 := by
  unfold sp_undo
  split
  · exact h
  · exact hi
theorem player_V {s : Int → Int} {kd v go pu : Int} (h : ms_V s) : ms_V (sp_player s kd v go pu).2 := by
  by_cases c1 : kd < 0 ∨ 6 < kd
  · rw [spy_1 c1]; exact h
  · by_cases c2 : v < 0 ∨ 9 < v ∨ go < 2 ∨ 12 < go ∨ pu < 0 ∨ go < pu
    · rw [spy_2 c1 c2]; exact h
    · by_cases c3 : s 0 = 4
      · rw [spy_4 c1 c2 c3]; exact h
      · have hE := spy_0 c1 c2 c3
        obtain ⟨s2, hs2⟩ : ∃ f : Int → Int, f = fu (fz (fu (fu (fu (fu s (10 + s 0) kd) (14 + s 0) v) (18 + s 0) go) (22 + s 0) pu) (26 + 4 * s 0) 4) 0 (s 0 + 1) := ⟨_, rfl⟩
        rw [← hs2] at hE
        rw [hE]
        show ms_V s2
        have h' := h
        obtain ⟨⟨hr, h0, h1, h2, h3, h4, h5a, h6, hp0, hrow, hwon, htape, htab⟩, h60⟩ := h
        have z0 : s2 0 = s 0 + 1 := by rw [spl_at hs2, if_pos rfl]
        have hi : ∀ z, 42 ≤ z → s2 z = s z := fun z hz => spl_e hs2 (by omega) (by omega) (by omega) (by omega) (by omega) (by omega)
        have lo : ∀ z, 1 ≤ z → z < 10 → s2 z = s z := fun z z1 z2 => spl_e hs2 (by omega) (by omega) (by omega) (by omega) (by omega) (by omega)
        refine ms_V_mk h' (fun z => ?_) (lo 1 (by omega) (by omega)) (lo 4 (by omega) (by omega)) (lo 6 (by omega) (by omega)) (fun z hz => hi z (by omega)) (by omega) ?_ ?_ ?_ (fun q q1 q2 => ?_) (fun z z1 z2 => ?_) (fun z z1 z2 => ?_) (fun z z1 z2 => ?_)
        · have hz := hr z
          rw [spl_at hs2]
          (repeat' split) <;> omega
        · rw [lo 2 (by omega) (by omega)]; exact h2
        · rw [lo 3 (by omega) (by omega)]; exact h3
        · rw [lo 5 (by omega) (by omega)]; exact h5a
        · rw [z0] at q2
          by_cases e : q = s 0
          · rw [e, spl_at hs2 (10 + s 0), if_neg (by omega), if_neg (by omega), if_neg (by omega), if_neg (by omega), if_neg (by omega), if_pos rfl, spl_at hs2 (14 + s 0), if_neg (by omega), if_neg (by omega), if_neg (by omega), if_neg (by omega), if_pos rfl, spl_at hs2 (18 + s 0), if_neg (by omega), if_neg (by omega), if_neg (by omega), if_pos rfl, spl_at hs2 (22 + s 0), if_neg (by omega), if_neg (by omega), if_pos rfl]
            omega
          · rw [spl_e hs2 (z := 10 + q) (by omega) (by omega) (by omega) (by omega) (by omega) (by omega), spl_e hs2 (z := 14 + q) (by omega) (by omega) (by omega) (by omega) (by omega) (by omega), spl_e hs2 (z := 18 + q) (by omega) (by omega) (by omega) (by omega) (by omega) (by omega), spl_e hs2 (z := 22 + q) (by omega) (by omega) (by omega) (by omega) (by omega) (by omega)]
            exact hp0 q q1 (by omega)
        · by_cases e : 26 + 4 * s 0 ≤ z ∧ z < 26 + 4 * s 0 + 4
          · rw [spl_at hs2, if_neg (by omega), if_pos e]; omega
          · rw [spl_e hs2 (by omega) e (by omega) (by omega) (by omega) (by omega)]; exact hrow z z1 z2
        · rw [hi z (by omega)]; exact hwon z z1 z2
        · rw [hi z (by omega)]; exact htape z z1 z2
theorem player_O {s : Int → Int} {kd v go pu : Int} (h : ms_V s) (hO : ms_O s) : ms_O (sp_player s kd v go pu).2 := by
  have h0 := h.1.2.1
  by_cases c1 : kd < 0 ∨ 6 < kd
  · rw [spy_1 c1]; exact hO
  · by_cases c2 : v < 0 ∨ 9 < v ∨ go < 2 ∨ 12 < go ∨ pu < 0 ∨ go < pu
    · rw [spy_2 c1 c2]; exact hO
    · by_cases c3 : s 0 = 4
      · rw [spy_4 c1 c2 c3]; exact hO
      · rw [spy_0 c1 c2 c3]
        intro z hz
        exact (spl_e (s2 := fu (fz (fu (fu (fu (fu s (10 + s 0) kd) (14 + s 0) v) (18 + s 0) go) (22 + s 0) pu) (26 + 4 * s 0) 4) 0 (s 0 + 1)) (z := z) rfl (by omega) (by omega) (by omega) (by omega) (by omega) (by omega)).trans (hO z hz)
/-- between two calls: the reference's cells are good, the class's stand for them -/
def LI (n : Nat) (tau : Nat → Nat × Nat) (vi : Nat → Int → Int) (vr : Nat → Int → Option Nat) : Prop := MI n tau vi vr ∧ RCl (vi 32) (vi 33) (vi 31 3) (vi 31 22) (vi 44) n tau vi vr
theorem LI.mid {s2 im2 : Int → Int} {has2 ran2 : Int} {bod2 : Int → Int} {n n1 : Nat} {tau t1 : Nat → Nat × Nat} {vi vl a1 b1 : Nat → Int → Int} {vr c1 : Nat → Int → Option Nat} (h : LI n tau vi vr) (hc : cq s2 im2 has2 ran2 bod2 n tau vi vl n1 t1 a1 b1 c1) : MI n1 t1 a1 c1 ∧ a1 32 = vi 32 ∧ a1 33 = vi 33 ∧ a1 31 = vi 31 ∧ a1 44 = vi 44 := by
  obtain ⟨⟨hO, hV, hi, hrn, hO2, hO3⟩, -⟩ := h
  obtain ⟨-, -, hx, -, hf⟩ := hc
  have e31 := (hf 31 (by omega)).1
  have e32 := (hf 32 (by omega)).1
  have e33 := (hf 33 (by omega)).1
  have e44 := (hf 44 (by omega)).1
  refine ⟨⟨hx, ?_, ?_, ?_, ?_, ?_⟩, e32, e33, e31, e44⟩
  · rw [e32]; exact hV
  · rw [e31, e33]; exact hi
  · rw [e31]; exact hrn
  · rw [e32]; exact hO2
  · rw [e33]; exact hO3
theorem LI.step {s2 im2 : Int → Int} {has2 ran2 : Int} {bod2 : Int → Int} {n n1 n2 : Nat} {tau t1 t2 : Nat → Nat × Nat} {vi vl a1 b1 a2 b2 : Nat → Int → Int} {vr c1 c2 : Nat → Int → Option Nat} (hc : cq s2 im2 has2 ran2 bod2 n tau vi vl n1 t1 a1 b1 c1) (hm : mq s2 im2 has2 ran2 bod2 n1 t1 a1 b1 c1 n2 t2 a2 b2 c2) (hV : ms_V s2) (hi : has2 = 0 ∨ (has2 = 1 ∧ ms_V im2)) (hO2 : ms_O s2) (hO3 : ms_O im2) : LI n2 t2 a2 c2 ∧ n2 = n1 := by
  obtain ⟨hn, -, hx, hR, -⟩ := hc
  obtain ⟨rfl, rfl, rfl, e32, e33, e3, e22, e44, hf⟩ := hm
  have h45 := hx.1
  have hrn := hR.2.2.2.2.2.1
  refine ⟨⟨⟨hx, ?_, ?_, ?_, ?_, ?_⟩, ?_⟩, rfl⟩
  · rw [e32]; exact hV
  · rw [e3, e33]; exact hi
  · rw [e22]; exact hrn
  · rw [e32]; exact hO2
  · rw [e33]; exact hO3
  · rw [e32, e33, e3, e22, e44]
    exact hR.fr (fun k hk => (hf k (by omega)).1) (Nat.le_refl _) (fun _ _ => rfl) (fun _ _ => rfl)
