abbrev pr_T : Type := Int × Int × List Int
/-- the row with the steps L of table ac -/
def pput (u : Int → Int) (ac : Int) (L : List Int) : Int → Int := fun z => if z = 171 + ac then (L.length : Int) else if 176 + 140 * ac ≤ z ∧ z < 176 + 140 * ac + (L.length : Int) then L.getD (z - (176 + 140 * ac)).toNat 0 else u z
theorem pput_lo (u : Int → Int) (ac : Int) (L : List Int) {z : Int} (h0 : 0 ≤ ac) (h : z < 171) : pput u ac L z = u z := by
  unfold pput
  rw [if_neg (by omega), if_neg (by omega)]
theorem pput_m (u : Int → Int) (ac : Int) (L : List Int) : pput u ac L (171 + ac) = (L.length : Int) := by unfold pput; rw [if_pos rfl]
theorem pput_nil (u : Int → Int) (ac : Int) : fu u (171 + ac) 0 = pput u ac [] := by
  funext z
  unfold fu pput
  by_cases h : z = 171 + ac
  · rw [if_pos h, if_pos h]; rfl
  · rw [if_neg h, if_neg h, if_neg (by simp)]
theorem pput_fu (u : Int → Int) {ac z x : Int} (L : List Int) (h0 : 0 ≤ ac) (h : z < 171) : fu (pput u ac L) z x = pput (fu u z x) ac L := by
  funext y
  unfold fu pput
  by_cases h1 : y = z
  · rw [if_pos h1, if_neg (by omega), if_neg (by omega)]; show x = if y = z then x else u y; rw [if_pos h1]
  · rw [if_neg h1]; show _ = if y = 171 + ac then _ else if _ then _ else (if y = z then x else u y); rw [if_neg h1]
theorem pput_push (u : Int → Int) {ac x : Int} (L : List Int) (h0 : 0 ≤ ac) (h4 : ac ≤ 4) : fu (fu (pput u ac L) (176 + 140 * ac + (L.length : Int)) x) (171 + ac) ((L.length : Int) + 1) = pput u ac (L ++ [x]) := by
  funext z
  have hl : ((L ++ [x]).length : Int) = (L.length : Int) + 1 := by simp
  unfold fu pput
  rw [hl]
  by_cases h1 : z = 171 + ac
  · rw [if_pos h1, if_pos h1]
  · rw [if_neg h1, if_neg h1, if_neg h1]
    by_cases h2 : z = 176 + 140 * ac + (L.length : Int)
    · rw [if_pos h2, if_pos (by omega), show (z - (176 + 140 * ac)).toNat = L.length by omega]
      simp
    · rw [if_neg h2]
      by_cases h3 : 176 + 140 * ac ≤ z ∧ z < 176 + 140 * ac + (L.length : Int)
      · rw [if_pos h3, if_pos (by omega)]
        have : (z - (176 + 140 * ac)).toNat < L.length := by omega
        simp [List.getD, List.getElem?_append, this]
      · rw [if_neg h3, if_neg (by omega)]
/-- what comes next on the tape: h; the row u has it -/
def pH (h u : Int → Int) (en : Int) : Prop := (0 ≤ en ∧ en ≤ 100) ∧ ∀ z, (en ≤ z → h z = -1) ∧ (0 ≤ z → z < en → h z = u (66 + z)) ∧ -1 ≤ h z ∧ h z ≤ 127
theorem pH.fu {h u : Int → Int} {en z x : Int} (hh : pH h u en) (hz : 166 ≤ z) : pH h (fu u z x) en := by
  obtain ⟨he, hh⟩ := hh
  refine ⟨he, fun w => ⟨(hh w).1, fun w1 w2 => ?_, (hh w).2.2⟩⟩
  rw [fu_n _ _ _ (by omega)]
  exact (hh w).2.1 w1 w2
def pMw (h : Int → Int) (c w sp : Int) : Int := if w = 0 ∧ h sp = c then 0 else 1
def pMs (h : Int → Int) (c w sp : Int) : Int := if w = 0 ∧ h sp = c then sp + 1 else sp
def pLt (h : Int → Int) : List Int → Int → Int → Int × Int
  | [], w, sp => (w, sp)
  | c :: r, w, sp => pLt h r (pMw h c w sp) (pMs h c w sp)
def pNw (h : Int → Int) (w sp : Int) : Int := if w = 0 ∧ 48 ≤ h sp ∧ h sp ≤ 57 then 0 else 1
def pNs (h : Int → Int) (w sp : Int) : Int := if w = 0 ∧ 48 ≤ h sp ∧ h sp ≤ 57 then (if h sp = 48 then sp + 1 else if 48 ≤ h (sp + 1) ∧ h (sp + 1) ≤ 57 then sp + 2 else sp + 1) else sp
def pNv (h : Int → Int) (w sp : Int) : Int := if w = 0 ∧ 48 ≤ h sp ∧ h sp ≤ 57 then (if h sp = 48 then 0 else if 48 ≤ h (sp + 1) ∧ h (sp + 1) ≤ 57 then 10 * (h sp - 48) + h (sp + 1) - 48 else h sp - 48) else 0
def pA1 (h : Int → Int) (sp : Int) : Int := tix (h sp) [110, 107, 112, 103, 115, 100] 0
def pA2 (h : Int → Int) (sp : Int) : Int := tix (h sp) [60, 61, 62] 0
def pTest (h : Int → Int) (sp : Int) : pr_T := if pA1 h sp = -1 then (0, sp, []) else if pA2 h (sp + 1) = -1 then (0, sp + 1, []) else if pNw h 0 (sp + 2) = 0 then (1, pNs h 0 (sp + 2), [pA1 h sp + 8 * pA2 h (sp + 1) + 32 * pNv h 0 (sp + 2)]) else (0, sp + 2, [])
def pLoop (F : Int → pr_T) (h : Int → Int) (c t : Int) : Nat → Int → List Int → pr_T
  | 0, sp, acc => (1, sp, acc)
  | k + 1, sp, acc => if h sp = c then (if (F (sp + 1)).1 = 0 then (0, (F (sp + 1)).2.1, acc ++ (F (sp + 1)).2.2) else pLoop F h c t k (F (sp + 1)).2.1 (acc ++ (F (sp + 1)).2.2 ++ [t])) else (1, sp, acc)
def pSeq (F : Int → pr_T) (h : Int → Int) (c t : Int) (sp : Int) : pr_T := if (F sp).1 = 0 then F sp else pLoop F h c t 101 (F sp).2.1 (F sp).2.2
def pTm (F : Int → pr_T) (h : Int → Int) : Int → pr_T := pSeq F h 38 (-2)
def pEx (F : Int → pr_T) (h : Int → Int) : Int → pr_T := pSeq (pTm F h) h 124 (-3)
def pF (h : Int → Int) : Nat → Int → pr_T
  | 0, sp => pTest h sp
  | k + 1, sp => if h sp = 33 then (if (pF h k (sp + 1)).1 = 0 then pF h k (sp + 1) else (1, (pF h k (sp + 1)).2.1, (pF h k (sp + 1)).2.2 ++ [-1]))
    else if h sp = 40 then (if (pEx (pF h k) h (sp + 1)).1 = 0 then pEx (pF h k) h (sp + 1) else if h (pEx (pF h k) h (sp + 1)).2.1 = 41 then (1, (pEx (pF h k) h (sp + 1)).2.1 + 1, (pEx (pF h k) h (sp + 1)).2.2) else (0, (pEx (pF h k) h (sp + 1)).2.1, (pEx (pF h k) h (sp + 1)).2.2))
    else pTest h sp
def pW (w : Int) (r : pr_T) (sp : Int) : pr_T := if w = 0 then r else (0, sp, [])
def pE (w : Int) (L : List Int) (x : Int) : List Int := if w = 0 then L ++ [x] else L
theorem pE_app (w : Int) (L a : List Int) (x : Int) : pE w (L ++ a) x = L ++ pE w a x := by unfold pE; split; (rw [List.append_assoc]); rfl
theorem pE_len (w : Int) (L : List Int) (x : Int) : (L.length : Int) ≤ ((pE w L x).length : Int) ∧ ((pE w L x).length : Int) ≤ (L.length : Int) + 1 ∧ (w = 0 → ((pE w L x).length : Int) = (L.length : Int) + 1) ∧ (¬ w = 0 → pE w L x = L) := by
  unfold pE
  by_cases h : w = 0
  · rw [if_pos h]; simp; omega
  · rw [if_neg h]; refine ⟨by omega, by omega, fun h2 => absurd h2 h, fun _ => rfl⟩
theorem pM_r {h u : Int → Int} {en c w sp : Int} (hh : pH h u en) (hc : 0 ≤ c) (hs : 0 ≤ sp ∧ sp ≤ en) : (pMw h c w sp = 0 ∨ pMw h c w sp = 1) ∧ sp ≤ pMs h c w sp ∧ pMs h c w sp ≤ en ∧ (pMw h c w sp = 0 → w = 0 ∧ h sp = c ∧ pMs h c w sp = sp + 1) ∧ (¬ w = 0 → pMw h c w sp = 1 ∧ pMs h c w sp = sp) := by
  have := hh.2 sp
  unfold pMw pMs
  by_cases e : w = 0 ∧ h sp = c
  · rw [if_pos e, if_pos e]; omega
  · rw [if_neg e, if_neg e]; omega
theorem pLt_r {h u : Int → Int} {en : Int} (hh : pH h u en) : ∀ (l : List Int) (w sp : Int), (∀ x ∈ l, 0 ≤ x) → (w = 0 ∨ w = 1) → (0 ≤ sp ∧ sp ≤ en) → ((pLt h l w sp).1 = 0 ∨ (pLt h l w sp).1 = 1) ∧ sp ≤ (pLt h l w sp).2 ∧ (pLt h l w sp).2 ≤ en ∧ (w = 1 → pLt h l w sp = (1, sp))
  | [], w, sp, _, hw, hs => by rw [pLt]; exact ⟨hw, Int.le_refl _, hs.2, fun h => by rw [h]⟩
  | c :: r, w, sp, hl, hw, hs => by
    have h1 := pM_r (w := w) hh (hl c (List.mem_cons_self)) hs
    have h2 := pLt_r hh r (pMw h c w sp) (pMs h c w sp) (fun x hx => hl x (List.mem_cons_of_mem _ hx)) h1.1 (by omega)
    rw [pLt]
    refine ⟨h2.1, by omega, h2.2.2.1, fun h3 => ?_⟩
    have h4 := h1.2.2.2.2 (by omega)
    rw [h2.2.2.2 h4.1, h4.2]
theorem pLt_len {h : Int → Int} : ∀ (l : List Int) (w sp : Int), (pLt h l w sp).1 = 0 → w = 0 ∧ (pLt h l w sp).2 = sp + (l.length : Int)
  | [], w, sp, hw => by rw [pLt] at hw ⊢; exact ⟨hw, by simp⟩
  | c :: r, w, sp, hw => by
    rw [pLt] at hw ⊢
    obtain ⟨i1, i2⟩ := pLt_len r _ _ hw
    by_cases e : w = 0 ∧ h sp = c
    · refine ⟨e.1, ?_⟩
      rw [i2, List.length_cons]
      unfold pMs
      rw [if_pos e]
      omega
    · unfold pMw at i1; rw [if_neg e] at i1; omega
theorem pN_r {h u : Int → Int} {en w sp : Int} (hh : pH h u en) (hs : 0 ≤ sp ∧ sp ≤ en) : (pNw h w sp = 0 ∨ pNw h w sp = 1) ∧ sp ≤ pNs h w sp ∧ pNs h w sp ≤ en ∧ (0 ≤ pNv h w sp ∧ pNv h w sp ≤ 99) ∧ (pNw h w sp = 0 → w = 0 ∧ sp + 1 ≤ pNs h w sp) ∧ (pNw h w sp = 1 → pNs h w sp = sp ∧ pNv h w sp = 0) ∧ (¬ w = 0 → pNw h w sp = 1) := by
  have h1 := hh.2 sp
  have h2 := hh.2 (sp + 1)
  unfold pNw pNs pNv
  by_cases e : w = 0 ∧ 48 ≤ h sp ∧ h sp ≤ 57
  · rw [if_pos e, if_pos e, if_pos e]
    by_cases e2 : h sp = 48
    · rw [if_pos e2, if_pos e2]; omega
    · rw [if_neg e2, if_neg e2]
      by_cases e3 : 48 ≤ h (sp + 1) ∧ h (sp + 1) ≤ 57
      · rw [if_pos e3, if_pos e3]; omega
      · rw [if_neg e3, if_neg e3]; omega
  · rw [if_neg e, if_neg e, if_neg e]; omega
theorem pA1_r (h : Int → Int) (sp : Int) : -1 ≤ pA1 h sp ∧ pA1 h sp ≤ 5 ∧ (h sp = -1 → pA1 h sp = -1) := by
  unfold pA1
  have := tix_r (h sp) [110, 107, 112, 103, 115, 100] 0 (by omega)
  refine ⟨this.1, by have := this.2; simp at this; omega, fun e => by rw [e]; decide⟩
theorem pA2_r (h : Int → Int) (sp : Int) : -1 ≤ pA2 h sp ∧ pA2 h sp ≤ 2 ∧ (h sp = -1 → pA2 h sp = -1) := by
  unfold pA2
  have := tix_r (h sp) [60, 61, 62] 0 (by omega)
  refine ⟨this.1, by have := this.2; simp at this; omega, fun e => by rw [e]; decide⟩
/-- what is good of a reader's answer: b: how many answers may stand open at most -/
def pOK (en : Int) (b : Nat) (sp : Int) (r : pr_T) : Prop := (r.1 = 0 ∨ r.1 = 1) ∧ sp ≤ r.2.1 ∧ r.2.1 ≤ en ∧ (r.2.2.length : Int) ≤ r.2.1 - sp ∧ (r.1 = 1 → sp + 3 ≤ r.2.1 ∧ (∀ x ∈ r.2.2, -4 < x) ∧ ∀ (d : Nat) (q : List Int), d + b ≤ 60 → me_wf (r.2.2 ++ q) d = me_wf q (d + 1))
theorem me_wf_T {t : Int} {q : List Int} {d : Nat} (h0 : 0 ≤ t) (h1 : t % 8 < 6) (h2 : t / 8 % 4 < 3) (h3 : t / 32 ≤ 99) (hd : d < 60) : me_wf (t :: q) d = me_wf q (d + 1) := by
  rw [me_wf, if_pos h0]
  simp [h1, h2, h3, hd]
theorem me_wf_2 {t : Int} {q : List Int} {d : Nat} (h : t = -2 ∨ t = -3) : me_wf (t :: q) (d + 2) = me_wf q (d + 1) := by
  rw [me_wf, if_neg (by omega), if_neg (by omega), if_pos h]
  simp
theorem me_wf_1 {q : List Int} {d : Nat} : me_wf (-1 :: q) (d + 1) = me_wf q (d + 1) := by
  rw [me_wf, if_neg (by omega), if_pos rfl]
  simp
theorem pTest_ok {h u : Int → Int} {en : Int} (hh : pH h u en) {sp : Int} (hs : 0 ≤ sp ∧ sp ≤ en) : pOK en 1 sp (pTest h sp) := by
  have a1 := pA1_r h sp
  have a2 := pA2_r h (sp + 1)
  have b1 := hh.2 sp
  have b2 := hh.2 (sp + 1)
  unfold pTest
  by_cases e1 : pA1 h sp = -1
  · rw [if_pos e1]
    exact ⟨Or.inl rfl, Int.le_refl _, hs.2, by simp, fun h => by simp at h⟩
  · rw [if_neg e1]
    have c1 : sp < en := by omega
    by_cases e2 : pA2 h (sp + 1) = -1
    · rw [if_pos e2]
      exact ⟨Or.inl rfl, by show sp ≤ sp + 1; omega, by show sp + 1 ≤ en; omega, by simp; omega, fun h => by simp at h⟩
    · rw [if_neg e2]
      have c2 : sp + 1 < en := by omega
      have n := pN_r (w := 0) hh (sp := sp + 2) (by omega)
      by_cases e3 : pNw h 0 (sp + 2) = 0
      · rw [if_pos e3]
        have n2 := n.2.2.2.2.1 e3
        refine ⟨Or.inr rfl, by show sp ≤ pNs h 0 (sp + 2); omega, n.2.2.1, by simp; omega, fun _ => ⟨by show sp + 3 ≤ pNs h 0 (sp + 2); omega, ?_, ?_⟩⟩
        · intro x hx
          rw [List.mem_singleton] at hx
          omega
        · intro d q hd
          exact me_wf_T (by omega) (by omega) (by omega) (by omega) (by omega)
      · rw [if_neg e3]
        exact ⟨Or.inl rfl, by show sp ≤ sp + 2; omega, by show sp + 2 ≤ en; omega, by simp; omega, fun h => by simp at h⟩
theorem pLoop_ok {h u F' : Int → Int} {F : Int → pr_T} {en c t : Int} {b : Nat} (hh : pH h u en) (hc : 0 ≤ c) (ht : t = -2 ∨ t = -3) (hF : ∀ sp, 0 ≤ sp ∧ sp ≤ en → pOK en b sp (F sp)) {s0 : Int} : ∀ (k : Nat) (sp : Int) (acc : List Int), (0 ≤ s0 ∧ s0 + 3 ≤ sp ∧ sp ≤ en) → (acc.length : Int) ≤ sp - s0 → (∀ x ∈ acc, -4 < x) → (∀ (d : Nat) (q : List Int), d + (b + 1) ≤ 60 → me_wf (acc ++ q) d = me_wf q (d + 1)) → pOK en (b + 1) s0 (pLoop F h c t k sp acc)
  | 0, sp, acc, h1, h2, h3, h4 => by
    rw [pLoop]
    exact ⟨Or.inr rfl, by show s0 ≤ sp; omega, h1.2.2, h2, fun _ => ⟨h1.2.1, h3, h4⟩⟩
  | k + 1, sp, acc, h1, h2, h3, h4 => by
    rw [pLoop]
    by_cases e : h sp = c
    · rw [if_pos e]
      have hsp : sp < en := by have := (hh.2 sp).1; omega
      obtain ⟨o1, o2, o3, o4, o5⟩ := hF (sp + 1) (by omega)
      by_cases e1 : (F (sp + 1)).1 = 0
      · rw [if_pos e1]
        refine ⟨Or.inl rfl, by show s0 ≤ (F (sp + 1)).2.1; omega, o3, ?_, fun h => by simp at h⟩
        show ((acc ++ (F (sp + 1)).2.2).length : Int) ≤ (F (sp + 1)).2.1 - s0
        rw [List.length_append]; omega
      · rw [if_neg e1]
        obtain ⟨p1, p2, p3⟩ := o5 (by omega)
        refine pLoop_ok (F' := F') hh hc ht hF k (F (sp + 1)).2.1 _ (by omega) ?_ ?_ ?_
        · rw [List.length_append, List.length_append]; simp only [List.length_singleton]; omega
        · intro x hx
          rw [List.mem_append, List.mem_append, List.mem_singleton] at hx
          rcases hx with (hx | hx) | hx
          · exact h3 x hx
          · exact p2 x hx
          · omega
        · intro d q hd
          rw [List.append_assoc, List.append_assoc, h4 d _ hd, p3 (d + 1) _ (by omega)]
          exact me_wf_2 ht
    · rw [if_neg e]
      exact ⟨Or.inr rfl, by show s0 ≤ sp; omega, h1.2.2, h2, fun _ => ⟨h1.2.1, h3, h4⟩⟩
theorem pOK.mono {en : Int} {b b1 : Nat} {sp : Int} {r : pr_T} (h : pOK en b sp r) (hb : b ≤ b1) : pOK en b1 sp r := by
  obtain ⟨o1, o2, o3, o4, o5⟩ := h
  refine ⟨o1, o2, o3, o4, fun h => ?_⟩
  obtain ⟨p1, p2, p3⟩ := o5 h
  exact ⟨p1, p2, fun d q hd => p3 d q (by omega)⟩
theorem pSeq_ok {h u : Int → Int} {F : Int → pr_T} {en c t : Int} {b : Nat} (hh : pH h u en) (hc : 0 ≤ c) (ht : t = -2 ∨ t = -3) (hF : ∀ sp, 0 ≤ sp ∧ sp ≤ en → pOK en b sp (F sp)) : ∀ sp, 0 ≤ sp ∧ sp ≤ en → pOK en (b + 1) sp (pSeq F h c t sp) := by
  intro sp hs
  unfold pSeq
  have hk := hF sp hs
  by_cases e : (F sp).1 = 0
  · rw [if_pos e]; exact hk.mono (by omega)
  · rw [if_neg e]
    obtain ⟨o1, o2, o3, o4, o5⟩ := hk
    obtain ⟨p1, p2, p3⟩ := o5 (by omega)
    exact pLoop_ok (F' := h) hh hc ht hF 101 _ _ (by omega) o4 p2 (fun d q hd => p3 d q (by omega))
theorem pEx_ok {h u : Int → Int} {F : Int → pr_T} {en : Int} {b : Nat} (hh : pH h u en) (hF : ∀ sp, 0 ≤ sp ∧ sp ≤ en → pOK en b sp (F sp)) : ∀ sp, 0 ≤ sp ∧ sp ≤ en → pOK en (b + 2) sp (pEx F h sp) :=
  pSeq_ok hh (by omega) (Or.inr rfl) (pSeq_ok hh (by omega) (Or.inl rfl) hF)
theorem pF_ok {h u : Int → Int} {en : Int} (hh : pH h u en) : ∀ (k : Nat) (sp : Int), 0 ≤ sp ∧ sp ≤ en → pOK en (2 * k + 1) sp (pF h k sp)
  | 0, sp, hs => by rw [pF]; exact pTest_ok hh hs
  | k + 1, sp, hs => by
    have ih := pF_ok hh k
    have b1 := hh.2 sp
    rw [pF]
    by_cases e : h sp = 33
    · rw [if_pos e]
      have hk := ih (sp + 1) (by omega)
      obtain ⟨o1, o2, o3, o4, o5⟩ := hk
      by_cases e1 : (pF h k (sp + 1)).1 = 0
      · rw [if_pos e1]
        exact ⟨o1, by omega, o3, by omega, fun h => by omega⟩
      · rw [if_neg e1]
        obtain ⟨p1, p2, p3⟩ := o5 (by omega)
        refine ⟨Or.inr rfl, by show sp ≤ (pF h k (sp + 1)).2.1; omega, o3, ?_, fun _ => ⟨by show sp + 3 ≤ (pF h k (sp + 1)).2.1; omega, ?_, ?_⟩⟩
        · show (((pF h k (sp + 1)).2.2 ++ [-1]).length : Int) ≤ (pF h k (sp + 1)).2.1 - sp
          rw [List.length_append]; simp only [List.length_singleton]; omega
        · intro x hx
          rw [List.mem_append, List.mem_singleton] at hx
          rcases hx with hx | hx
          · exact p2 x hx
          · omega
        · intro d q hd
          show me_wf ((pF h k (sp + 1)).2.2 ++ [-1] ++ q) d = _
          rw [List.append_assoc, p3 d _ (by omega)]
          exact me_wf_1
    · rw [if_neg e]
      by_cases e2 : h sp = 40
      · rw [if_pos e2]
        obtain ⟨o1, o2, o3, o4, o5⟩ := pEx_ok hh ih (sp + 1) (by omega)
        generalize pEx (pF h k) h (sp + 1) = r at *
        by_cases e1 : r.1 = 0
        · rw [if_pos e1]
          exact ⟨o1, by omega, o3, by omega, fun h => by omega⟩
        · rw [if_neg e1]
          obtain ⟨p1, p2, p3⟩ := o5 (by omega)
          have b2 := hh.2 r.2.1
          by_cases e3 : h r.2.1 = 41
          · rw [if_pos e3]
            exact ⟨Or.inr rfl, by show sp ≤ r.2.1 + 1; omega, by show r.2.1 + 1 ≤ en; omega, by show (r.2.2.length : Int) ≤ r.2.1 + 1 - sp; omega, fun _ => ⟨by show sp + 3 ≤ r.2.1 + 1; omega, p2, fun d q hd => p3 d q (by omega)⟩⟩
          · rw [if_neg e3]
            exact ⟨Or.inl rfl, by show sp ≤ r.2.1; omega, o3, by show (r.2.2.length : Int) ≤ r.2.1 - sp; omega, fun h => by simp at h⟩
      · rw [if_neg e2]
        exact (pTest_ok hh hs).mono (by omega)
/-- a round of the loop, as one who goes on with w has it -/
theorem pLoop_step {F : Int → pr_T} {h : Int → Int} {c t sp : Int} {k : Nat} {acc : List Int} {R : pr_T} (hR : pLoop F h c t (k + 1) sp acc = R) (hc : h sp = c) (hg : (F (sp + 1)).1 = 0 ∨ (F (sp + 1)).1 = 1) :
    (1 - (F (sp + 1)).1 = 0 ∧ pLoop F h c t k (F (sp + 1)).2.1 (pE (1 - (F (sp + 1)).1) (acc ++ (F (sp + 1)).2.2) t) = R) ∨ (1 - (F (sp + 1)).1 = 1 ∧ (0, (F (sp + 1)).2.1, pE (1 - (F (sp + 1)).1) (acc ++ (F (sp + 1)).2.2) t) = R) := by
  rw [pLoop, if_pos hc] at hR
  rcases hg with hg | hg
  · right
    rw [if_pos hg] at hR
    exact ⟨by omega, by rw [← hR]; unfold pE; rw [if_neg (by omega)]⟩
  · left
    rw [if_neg (by omega)] at hR
    exact ⟨by omega, by rw [← hR]; unfold pE; rw [if_pos (by omega)]⟩
theorem pLoop_end {F : Int → pr_T} {h : Int → Int} {c t sp : Int} {k : Nat} {acc : List Int} {R : pr_T} (hR : pLoop F h c t k sp acc = R) (hc : ¬ h sp = c) : (1, sp, acc) = R := by
  cases k with
  | zero => rw [pLoop] at hR; exact hR
  | succ k => rw [pLoop, if_neg hc] at hR; exact hR
theorem pSeq_start {F : Int → pr_T} {h : Int → Int} {c t sp : Int} (hg : (F sp).1 = 0 ∨ (F sp).1 = 1) :
    (1 - (F sp).1 = 0 ∧ pLoop F h c t 101 (F sp).2.1 (F sp).2.2 = pSeq F h c t sp) ∨ (1 - (F sp).1 = 1 ∧ (0, (F sp).2.1, (F sp).2.2) = pSeq F h c t sp) := by
  unfold pSeq
  rcases hg with hg | hg
  · right; rw [if_pos hg]; exact ⟨by omega, by rw [← hg]⟩
  · left; rw [if_neg (by omega)]; exact ⟨by omega, rfl⟩
abbrev pc_T : Type := Int × Int × List Int × Int × Int
def pMuch (h : Int → Int) (l : List Int) (kd sp lim : Int) : pc_T :=
  let a := pLt h l 0 sp
  let w3 := pMw h 32 (pNw h a.1 a.2) (pNs h a.1 a.2)
  let s3 := pMs h 32 (pNw h a.1 a.2) (pNs h a.1 a.2)
  let r := pW w3 (pEx (pF h 5) h s3) s3
  (1 - r.1, r.2.1, r.2.2, if r.1 = 1 then kd - pNv h a.1 a.2 else 0, lim)
def pLim (h : Int → Int) (sp lim : Int) : pc_T :=
  let a := pLt h [105, 109, 105, 116, 32] 0 sp
  (pNw h a.1 a.2, pNs h a.1 a.2, [], 0, if pNw h a.1 a.2 = 0 then (if pNv h a.1 a.2 < 1 then 1 else pNv h a.1 a.2) else lim)
/-- a clause: whether it is wrong, the place, its steps, its last step (0: none), the limit -/
def pCl (h : Int → Int) (sp lim : Int) : pc_T := if h sp = 116 then pMuch h [116, 105, 108, 116, 32] (-200) sp lim else if h sp = 108 then (if h (sp + 1) = 101 then pMuch h [101, 97, 110, 32] (-10) (sp + 1) lim else pLim h (sp + 1) lim) else (1, sp, [], 0, lim)
def pEm (r : pc_T) : List Int := r.2.2.1 ++ (if r.2.2.2.1 = 0 then [] else [r.2.2.2.1])
def pCs (r : pc_T) : List (List Int × Int) := if r.2.2.2.1 = 0 then [] else [(r.2.2.1, r.2.2.2.1)]
abbrev pt_T : Type := Int × Int × Int × List Int × List (List Int × Int)
/-- clauses: wrong, place, limit, steps, clauses -/
def pTab (h : Int → Int) : Nat → Int → Int → List Int → List (List Int × Int) → pt_T
  | 0, sp, lim, em, cl => (1, sp, lim, em, cl)
  | k + 1, sp, lim, em, cl => if (pCl h sp lim).1 = 0 ∧ 0 < k ∧ h (pCl h sp lim).2.1 = 59 then pTab h k ((pCl h sp lim).2.1 + 1) (pCl h sp lim).2.2.2.2 (em ++ pEm (pCl h sp lim)) (cl ++ pCs (pCl h sp lim)) else ((pCl h sp lim).1, (pCl h sp lim).2.1, (pCl h sp lim).2.2.2.2, em ++ pEm (pCl h sp lim), cl ++ pCs (pCl h sp lim))
def ph (s : Int → Int) (en : Int) : Int → Int := fun z => if 0 ≤ z ∧ z < en then s (66 + z) else -1
def tbR (s : Int → Int) : pt_T := pTab (ph s (s 3)) 10 0 99 [] []
def tbU (s : Int → Int) : Int → Int := pput (fu (fu s 3 0) (166 + s 1) (tbR s).2.2.1) (s 1) (tbR s).2.2.2.1
def sp_table (s : Int → Int) : Int × (Int → Int) := if s 1 = 5 then (-4, s) else if (tbR s).1 = 0 ∧ (tbR s).2.1 = s 3 then (s 1, fu (fu (tbU s) 1 (s 1 + 1)) 4 (s 1)) else (-10 - (tbR s).2.1, tbU s)
theorem pH_ph {s : Int → Int} (h : ms_W s) : pH (ph s (s 3)) (fu s 3 0) (s 3) := by
  obtain ⟨hr, h0, h1, h2, h3, h4, h5, h6, hp0, hrow, hwon, htape, htab⟩ := h
  refine ⟨h3, fun z => ⟨fun h => ?_, fun z1 z2 => ?_, ?_⟩⟩
  · unfold ph; rw [if_neg (by omega)]
  · unfold ph; rw [if_pos (by omega), fu_n _ _ _ (by omega)]
  · unfold ph
    by_cases e : 0 ≤ z ∧ z < s 3
    · rw [if_pos e]; have := htape (66 + z) (by omega) (by omega); omega
    · rw [if_neg e]; omega
/-- what is good of a clause -/
def pcOK (en sp : Int) (r : pc_T) : Prop := (r.1 = 0 ∨ r.1 = 1) ∧ sp ≤ r.2.1 ∧ r.2.1 ≤ en ∧ ((pEm r).length : Int) ≤ r.2.1 - sp ∧ (1 ≤ r.2.2.2.2 ∧ r.2.2.2.2 ≤ 99) ∧ (r.1 = 0 → sp + 1 ≤ r.2.1 ∧ (r.2.2.2.1 = 0 → r.2.2.1 = []) ∧ (¬ r.2.2.2.1 = 0 → sp + 10 ≤ r.2.1 ∧ sp + 7 + (r.2.2.1.length : Int) ≤ r.2.1 ∧ (∀ x ∈ r.2.2.1, -4 < x) ∧ ((-109 ≤ r.2.2.2.1 ∧ r.2.2.2.1 ≤ -10) ∨ (-299 ≤ r.2.2.2.1 ∧ r.2.2.2.1 ≤ -200)) ∧ ∀ q : List Int, me_wf (r.2.2.1 ++ q) 0 = me_wf q 1)) ∧ (r.1 = 1 → r.2.2.2.1 = 0)
theorem pMuch_ok {h u : Int → Int} {en : Int} (hh : pH h u en) {l : List Int} {kd sp lim x0 : Int} (hs : 0 ≤ sp ∧ sp ≤ en) (hl : ∀ x ∈ l, 0 ≤ x) (hl5 : 5 ≤ (l.length : Int) + x0) (hx0 : 0 ≤ x0) (hk : kd = -10 ∨ kd = -200) (hm : 1 ≤ lim ∧ lim ≤ 99) : pcOK en (sp - x0) (pMuch h l kd sp lim) := by
  have a9 := pLt_len (h := h) l 0 sp
  have a := pLt_r hh l 0 sp hl (Or.inl rfl) hs
  have b := pN_r (w := (pLt h l 0 sp).1) hh (sp := (pLt h l 0 sp).2) (by omega)
  have c := pM_r (w := pNw h (pLt h l 0 sp).1 (pLt h l 0 sp).2) hh (c := 32) (by omega) (sp := pNs h (pLt h l 0 sp).1 (pLt h l 0 sp).2) (by omega)
  unfold pMuch
  dsimp only
  generalize pLt h l 0 sp = A at *
  generalize pNv h A.1 A.2 = v at *
  generalize pNw h A.1 A.2 = w2 at *
  generalize pNs h A.1 A.2 = s2 at *
  generalize pMw h 32 w2 s2 = w3 at *
  generalize pMs h 32 w2 s2 = s3 at *
  have d := pEx_ok hh (pF_ok hh 5) s3 (by omega)
  generalize pEx (pF h 5) h s3 = r at *
  unfold pW
  by_cases e : w3 = 0
  · rw [if_pos e]
    obtain ⟨o1, o2, o3, o4, o5⟩ := d
    rcases o1 with e1 | e1
    · rw [if_neg (show ¬ r.1 = 1 by omega)]
      refine ⟨by show 1 - r.1 = 0 ∨ 1 - r.1 = 1; omega, by show sp - x0 ≤ r.2.1; omega, o3, ?_, hm, fun h => ?_, fun _ => rfl⟩
      · unfold pEm; dsimp only; rw [if_pos rfl, List.append_nil]; omega
      · exact absurd h (by show ¬ 1 - r.1 = 0; omega)
    · rw [if_pos e1]
      obtain ⟨p1, p2, p3⟩ := o5 e1
      refine ⟨by show 1 - r.1 = 0 ∨ 1 - r.1 = 1; omega, by show sp - x0 ≤ r.2.1; omega, o3, ?_, hm, fun h => ⟨by show sp - x0 + 1 ≤ r.2.1; omega, fun h2 => absurd h2 (by show ¬ kd - v = 0; omega), fun _ => ⟨by show sp - x0 + 10 ≤ r.2.1; omega, by show sp - x0 + 7 + (r.2.2.length : Int) ≤ r.2.1; omega, p2, by show (-109 ≤ kd - v ∧ kd - v ≤ -10) ∨ (-299 ≤ kd - v ∧ kd - v ≤ -200); omega, fun q => p3 0 q (by omega)⟩⟩, fun h => absurd h (by show ¬ 1 - r.1 = 1; omega)⟩
      unfold pEm; dsimp only; rw [if_neg (by omega), List.length_append]; simp only [List.length_singleton]; omega
  · rw [if_neg e]
    refine ⟨Or.inr rfl, by show sp - x0 ≤ s3; omega, by show s3 ≤ en; omega, ?_, hm, fun h => absurd h (by show ¬ (1 - (0 : Int) = 0); decide), fun _ => rfl⟩
    unfold pEm; simp; omega
theorem pCl_ok {h u : Int → Int} {en : Int} (hh : pH h u en) {sp lim : Int} (hs : 0 ≤ sp ∧ sp ≤ en) (hm : 1 ≤ lim ∧ lim ≤ 99) : pcOK en sp (pCl h sp lim) := by
  have b1 := hh.2 sp
  unfold pCl
  by_cases e1 : h sp = 116
  · rw [if_pos e1]
    have := pMuch_ok (x0 := 0) hh (l := [116, 105, 108, 116, 32]) (kd := -200) hs (by decide) (by decide) (by decide) (Or.inr rfl) hm
    rwa [Int.sub_zero] at this
  · rw [if_neg e1]
    by_cases e2 : h sp = 108
    · rw [if_pos e2]
      by_cases e3 : h (sp + 1) = 101
      · rw [if_pos e3]
        obtain ⟨o1, o2, o3, o4, o5, o6, o7⟩ := pMuch_ok hh (l := [101, 97, 110, 32]) (kd := -10) (sp := sp + 1) (lim := lim) (x0 := 1) (by omega) (by decide) (by decide) (by decide) (Or.inl rfl) hm
        rw [show sp + 1 - 1 = sp by omega] at o2 o4 o6
        exact ⟨o1, o2, o3, o4, o5, o6, o7⟩
      · rw [if_neg e3]
        have a := pLt_r hh [105, 109, 105, 116, 32] 0 (sp + 1) (by decide) (Or.inl rfl) (by omega)
        have b := pN_r (w := (pLt h [105, 109, 105, 116, 32] 0 (sp + 1)).1) hh (sp := (pLt h [105, 109, 105, 116, 32] 0 (sp + 1)).2) (by omega)
        unfold pLim
        dsimp only
        generalize pLt h [105, 109, 105, 116, 32] 0 (sp + 1) = A at *
        refine ⟨b.1, by show sp ≤ pNs h A.1 A.2; omega, b.2.2.1, by unfold pEm; simp; omega, ?_, fun h => ⟨by show sp + 1 ≤ pNs _ A.1 A.2; omega, fun _ => rfl, fun h2 => absurd rfl h2⟩, fun _ => rfl⟩
        show 1 ≤ (if pNw h A.1 A.2 = 0 then (if pNv h A.1 A.2 < 1 then 1 else pNv h A.1 A.2) else lim) ∧ (if pNw h A.1 A.2 = 0 then (if pNv h A.1 A.2 < 1 then 1 else pNv h A.1 A.2) else lim) ≤ 99
        by_cases e4 : pNw h A.1 A.2 = 0
        · rw [if_pos e4]; split <;> omega
        · rw [if_neg e4]; omega
    · rw [if_neg e2]
      exact ⟨Or.inr rfl, Int.le_refl _, hs.2, by unfold pEm; simp, hm, fun h => absurd h (by show ¬ ((1 : Int) = 0); decide), fun _ => rfl⟩
