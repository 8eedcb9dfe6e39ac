theorem cln_app (a b : List (List Int × Int)) : cln (a ++ b) = cln a + cln b := by
  induction a with
  | nil => show cln b = 0 + cln b; omega
  | cons q r ih => show q.1.length + cln (r ++ b) = q.1.length + cln r + cln b; omega
theorem fl_app (a b : List (List Int × Int)) : fl (a ++ b) = fl a ++ fl b := by
  induction a with
  | nil => rfl
  | cons q r ih => show q.1 ++ q.2 :: fl (r ++ b) = (q.1 ++ q.2 :: fl r) ++ fl b; rw [ih, List.append_assoc, List.cons_append]
theorem tr_push {W E C W' E' C' : Int → Int} {q : List Int × Int} (hq : q.2 ≤ -10) (hq2 : ∀ x ∈ q.1, -10 < x) : ∀ (cl : List (List Int × Int)) (i f : Int), tr_ok W E C cl i f → (∀ z, i ≤ z → z < i + (cl.length : Int) → W' z = W z ∧ E' z = E z) → (∀ z, f ≤ z → z < f + (cln cl : Int) → C' z = C z) → E' (i + (cl.length : Int)) = f + (cln cl : Int) + (q.1.length : Int) → W' (i + (cl.length : Int)) = mwt q.2 → (∀ j : Nat, j < q.1.length → C' (f + (cln cl : Int) + (j : Int)) = trc (q.1.getD j 0)) → tr_ok W' E' C' (cl ++ [q]) i f
  | [], i, f, _, _, _, h3, h4, h5 => by
    have e0 : i + (([] : List (List Int × Int)).length : Int) = i := by simp
    have e1 : f + (cln [] : Int) = f := by show f + ((0 : Nat) : Int) = f; omega
    rw [e0] at h3 h4; rw [e1] at h3
    exact ⟨h3, h4, hq, hq2, fun j hj => by have := h5 j hj; rw [e1] at this; exact this, trivial⟩
  | r :: cl, i, f, h, h1, h2, h3, h4, h5 => by
    obtain ⟨t1, t2, t3, t4, t5, t6⟩ := h
    have el : ((r :: cl).length : Int) = (cl.length : Int) + 1 := by simp
    have ec : (cln (r :: cl) : Int) = (r.1.length : Int) + (cln cl : Int) := by show ((r.1.length + cln cl : Nat) : Int) = _; omega
    rw [el] at h1 h3 h4; rw [ec] at h2 h3
    have g := h1 i (by omega) (by omega)
    refine ⟨by rw [g.2]; exact t1, by rw [g.1]; exact t2, t3, t4, fun j hj => by rw [h2 _ (by omega) (by omega)]; exact t5 j hj, ?_⟩
    refine tr_push hq hq2 cl (i + 1) (f + (r.1.length : Int)) t6 (fun z z1 z2 => h1 z (by omega) (by omega)) (fun z z1 z2 => h2 z (by omega) (by omega)) ?_ ?_ (fun j hj => ?_)
    · rw [show i + 1 + (cl.length : Int) = i + ((cl.length : Int) + 1) by omega, h3]; omega
    · rw [show i + 1 + (cl.length : Int) = i + ((cl.length : Int) + 1) by omega, h4]
    · have := h5 j hj
      rw [ec, show f + ((r.1.length : Int) + (cln cl : Int)) + (j : Int) = f + (r.1.length : Int) + (cln cl : Int) + (j : Int) by omega] at this
      exact this
theorem tr_same {W E C C' : Int → Int} : ∀ (cl : List (List Int × Int)) (i f : Int), tr_ok W E C cl i f → (∀ z, f ≤ z → z < f + (cln cl : Int) → C' z = C z) → tr_ok W E C' cl i f
  | [], _, _, _, _ => trivial
  | r :: cl, i, f, h, h2 => by
    obtain ⟨t1, t2, t3, t4, t5, t6⟩ := h
    have ec : (cln (r :: cl) : Int) = (r.1.length : Int) + (cln cl : Int) := by show ((r.1.length + cln cl : Nat) : Int) = _; omega
    rw [ec] at h2
    exact ⟨t1, t2, t3, t4, fun j hj => by rw [h2 _ (by omega) (by omega)]; exact t5 j hj, tr_same cl (i + 1) _ t6 (fun z z1 z2 => h2 z (by omega) (by omega))⟩
theorem cl_push {W E C W' E' C' : Int → Int} {cl : List (List Int × Int)} {L : List Int} {R : pc_T} {en sp : Int} (hok : pcOK en sp R) (h0 : R.1 = 0) (ht : tr_ok W E C cl 0 0) (hl : L.length = cln cl) (hc : cdR C L) (hc' : cdR C' (L ++ R.2.2.1)) (hW : W' = if R.2.2.2.1 = 0 then W else fu W (cl.length : Int) (mwt R.2.2.2.1)) (hE : E' = if R.2.2.2.1 = 0 then E else fu E (cl.length : Int) ((L ++ R.2.2.1).length : Int)) (b1 : 11 * (cl.length : Int) ≤ sp) (b2 : (L.length : Int) + 8 * (cl.length : Int) ≤ sp) :
    tr_ok W' E' C' (cl ++ pCs R) 0 0 ∧ (L ++ R.2.2.1).length = cln (cl ++ pCs R) ∧ (if R.2.2.2.1 = 0 then (cl.length : Int) else (cl.length : Int) + 1) = ((cl ++ pCs R).length : Int) ∧ fl (cl ++ pCs R) = fl cl ++ pEm R ∧ 11 * ((cl ++ pCs R).length : Int) ≤ R.2.1 + 1 ∧ ((L ++ R.2.2.1).length : Int) + 8 * ((cl ++ pCs R).length : Int) ≤ R.2.1 + 1 := by
  obtain ⟨k1, k2, k3, k4, k5, k6, k7⟩ := hok
  obtain ⟨k6a, k6b, k6c⟩ := k6 h0
  have hC : ∀ z : Int, 0 ≤ z → z < 0 + (cln cl : Int) → C' z = C z := by
    intro z z1 z2
    have e1 := hc z.toNat (by omega)
    have e2 := hc' z.toNat (by rw [List.length_append]; omega)
    rw [show ((z.toNat : Nat) : Int) = z by omega] at e1 e2
    rw [e1, e2]
    congr 1
    simp [List.getD, List.getElem?_append, show z.toNat < L.length by omega]
  by_cases e : R.2.2.2.1 = 0
  · have e3 := k6b e
    have p1 : pCs R = [] := by unfold pCs; rw [if_pos e]
    have p2 : pEm R = [] := by unfold pEm; rw [if_pos e, e3]; rfl
    rw [if_pos e] at hW hE
    rw [p1, p2, List.append_nil, List.append_nil, e3, List.append_nil, if_pos e, hW, hE]
    exact ⟨tr_same cl 0 0 ht hC, hl, rfl, rfl, by omega, by omega⟩
  · obtain ⟨m1, m2, m3, m4, m5⟩ := k6c e
    have p1 : pCs R = [(R.2.2.1, R.2.2.2.1)] := by unfold pCs; rw [if_neg e]
    have p2 : pEm R = R.2.2.1 ++ [R.2.2.2.1] := by unfold pEm; rw [if_neg e]
    rw [if_neg e] at hW hE
    have la : ((L ++ R.2.2.1).length : Int) = (L.length : Int) + (R.2.2.1.length : Int) := by rw [List.length_append]; omega
    have lb : (cl ++ [(R.2.2.1, R.2.2.2.1)]).length = cl.length + 1 := by rw [List.length_append]; rfl
    rw [p1, p2, if_neg e, fl_app, cln_app, lb]
    refine ⟨tr_push (q := (R.2.2.1, R.2.2.2.1)) (by show R.2.2.2.1 ≤ -10; omega) (fun x hx => by have := m3 x hx; omega) cl 0 0 ht (fun z z1 z2 => by rw [hW, hE, fu_n _ _ _ (by omega), fu_n _ _ _ (by omega)]; exact ⟨rfl, rfl⟩) hC ?_ ?_ (fun j hj => ?_), ?_, by omega, rfl, by omega, by omega⟩
    · rw [hE, show (0 : Int) + (cl.length : Int) = (cl.length : Int) by omega, fu_s, la]; show _ = 0 + (cln cl : Int) + (R.2.2.1.length : Int); omega
    · rw [hW, show (0 : Int) + (cl.length : Int) = (cl.length : Int) by omega, fu_s]
    · have e2 := hc' (L.length + j) (by rw [List.length_append]; exact Nat.add_lt_add_left hj _)
      rw [show ((L.length + j : Nat) : Int) = 0 + (cln cl : Int) + (j : Int) by omega] at e2
      rw [e2]
      congr 1
      simp only [List.getD, List.getElem?_append]
      rw [if_neg (by omega), show L.length + j - L.length = j by omega]
    · rw [List.length_append, hl]; rfl
theorem xo_26 {n : Nat} {tau : Nat → Nat × Nat} {vr c : Nat → Int → Option Nat} (h : xo n tau vr) (h1 : ∀ k, ¬ k = 26 → c k = vr k) (h2 : ∀ j, ¬ j = 0 → c 26 j = vr 26 j) : xo n tau c := by
  refine ⟨h.1, h.2.1, fun q hq => ?_⟩
  rw [← h.2.2 q hq]
  by_cases e : q.1 = 26
  · rw [e]
    refine h2 _ ?_
    intro e2
    have : ∀ q ∈ xo_rl, q.1 = 26 → ¬ q.2.1 = 0 := by decide
    exact this q hq e e2
  · rw [h1 q.1 e]
theorem kX5_clauseR (G : xg_T) (d : Nat) (n : Nat) (tau : Nat → Nat × Nat) (vi vl : Nat → Int → Int) (vr : Nat → Int → Option Nat) (hO : xo n tau vr) (h u : Int → Int) (en sp : Int) (h2 : vi 26 2 = sp) (h1 : vi 26 1 = en) (hr0 : vr 26 0 = some 2) (hen : pH h u en) (htp : ∀ z, 0 ≤ z → z < en → vi 2 z = h z ∧ 0 ≤ h z) (hsp : 0 ≤ sp ∧ sp ≤ en) (L : List Int) (h7 : vi 26 7 = (L.length : Int)) (hcd : cdR (vi 29) L) (hL : (L.length : Int) ≤ sp) (nl lim : Int) (h5 : vi 26 5 = nl) (h8 : vi 26 8 = lim) (hnl : 0 ≤ nl ∧ nl ≤ 9) (hlim : 1 ≤ lim ∧ lim ≤ 99) (R : pc_T) (hR : R = pCl h sp lim) : xm G yX5_readClause cX5_readClause 3 (some .boolean) (d + 20) 0 0 [xa_r 26] n tau vi vl vr (xp_i (fun z9 n1 t1 a1 b1 c1 => (z9 = 1 - R.1) ∧ (a1 26 7 = ((L ++ R.2.2.1).length : Int)) ∧ (cdR (a1 29) (L ++ R.2.2.1)) ∧ (a1 26 2 = R.2.1) ∧ (a1 26 1 = en) ∧ (a1 26 5 = (if R.2.2.2.1 = 0 then nl else nl + 1)) ∧ (a1 26 8 = R.2.2.2.2) ∧ (a1 27 = (if R.2.2.2.1 = 0 then vi 27 else fu (vi 27) nl (mwt R.2.2.2.1))) ∧ (a1 28 = (if R.2.2.2.1 = 0 then vi 28 else fu (vi 28) nl ((L ++ R.2.2.1).length : Int))) ∧ xs_I (fun k => ¬ k = 26 ∧ ¬ k = 27 ∧ ¬ k = 28 ∧ ¬ k = 29) n tau vi vl vr n1 t1 a1 b1 c1)) := by
  subst hR; exact kX5_readClause G d n tau vi vl vr hO h u en sp h2 h1 hr0 hen htp hsp L h7 hcd hL nl lim h5 h8 hnl hlim

