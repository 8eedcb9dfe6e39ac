theorem cln_app (a b : List (List Int × Int)) : cln (a ++ b) = cln a + cln b := by
  induction a with
  | nil => show cln b = 0 + cln b; omega
  | cons q r ih => show q.1.length + cln (r ++ b) = q.1.length + cln r + cln b; omega
theorem fl_app (a b : List (List Int × Int)) : fl (a ++ b) = fl a ++ fl b := by
  induction a with
  | nil => rfl
  | cons q r ih => show q.1 ++ q.2 :: fl (r ++ b) = (q.1 ++ q.2 :: fl r) ++ fl b; rw [ih, List.append_assoc, List.cons_append]
theorem tr_push {W E C W' E' C' : Int → Int} {q : List Int × Int} (hq : q.2 ≤ -10) (hq2 : ∀ x ∈ q.1, -10 < x) : ∀ (cl : List (List Int × Int)) (i f : Int), tr_ok W E C cl i f → (∀ z, i ≤ z → z < i + (cl.length : Int) → W' z = W z ∧ E' z = E z) → (∀ z, f ≤ z → z < f + (cln cl : Int) → C' z = C z) → E' (i + (cl.length : Int)) = f + (cln cl : Int) + (q.1.length : Int) → W' (i + (cl.length : Int)) = mwt q.2 → (∀ j : Nat, j < q.1.length → C' (f + (cln cl : Int) + (j : Int)) = trc (q.1.getD j 0)) → tr_ok W' E' C' (cl ++ [q]) i f
  | [], i, f, _, _, _, h3, h4, h5 => by
    have e0 : i + (([] : List (List Int × Int)).length : Int) = i := by simp
    have e1 : f + (cln [] : Int) = f := by show f + ((0 : Nat) : Int) = f; omega
    rw [e0] at h3 h4; rw [e1] at h3
    exact ⟨h3, h4, hq, hq2, fun j hj => by have := h5 j hj; rw [e1] at this; exact this, trivial⟩
  | r :: cl, i, f, h, h1, h2, h3, h4, h5 => by
    obtain ⟨t1, t2, t3, t4, t5, t6⟩ := h
    have el : ((r :: cl).length : Int) = (cl.length : Int) + 1 := by simp
    have ec : (cln (r :: cl) : Int) = (r.1.length : Int) + (cln cl : Int) := by show ((r.1.length + cln cl : Nat) : Int) = _; omega
    rw [el] at h1 h3 h4; rw [ec] at h2 h3
    have g := h1 i (by omega) (by omega)
    refine ⟨by rw [g.2]; exact t1, by rw [g.1]; exact t2, t3, t4, fun j hj => by rw [h2 _ (by omega) (by omega)]; exact t5 j hj, ?_⟩
    refine tr_push hq hq2 cl (i + 1) (f + (r.1.length : Int)) t6 (fun z z1 z2 => h1 z (by omega) (by omega)) (fun z z1 z2 => h2 z (by omega) (by omega)) ?_ ?_ (fun j hj => ?_)
    · rw [show i + 1 + (cl.length : Int) = i + ((cl.length : Int) + 1) by omega, h3]; omega
    · rw [show i + 1 + (cl.length : Int) = i + ((cl.length : Int) + 1) by omega, h4]
    · have := h5 j hj
      rw [ec, show f + ((r.1.length : Int) + (cln cl : Int)) + (j : Int) = f + (r.1.length : Int) + (cln cl : Int) + (j : Int) by omega] at this
      exact this
theorem tr_same {W E C C' : Int → Int} : ∀ (cl : List (List Int × Int)) (i f : Int), tr_ok W E C cl i f → (∀ z, f ≤ z → z < f + (cln cl : Int) → C' z = C z) → tr_ok W E C' cl i f
  | [], _, _, _, _ => trivial
  | r :: cl, i, f, h, h2 => by
    obtain ⟨t1, t2, t3, t4, t5, t6⟩ := h
    have ec : (cln (r :: cl) : Int) = (r.1.length : Int) + (cln cl : Int) := by show ((r.1.length + cln cl : Nat) : Int) = _; omega
    rw [ec] at h2
    exact ⟨t1, t2, t3, t4, fun j hj => by rw [h2 _ (by omega) (by omega)]; exact t5 j hj, tr_same cl (i + 1) _ t6 (fun z z1 z2 => h2 z (by omega) (by omega))⟩
theorem cl_push {W E C W' E' C' : Int → Int} {cl : List (List Int × Int)} {L : List Int} {R : pc_T} {en sp : Int} (hok : pcOK en sp R) (h0 : R.1 = 0) (ht : tr_ok W E C cl 0 0) (hl : L.length = cln cl) (hc : cdR C L) (hc' : cdR C' (L ++ R.2.2.1)) (hW : W' = if R.2.2.2.1 = 0 then W else fu W (cl.length : Int) (mwt R.2.2.2.1)) (hE : E' = if R.2.2.2.1 = 0 then E else fu E (cl.length : Int) ((L ++ R.2.2.1).length : Int)) (b1 : 11 * (cl.length : Int) ≤ sp) (b2 : (L.length : Int) + 8 * (cl.length : Int) ≤ sp) :
    tr_ok W' E' C' (cl ++ pCs R) 0 0 ∧ (L ++ R.2.2.1).length = cln (cl ++ pCs R) ∧ (if R.2.2.2.1 = 0 then (cl.length : Int) else (cl.length : Int) + 1) = ((cl ++ pCs R).length : Int) ∧ fl (cl ++ pCs R) = fl cl ++ pEm R ∧ 11 * ((cl ++ pCs R).length : Int) ≤ R.2.1 + 1 ∧ ((L ++ R.2.2.1).length : Int) + 8 * ((cl ++ pCs R).length : Int) ≤ R.2.1 + 1 := by
  obtain ⟨k1, k2, k3, k4, k5, k6, k7⟩ := hok
  obtain ⟨k6a, k6b, k6c⟩ := k6 h0
  have hC : ∀ z : Int, 0 ≤ z → z < 0 + (cln cl : Int) → C' z = C z := by
    intro z z1 z2
    have e1 := hc z.toNat (by omega)
    have e2 := hc' z.toNat (by rw [List.length_append]; omega)
    rw [show ((z.toNat : Nat) : Int) = z by omega] at e1 e2
    rw [e1, e2]
    congr 1
    simp [List.getD, List.getElem?_append, show z.toNat < L.length by omega]
  by_cases e : R.2.2.2.1 = 0
  · have e3 := k6b e
    have p1 : pCs R = [] := by unfold pCs; rw [if_pos e]
    have p2 : pEm R = [] := by unfold pEm; rw [if_pos e, e3]; rfl
    rw [if_pos e] at hW hE
    rw [p1, p2, List.append_nil, List.append_nil, e3, List.append_nil, if_pos e, hW, hE]
    exact ⟨tr_same cl 0 0 ht hC, hl, rfl, rfl, by omega, by omega⟩
  · obtain ⟨m1, m2, m3, m4, m5⟩ := k6c e
    have p1 : pCs R = [(R.2.2.1, R.2.2.2.1)] := by unfold pCs; rw [if_neg e]
    have p2 : pEm R = R.2.2.1 ++ [R.2.2.2.1] := by unfold pEm; rw [if_neg e]
    rw [if_neg e] at hW hE
    have la : ((L ++ R.2.2.1).length : Int) = (L.length : Int) + (R.2.2.1.length : Int) := by rw [List.length_append]; omega
    have lb : (cl ++ [(R.2.2.1, R.2.2.2.1)]).length = cl.length + 1 := by rw [List.length_append]; rfl
    rw [p1, p2, if_neg e, fl_app, cln_app, lb]
    refine ⟨tr_push (q := (R.2.2.1, R.2.2.2.1)) (by show R.2.2.2.1 ≤ -10; omega) (fun x hx => by have := m3 x hx; omega) cl 0 0 ht (fun z z1 z2 => by rw [hW, hE, fu_n _ _ _ (by omega), fu_n _ _ _ (by omega)]; exact ⟨rfl, rfl⟩) hC ?_ ?_ (fun j hj => ?_), ?_, by omega, rfl, by omega, by omega⟩
    · rw [hE, show (0 : Int) + (cl.length : Int) = (cl.length : Int) by omega, fu_s, la]; show _ = 0 + (cln cl : Int) + (R.2.2.1.length : Int); omega
    · rw [hW, show (0 : Int) + (cl.length : Int) = (cl.length : Int) by omega, fu_s]
    · have e2 := hc' (L.length + j) (by rw [List.length_append]; exact Nat.add_lt_add_left hj _)
      rw [show ((L.length + j : Nat) : Int) = 0 + (cln cl : Int) + (j : Int) by omega] at e2
      rw [e2]
      congr 1
      simp only [List.getD, List.getElem?_append]
      rw [if_neg (by omega), show L.length + j - L.length = j by omega]
    · rw [List.length_append, hl]; rfl
theorem xo_26 {n : Nat} {tau : Nat → Nat × Nat} {vr c : Nat → Int → Option Nat} (h : xo n tau vr) (h1 : ∀ k, ¬ k = 26 → c k = vr k) (h2 : ∀ j, ¬ j = 0 → c 26 j = vr 26 j) : xo n tau c := by
  refine ⟨h.1, h.2.1, fun q hq => ?_⟩
  rw [← h.2.2 q hq]
  by_cases e : q.1 = 26
  · rw [e]
    refine h2 _ ?_
    intro e2
    have : ∀ q ∈ xo_rl, q.1 = 26 → ¬ q.2.1 = 0 := by decide
    exact this q hq e e2
  · rw [h1 q.1 e]
theorem kX5_clauseR (G : xg_T) (d : Nat) (n : Nat) (tau : Nat → Nat × Nat) (vi vl : Nat → Int → Int) (vr : Nat → Int → Option Nat) (hO : xo n tau vr) (h u : Int → Int) (en sp : Int) (h2 : vi 26 2 = sp) (h1 : vi 26 1 = en) (hr0 : vr 26 0 = some 2) (hen : pH h u en) (htp : ∀ z, 0 ≤ z → z < en → vi 2 z = h z ∧ 0 ≤ h z) (hsp : 0 ≤ sp ∧ sp ≤ en) (L : List Int) (h7 : vi 26 7 = (L.length : Int)) (hcd : cdR (vi 29) L) (hL : (L.length : Int) ≤ sp) (nl lim : Int) (h5 : vi 26 5 = nl) (h8 : vi 26 8 = lim) (hnl : 0 ≤ nl ∧ nl ≤ 9) (hlim : 1 ≤ lim ∧ lim ≤ 99) (R : pc_T) (hR : R = pCl h sp lim) : xm G yX5_readClause cX5_readClause 3 (some .boolean) (d + 20) 0 0 [xa_r 26] n tau vi vl vr (xp_i (fun z9 n1 t1 a1 b1 c1 => (z9 = 1 - R.1) ∧ (a1 26 7 = ((L ++ R.2.2.1).length : Int)) ∧ (cdR (a1 29) (L ++ R.2.2.1)) ∧ (a1 26 2 = R.2.1) ∧ (a1 26 1 = en) ∧ (a1 26 5 = (if R.2.2.2.1 = 0 then nl else nl + 1)) ∧ (a1 26 8 = R.2.2.2.2) ∧ (a1 27 = (if R.2.2.2.1 = 0 then vi 27 else fu (vi 27) nl (mwt R.2.2.2.1))) ∧ (a1 28 = (if R.2.2.2.1 = 0 then vi 28 else fu (vi 28) nl ((L ++ R.2.2.1).length : Int))) ∧ xs_I (fun k => ¬ k = 26 ∧ ¬ k = 27 ∧ ¬ k = 28 ∧ ¬ k = 29) n tau vi vl vr n1 t1 a1 b1 c1)) := by
  subst hR; exact kX5_readClause G d n tau vi vl vr hO h u en sp h2 h1 hr0 hen htp hsp L h7 hcd hL nl lim h5 h8 hnl hlim
set_option maxHeartbeats 4000000 in
set_option maxRecDepth 100000 in
theorem kX5_read (G : xg_T) (d : Nat) (n : Nat) (tau : Nat → Nat × Nat) (vi vl : Nat → Int → Int) (vr : Nat → Int → Option Nat) (hO : xo n tau vr) (h u : Int → Int) (en : Int) (hen : pH h u en) (htp : ∀ z, 0 ≤ z → z < en → vi 2 z = h z ∧ 0 ≤ h z) (Q : pt_T) (hQ : Q = pTab h 10 0 99 [] []) : xm G yX5_read cX5_read 4 (some .boolean) (d + 21) 0 0 [xa_r 26, xa_r 2, xa_i en] n tau vi vl vr (xp_i (fun z9 n1 t1 a1 b1 c1 => ((z9 = 1 ∧ Q.1 = 0 ∧ Q.2.1 = en ∧ tr_ok (a1 27) (a1 28) (a1 29) Q.2.2.2.2 0 0 ∧ a1 26 5 = (Q.2.2.2.2.length : Int) ∧ a1 26 7 = (cln Q.2.2.2.2 : Int) ∧ a1 26 8 = Q.2.2.1 ∧ Q.2.2.2.1 = fl Q.2.2.2.2 ∧ Q.2.2.2.2.length ≤ 9 ∧ cln Q.2.2.2.2 ≤ 93) ∨ (z9 = 0 ∧ ¬ (Q.1 = 0 ∧ Q.2.1 = en))) ∧ a1 26 2 = Q.2.1 ∧ n = n1 ∧ tau = t1 ∧ vl = b1 ∧ (∀ k, ¬ k = 26 → c1 k = vr k) ∧ (∀ j, ¬ j = 0 → c1 26 j = vr 26 j) ∧ ∀ k : Nat, (¬ k = 26 ∧ ¬ k = 27 ∧ ¬ k = 28 ∧ ¬ k = 29) → a1 k = vi k)) := by
  refine xm.of (lv := [(0, xa_r 26), (1, xa_r 2), (2, xa_i en)]) (by decide) (Nat.le_of_ble_eq_true rfl) rfl (fun K hC hM hRm => ?_)
  have he := hen.1
  have hh := hen.2
  refine vx_aload_n hC 0 rfl eX5_read_0 ?_
  refine vx_aload_n hC 1 rfl eX5_read_1 ?_
  refine vx_pr hC 0 (ot_26 hO) lp_X5_21 rfl (Or.inl rfl) eX5_read_2 ?_
  refine vx_vr (fun v1 hv1 => ?_)
  have hO9 : xo n tau v1 := xo_26 hO (fun k hk => by rw [hv1, xu_c _ _ _ _ hk]) (fun j hj => by rw [hv1, xu_n _ _ _ _ (by omega)])
  have hr0 : v1 26 0 = some 2 := by rw [hv1, xu_s]
  refine vx_aload_n hC 0 rfl eX5_read_5 ?_
  refine vx_iload_n hC 2 rfl eX5_read_6 ?_
  refine vx_aload_n hC 1 rfl eX5_read_7 ?_
  refine vx_alen hC (ot_2 hO9) (by decide) (by omega) eX5_read_8 ?_
  refine vx_mmin hC (by omega) ly_X5_25 hRm (by omega) (Nat.le_of_ble_eq_true rfl) eX5_read_9 ?_
  refine vx_top (fun x2 hx2 => ?_)
  have rx2 := mmin_r hx2
  refine vx_pi hC 1 (ot_26 hO9) lp_X5_31 rfl (Or.inl rfl) (Or.inl rfl) eX5_read_12 ?_
  refine vx_vi (fun v3 hv3 => ?_)
  have hv3_26_1 : v3 26 1 = x2 := by rw [hv3, xu_k, fu_s]
  have hv3_26_2 : v3 26 2 = vi 26 2 := by rw [hv3, xu_k, fu_n _ _ _ (by decide)]
  have hv3_26_5 : v3 26 5 = vi 26 5 := by rw [hv3, xu_k, fu_n _ _ _ (by decide)]
  have hv3_26_7 : v3 26 7 = vi 26 7 := by rw [hv3, xu_k, fu_n _ _ _ (by decide)]
  have hv3_26_8 : v3 26 8 = vi 26 8 := by rw [hv3, xu_k, fu_n _ _ _ (by decide)]
  have frv3 : ∀ k : Nat, (¬ k = 26 ∧ ¬ k = 27 ∧ ¬ k = 28 ∧ ¬ k = 29) → v3 k = vi k := fun k hk => by rw [hv3, xu_c _ _ _ _ (by omega)]
  have e4 : v3 26 1 = en := by rw [hv3_26_1]; omega
  refine vx_aload_n hC 0 rfl eX5_read_15 ?_
  refine vx_iconst hC eX5_read_16 ?_
  refine vx_pi hC 2 (ot_26 hO9) lp_X5_35 rfl (Or.inl rfl) (Or.inl rfl) eX5_read_17 ?_
  refine vx_vi (fun v5 hv5 => ?_)
  have hv5_26_1 : v5 26 1 = en := by rw [hv5, xu_k, fu_n _ _ _ (by decide), e4]
  have hv5_26_2 : v5 26 2 = 0 := by rw [hv5, xu_k, fu_s]
  have hv5_26_5 : v5 26 5 = vi 26 5 := by rw [hv5, xu_k, fu_n _ _ _ (by decide), hv3_26_5]
  have hv5_26_7 : v5 26 7 = vi 26 7 := by rw [hv5, xu_k, fu_n _ _ _ (by decide), hv3_26_7]
  have hv5_26_8 : v5 26 8 = vi 26 8 := by rw [hv5, xu_k, fu_n _ _ _ (by decide), hv3_26_8]
  have frv5 : ∀ k : Nat, (¬ k = 26 ∧ ¬ k = 27 ∧ ¬ k = 28 ∧ ¬ k = 29) → v5 k = vi k := fun k hk => by rw [hv5, xu_c _ _ _ _ (by omega)]; exact frv3 k hk
  refine vx_aload_n hC 0 rfl eX5_read_20 ?_
  refine vx_iconst hC eX5_read_21 ?_
  refine vx_pi hC 5 (ot_26 hO9) lp_X5_38 rfl (Or.inl rfl) (Or.inl rfl) eX5_read_22 ?_
  refine vx_vi (fun v6 hv6 => ?_)
  have hv6_26_1 : v6 26 1 = en := by rw [hv6, xu_k, fu_n _ _ _ (by decide), hv5_26_1]
  have hv6_26_2 : v6 26 2 = 0 := by rw [hv6, xu_k, fu_n _ _ _ (by decide), hv5_26_2]
  have hv6_26_5 : v6 26 5 = 0 := by rw [hv6, xu_k, fu_s]
  have hv6_26_7 : v6 26 7 = vi 26 7 := by rw [hv6, xu_k, fu_n _ _ _ (by decide), hv5_26_7]
  have hv6_26_8 : v6 26 8 = vi 26 8 := by rw [hv6, xu_k, fu_n _ _ _ (by decide), hv5_26_8]
  have frv6 : ∀ k : Nat, (¬ k = 26 ∧ ¬ k = 27 ∧ ¬ k = 28 ∧ ¬ k = 29) → v6 k = vi k := fun k hk => by rw [hv6, xu_c _ _ _ _ (by omega)]; exact frv5 k hk
  refine vx_aload_n hC 0 rfl eX5_read_25 ?_
  refine vx_iconst hC eX5_read_26 ?_
  refine vx_pi hC 7 (ot_26 hO9) lp_X5_41 rfl (Or.inl rfl) (Or.inl rfl) eX5_read_27 ?_
  refine vx_vi (fun v7 hv7 => ?_)
  have hv7_26_1 : v7 26 1 = en := by rw [hv7, xu_k, fu_n _ _ _ (by decide), hv6_26_1]
  have hv7_26_2 : v7 26 2 = 0 := by rw [hv7, xu_k, fu_n _ _ _ (by decide), hv6_26_2]
  have hv7_26_5 : v7 26 5 = 0 := by rw [hv7, xu_k, fu_n _ _ _ (by decide), hv6_26_5]
  have hv7_26_7 : v7 26 7 = 0 := by rw [hv7, xu_k, fu_s]
  have hv7_26_8 : v7 26 8 = vi 26 8 := by rw [hv7, xu_k, fu_n _ _ _ (by decide), hv6_26_8]
  have frv7 : ∀ k : Nat, (¬ k = 26 ∧ ¬ k = 27 ∧ ¬ k = 28 ∧ ¬ k = 29) → v7 k = vi k := fun k hk => by rw [hv7, xu_c _ _ _ _ (by omega)]; exact frv6 k hk
  refine vx_aload_n hC 0 rfl eX5_read_30 ?_
  refine vx_bipush hC (by decide) eX5_read_31 ?_
  refine vx_pi hC 8 (ot_26 hO9) lp_X5_44 rfl (Or.inl rfl) (Or.inl rfl) eX5_read_33 ?_
  refine vx_vi (fun v8 hv8 => ?_)
  have hv8_26_1 : v8 26 1 = en := by rw [hv8, xu_k, fu_n _ _ _ (by decide), hv7_26_1]
  have hv8_26_2 : v8 26 2 = 0 := by rw [hv8, xu_k, fu_n _ _ _ (by decide), hv7_26_2]
  have hv8_26_5 : v8 26 5 = 0 := by rw [hv8, xu_k, fu_n _ _ _ (by decide), hv7_26_5]
  have hv8_26_7 : v8 26 7 = 0 := by rw [hv8, xu_k, fu_n _ _ _ (by decide), hv7_26_7]
  have hv8_26_8 : v8 26 8 = 99 := by rw [hv8, xu_k, fu_s]
  have frv8 : ∀ k : Nat, (¬ k = 26 ∧ ¬ k = 27 ∧ ¬ k = 28 ∧ ¬ k = 29) → v8 k = vi k := fun k hk => by rw [hv8, xu_c _ _ _ _ (by omega)]; exact frv7 k hk
  refine vx_iconst hC eX5_read_36 ?_
  refine vx_istore_n hC (lv1 := [(3, xa_i 1), (0, xa_r 26), (1, xa_r 2), (2, xa_i en)]) (by decide) rfl eX5_read_37 ?_
  have LP38 : ∀ (j : Nat) (kr : Nat) (ii : Int) (sp1 : Int) (lim1 : Int) (em1 : List Int) (cl1 : List (List Int × Int)) (L1 : List Int) (m2 : Nat → Int → Int) (hk : ii + (kr : Int) = 11 ∧ 1 ≤ ii ∧ ii ≤ 10) (hs1 : 0 ≤ sp1 ∧ sp1 ≤ en) (hl1 : 1 ≤ lim1 ∧ lim1 ≤ 99) (hres : pTab h kr sp1 lim1 em1 cl1 = Q) (hem : em1 = fl cl1) (htr : tr_ok (m2 27) (m2 28) (m2 29) cl1 0 0) (hLl : L1.length = cln cl1) (hb1 : 11 * (cl1.length : Int) ≤ sp1) (hb2 : (L1.length : Int) + 8 * (cl1.length : Int) ≤ sp1) (hcl : (cl1.length : Int) ≤ ii - 1) (e2 : m2 26 2 = sp1) (e1 : m2 26 1 = en) (e5 : m2 26 5 = (cl1.length : Int)) (e7 : m2 26 7 = (L1.length : Int)) (e8 : m2 26 8 = lim1) (cd1 : cdR (m2 29) L1) (fi : ∀ k : Nat, (¬ k = 26 ∧ ¬ k = 27 ∧ ¬ k = 28 ∧ ¬ k = 29) → m2 k = vi k) (hj : (kr : Int) < (j : Int)), xv G K 4 (xk_Q G K (xp_i (fun z9 n1 t1 a1 b1 c1 => ((z9 = 1 ∧ Q.1 = 0 ∧ Q.2.1 = en ∧ tr_ok (a1 27) (a1 28) (a1 29) Q.2.2.2.2 0 0 ∧ a1 26 5 = (Q.2.2.2.2.length : Int) ∧ a1 26 7 = (cln Q.2.2.2.2 : Int) ∧ a1 26 8 = Q.2.2.1 ∧ Q.2.2.2.1 = fl Q.2.2.2.2 ∧ Q.2.2.2.2.length ≤ 9 ∧ cln Q.2.2.2.2 ≤ 93) ∨ (z9 = 0 ∧ ¬ (Q.1 = 0 ∧ Q.2.1 = en))) ∧ a1 26 2 = Q.2.1 ∧ n = n1 ∧ tau = t1 ∧ vl = b1 ∧ (∀ k, ¬ k = 26 → c1 k = vr k) ∧ (∀ j, ¬ j = 0 → c1 26 j = vr 26 j) ∧ ∀ k : Nat, (¬ k = 26 ∧ ¬ k = 27 ∧ ¬ k = 28 ∧ ¬ k = 29) → a1 k = vi k)) 0 0) 0 0 n tau m2 vl v1 38 [(3, xa_i ii), (0, xa_r 26), (1, xa_r 2), (2, xa_i en)] [] := by
    intro j
    induction j with
    | zero => intro kr ii sp1 lim1 em1 cl1 L1 m2 hk hs1 hl1 hres hem htr hLl hb1 hb2 hcl e2 e1 e5 e7 e8 cd1 fi hj; exfalso; omega
    | succ j ih =>
      intro kr ii sp1 lim1 em1 cl1 L1 m2 hk hs1 hl1 hres hem htr hLl hb1 hb2 hcl e2 e1 e5 e7 e8 cd1 fi hj
      refine vx_iload_n hC 0 rfl eX5_read_38 ?_
      refine vx_bipush hC (by decide) eX5_read_39 ?_
      refine vx_icmp_gt hC (tgt := 89) (by omega) (by decide) eX5_read_41 (fun c9 => absurd c9 (by omega)) (fun c9 => ?_)
      obtain ⟨kb, rfl⟩ : ∃ kb, kr = kb + 1 := ⟨kr - 1, by omega⟩
      refine vx_aload_n hC 1 rfl eX5_read_44 ?_
      obtain ⟨R, hR⟩ : ∃ r : pc_T, r = pCl h sp1 lim1 := ⟨_, rfl⟩
      have hok := pCl_ok hen (sp := sp1) (lim := lim1) (by omega) (by omega)
      rw [← hR] at hok
      have hok9 := hok
      obtain ⟨k1, k2, k3, k4, k5, k6, k7⟩ := hok9
      clear k4 k6 k7
      refine vx_callV_i hC (kX5_clauseR G d _ _ _ _ _ hO9 h u en sp1 e2 e1 hr0 hen (fun z z1 z2 => by rw [fi 2 (by omega)]; exact htp z z1 z2) (by omega) L1 e7 cd1 (by omega) (cl1.length : Int) lim1 e5 e8 (by omega) (by omega) R hR) ly_X5_47 (ot_26 hO9) rfl rfl rfl hRm (by omega) (Nat.le_of_ble_eq_true rfl) rfl eX5_read_45 (fun x10 ng11 tg11 ag11 bg11 cg11 hg11 => ?_)
      obtain ⟨hx10, qg11_0, qg11_1, qg11_2, qg11_3, qg11_4, qg11_5, qg11_6, qg11_7, rfl, rfl, rfl, rfl, frg11⟩ := hg11
      have qg11_3b : ag11 26 1 = en := by first | exact qg11_3 | rw [qg11_3, e1] | (rw [qg11_3]; exact e1)
      have qg11_2b : ag11 26 2 = R.2.1 := by first | exact qg11_2 | rw [qg11_2, e2] | (rw [qg11_2]; exact e2)
      have qg11_4b : ag11 26 5 = (if R.2.2.2.1 = 0 then (cl1.length : Int) else (cl1.length : Int) + 1) := by first | exact qg11_4 | rw [qg11_4, e5] | (rw [qg11_4]; exact e5)
      have qg11_0b : ag11 26 7 = ((L1 ++ R.2.2.1).length : Int) := by first | exact qg11_0 | rw [qg11_0, e7] | (rw [qg11_0]; exact e7)
      have qg11_5b : ag11 26 8 = R.2.2.2.2 := by first | exact qg11_5 | rw [qg11_5, e8] | (rw [qg11_5]; exact e8)
      have frvig11 : ∀ k : Nat, (¬ k = 26 ∧ ¬ k = 27 ∧ ¬ k = 28 ∧ ¬ k = 29) → ag11 k = vi k := fun k hk => (frg11 k (by omega)).trans (fi k hk)
      have hhR := hh R.2.1
      refine vx_if_ne hC (tgt := 53) (by omega) (by decide) eX5_read_48 (fun c12 => ?_) (fun c12 => ?_)
      · have hg : R.1 = 0 := by omega
        obtain ⟨ptr, p2, p3, p4, p5, p6⟩ := cl_push hok hg htr hLl cd1 qg11_1 qg11_6 qg11_7 hb1 hb2
        refine vx_aload_n hC 1 rfl eX5_read_53 ?_
        refine vx_gi hC 2 (ot_26 hO9) lf_X5_35 rfl eX5_read_54 ?_
        refine vx_eqi qg11_2b ?_
        refine vx_aload_n hC 1 rfl eX5_read_57 ?_
        refine vx_gi hC 1 (ot_26 hO9) lf_X5_31 rfl eX5_read_58 ?_
        refine vx_eqi qg11_3b ?_
        refine vx_icmp_lt hC (tgt := 66) (by omega) (by decide) eX5_read_61 (fun c13 => ?_) (fun c13 => ?_)
        · refine vx_iload_n hC 0 rfl eX5_read_66 ?_
          refine vx_bipush hC (by decide) eX5_read_67 ?_
          refine vx_icmp_eq hC (tgt := 81) (by omega) (by decide) eX5_read_69 (fun c14 => ?_) (fun c14 => ?_)
          · have hQe : Q = (R.1, R.2.1, R.2.2.2.2, em1 ++ pEm R, cl1 ++ pCs R) := by rw [← hres, pTab_s, ← hR, if_neg (by omega)]
            refine vx_iconst hC eX5_read_81 ?_
            exact vx_iret hC hM (by decide) eX5_read_82 (⟨_, rfl, (Or.inr ⟨rfl, (by rw [hQe]; show ¬ (R.1 = 0 ∧ R.2.1 = en); omega)⟩), (by rw [hQe]; show _ = R.2.1; first | (rw [qg11_2b]; done) | (rw [qg11_2b]; omega)), rfl, rfl, rfl, (fun k hk => by rw [hv1, xu_c _ _ _ _ hk]), (fun j hj => by rw [hv1, xu_n _ _ _ _ (by omega)]), fun k hk => frvig11 k hk⟩)
          · refine vx_aload_n hC 1 rfl eX5_read_72 ?_
            refine vx_bipush hC (by decide) eX5_read_73 ?_
            refine vx_callV_i hC (kX5_take G (d + 19) _ _ _ _ _ hO9 h u en R.2.1 qg11_2b qg11_3b hr0 hen (fun z z1 z2 => by rw [frvig11 2 (by omega)]; exact htp z z1 z2) (by omega) 59 (by omega)) ly_X5_51 (ot_26 hO9) rfl rfl rfl hRm (by omega) (Nat.le_of_ble_eq_true rfl) rfl eX5_read_75 (fun x15 ng16 tg16 ag16 bg16 cg16 hg16 => ?_)
            obtain ⟨hx15, qg16_0, qg16_1, qg16_2, qg16_3, qg16_4, rfl, rfl, rfl, rfl, frg16⟩ := hg16
            have qg16_1b : ag16 26 1 = en := by first | exact qg16_1 | rw [qg16_1, qg11_3b] | (rw [qg16_1]; exact qg11_3b)
            have qg16_0b : ag16 26 2 = R.2.1 + x15 := by first | exact qg16_0 | rw [qg16_0, qg11_2b] | (rw [qg16_0]; exact qg11_2b)
            have qg16_2b : ag16 26 5 = (if R.2.2.2.1 = 0 then (cl1.length : Int) else (cl1.length : Int) + 1) := by first | exact qg16_2 | rw [qg16_2, qg11_4b] | (rw [qg16_2]; exact qg11_4b)
            have qg16_3b : ag16 26 7 = ((L1 ++ R.2.2.1).length : Int) := by first | exact qg16_3 | rw [qg16_3, qg11_0b] | (rw [qg16_3]; exact qg11_0b)
            have qg16_4b : ag16 26 8 = R.2.2.2.2 := by first | exact qg16_4 | rw [qg16_4, qg11_5b] | (rw [qg16_4]; exact qg11_5b)
            have frvig16 : ∀ k : Nat, (¬ k = 26 ∧ ¬ k = 27 ∧ ¬ k = 28 ∧ ¬ k = 29) → ag16 k = vi k := fun k hk => (frg16 k (by omega)).trans (frvig11 k hk)
            refine vx_if_ne hC (tgt := 83) (by omega) (by decide) eX5_read_78 (fun c17 => ?_) (fun c17 => ?_)
            · have hgo : pTab h kb (R.2.1 + 1) R.2.2.2.2 (em1 ++ pEm R) (cl1 ++ pCs R) = Q := by rw [← hres, pTab_s, ← hR, if_pos (by omega)]
              refine vx_iinc hC (lv1 := [(3, xa_i (ii + 1)), (0, xa_r 26), (1, xa_r 2), (2, xa_i en)]) 0 rfl (by decide) rfl eX5_read_83 ?_
              refine vx_goto hC (tgt := 38) (by decide) eX5_read_86 ?_
              exact ih kb (ii + 1) (R.2.1 + 1) R.2.2.2.2 (em1 ++ pEm R) (cl1 ++ pCs R) (L1 ++ R.2.2.1) ag16 (by omega) (by omega) k5 hgo (by rw [p4, hem]) (by rw [frg16 27 (by decide), frg16 28 (by decide), frg16 29 (by decide)]; exact ptr) p2 p5 p6 (by rw [← p3]; split <;> omega) (by rw [qg16_0b]; omega) qg16_1b (by rw [qg16_2b]; exact p3) qg16_3b qg16_4b (by rw [frg16 29 (by decide)]; exact qg11_1) frvig16 (by omega)
            · have hQe : Q = (R.1, R.2.1, R.2.2.2.2, em1 ++ pEm R, cl1 ++ pCs R) := by rw [← hres, pTab_s, ← hR, if_neg (by omega)]
              refine vx_iconst hC eX5_read_81 ?_
              exact vx_iret hC hM (by decide) eX5_read_82 (⟨_, rfl, (Or.inr ⟨rfl, (by rw [hQe]; show ¬ (R.1 = 0 ∧ R.2.1 = en); omega)⟩), (by rw [hQe]; show _ = R.2.1; first | (rw [qg16_0b]; done) | (rw [qg16_0b]; omega)), rfl, rfl, rfl, (fun k hk => by rw [hv1, xu_c _ _ _ _ hk]), (fun j hj => by rw [hv1, xu_n _ _ _ _ (by omega)]), fun k hk => frvig16 k hk⟩)
        · have hQe : Q = (R.1, R.2.1, R.2.2.2.2, em1 ++ pEm R, cl1 ++ pCs R) := by rw [← hres, pTab_s, ← hR, if_neg (by omega)]
          refine vx_iconst hC eX5_read_64 ?_
          have hl9 : (cl1 ++ pCs R).length = 0 → cln (cl1 ++ pCs R) = 0 := fun e9 => by rw [List.length_eq_zero_iff.mp e9]; rfl
          exact vx_iret hC hM (by decide) eX5_read_65 (⟨_, rfl, (Or.inl ⟨rfl, (by rw [hQe]; exact hg), (by rw [hQe]; show R.2.1 = en; omega), (by rw [hQe]; exact ptr), (by rw [hQe, qg11_4b]; exact p3), (by rw [hQe, qg11_0b]; show _ = ((cln (cl1 ++ pCs R) : Nat) : Int); omega), (by rw [hQe, qg11_5b]), (by rw [hQe]; show em1 ++ pEm R = fl (cl1 ++ pCs R); rw [p4, hem]), (by rw [hQe]; show (cl1 ++ pCs R).length ≤ 9; omega), (by rw [hQe]; show cln (cl1 ++ pCs R) ≤ 93; omega)⟩), (by rw [hQe]; show _ = R.2.1; first | (rw [qg11_2b]; done) | (rw [qg11_2b]; omega)), rfl, rfl, rfl, (fun k hk => by rw [hv1, xu_c _ _ _ _ hk]), (fun j hj => by rw [hv1, xu_n _ _ _ _ (by omega)]), fun k hk => frvig11 k hk⟩)
      · have hQe : Q = (R.1, R.2.1, R.2.2.2.2, em1 ++ pEm R, cl1 ++ pCs R) := by rw [← hres, pTab_s, ← hR, if_neg (by omega)]
        refine vx_iconst hC eX5_read_51 ?_
        exact vx_iret hC hM (by decide) eX5_read_52 (⟨_, rfl, (Or.inr ⟨rfl, (by rw [hQe]; show ¬ (R.1 = 0 ∧ R.2.1 = en); omega)⟩), (by rw [hQe]; show _ = R.2.1; first | (rw [qg11_2b]; done) | (rw [qg11_2b]; omega)), rfl, rfl, rfl, (fun k hk => by rw [hv1, xu_c _ _ _ _ hk]), (fun j hj => by rw [hv1, xu_n _ _ _ _ (by omega)]), fun k hk => frvig11 k hk⟩)
  exact LP38 11 10 1 0 99 [] [] [] v8 (by omega) (by omega) (by decide) hQ.symm rfl trivial rfl (by simp) (by simp) (by simp) (by rw [hv8_26_2]) hv8_26_1 (by rw [hv8_26_5]; rfl) (by rw [hv8_26_7]; rfl) (by rw [hv8_26_8]) (fun j hj => absurd hj (by simp)) frv8 (by omega)
