theorem tix_neg (i : Nat) (hi : i < 8) : tix (-1) (xw_byt.getD i []) 0 = -1 := by
  have : ∀ i, i < 8 → tix (-1) (xw_byt.getD i []) 0 = -1 := by decide
  exact this i hi
theorem tix_dig (c : Int) : tix c [48, 49, 50, 51, 52, 53, 54, 55, 56, 57] 0 = if 48 ≤ c ∧ c ≤ 57 then c - 48 else -1 := by
  simp only [tix]
  (repeat' split) <;> omega
theorem trc_of {a b v : Int} (ha : 0 ≤ a ∧ a ≤ 5) (hb : 0 ≤ b ∧ b ≤ 2) (hv : 0 ≤ v ∧ v ≤ 99) : trc (a + 8 * b + 32 * v) = (a * 3 + b) * 100 + v := by
  have e1 : (a + 8 * b + 32 * v) % 8 = a := by omega
  have e2 : (a + 8 * b + 32 * v) / 8 % 4 = b := by omega
  have e3 : (a + 8 * b + 32 * v) / 32 = v := by omega
  unfold trc
  rw [if_neg (by omega), e1, e2, e3]
/-- what lies in the code -/
def cdR (f : Int → Int) (L : List Int) : Prop := ∀ j : Nat, j < L.length → f (j : Int) = trc (L.getD j 0)
theorem cdR_push {f : Int → Int} {L : List Int} {x z v : Int} (h : cdR f L) (hz : z = (L.length : Int)) (hv : v = trc x) : cdR (fu f z v) (L ++ [x]) := by
  subst hz hv
  intro j hj
  rw [List.length_append] at hj
  simp only [List.length_singleton] at hj
  by_cases e : j = L.length
  · subst e; rw [fu_s]; simp
  · have hj2 : j < L.length := by omega
    rw [fu_n _ _ _ (by omega), h j hj2]
    simp [List.getD, List.getElem?_append, hj2]
set_option maxHeartbeats 4000000 in
set_option maxRecDepth 100000 in
theorem kX5_take (G : xg_T) (d : Nat) (n : Nat) (tau : Nat → Nat × Nat) (vi vl : Nat → Int → Int) (vr : Nat → Int → Option Nat) (hO : xo n tau vr) (h u : Int → Int) (en sp : Int) (h2 : vi 26 2 = sp) (h1 : vi 26 1 = en) (hr0 : vr 26 0 = some 2) (hen : pH h u en) (htp : ∀ z, 0 ≤ z → z < en → vi 2 z = h z ∧ 0 ≤ h z) (hsp : 0 ≤ sp ∧ sp ≤ en) (c : Int) (hc : 0 ≤ c ∧ c ≤ 127) : xm G yX5_take cX5_take 2 (some .boolean) (d + 1) 0 0 [xa_r 26, xa_i c] n tau vi vl vr (xp_i (fun z9 n1 t1 a1 b1 c1 => ((z9 = 1 ∧ h sp = c) ∨ (z9 = 0 ∧ ¬ h sp = c)) ∧ (a1 26 2 = sp + z9) ∧ (a1 26 1 = en) ∧ (a1 26 5 = vi 26 5) ∧ (a1 26 7 = vi 26 7) ∧ (a1 26 8 = vi 26 8) ∧ xs_I (fun k => ¬ k = 26) n tau vi vl vr n1 t1 a1 b1 c1)) := by
  refine xm.of (lv := [(0, xa_r 26), (1, xa_i c)]) (by decide) (Nat.le_of_ble_eq_true rfl) rfl (fun K hC hM hRm => ?_)
  have he := hen.1
  have hh := hen.2
  have hhs := hh sp
  refine vx_aload_n hC 0 rfl eX5_take_0 ?_
  refine vx_gr hC 0 (ot_26 hO) lf_X5_21 rfl hr0 eX5_take_1 ?_
  refine vx_ifnull hC (tgt := 31) (by decide) eX5_take_4 (fun h => by cases h) (fun _ _ => ?_)
  refine vx_aload_n hC 0 rfl eX5_take_7 ?_
  refine vx_gi hC 2 (ot_26 hO) lf_X5_35 rfl eX5_take_8 ?_
  refine vx_eqi h2 ?_
  refine vx_aload_n hC 0 rfl eX5_take_11 ?_
  refine vx_gi hC 1 (ot_26 hO) lf_X5_31 rfl eX5_take_12 ?_
  refine vx_eqi h1 ?_
  refine vx_icmp_ge hC (tgt := 31) (by omega) (by decide) eX5_take_15 (fun c1 => ?_) (fun c1 => ?_)
  · refine vx_iconst hC eX5_take_31 ?_
    exact vx_iret hC hM (by decide) eX5_take_32 (⟨_, rfl, (by omega), (by rw [h2]; omega), h1, rfl, rfl, rfl, rfl, rfl, rfl, rfl, fun k hk => rfl⟩)
  · refine vx_aload_n hC 0 rfl eX5_take_18 ?_
    refine vx_gr hC 0 (ot_26 hO) lf_X5_21 rfl hr0 eX5_take_19 ?_
    refine vx_aload_n hC 0 rfl eX5_take_22 ?_
    refine vx_gi hC 2 (ot_26 hO) lf_X5_35 rfl eX5_take_23 ?_
    refine vx_eqi h2 ?_
    refine vx_baload hC (ot_2 hO) (by omega) (by omega) eX5_take_26 ?_
    refine vx_eqi (htp sp (by omega) (by omega)).1 ?_
    refine vx_iload_n hC 1 rfl eX5_take_27 ?_
    refine vx_icmp_eq hC (tgt := 33) (by omega) (by decide) eX5_take_28 (fun c2 => ?_) (fun c2 => ?_)
    · refine vx_aload_n hC 0 rfl eX5_take_33 ?_
      refine vx_dup hC rfl eX5_take_34 ?_
      refine vx_gi hC 2 (ot_26 hO) lf_X5_35 rfl eX5_take_35 ?_
      refine vx_eqi h2 ?_
      refine vx_iconst hC eX5_take_38 ?_
      refine vx_iadd hC eX5_take_39 ?_
      refine vx_top (fun x3 hx3 => ?_)
      refine vx_pi hC 2 (ot_26 hO) lp_X5_35 rfl (Or.inl rfl) (Or.inl rfl) eX5_take_40 ?_
      refine vx_vi (fun v4 hv4 => ?_)
      have hv4_26_2 : v4 26 2 = x3 := by rw [hv4, xu_k, fu_s]
      have hv4_26_1 : v4 26 1 = en := by rw [hv4, xu_k, fu_n _ _ _ (by decide), h1]
      have hv4_26_5 : v4 26 5 = vi 26 5 := by rw [hv4, xu_k, fu_n _ _ _ (by decide)]
      have hv4_26_7 : v4 26 7 = vi 26 7 := by rw [hv4, xu_k, fu_n _ _ _ (by decide)]
      have hv4_26_8 : v4 26 8 = vi 26 8 := by rw [hv4, xu_k, fu_n _ _ _ (by decide)]
      have frv4 : ∀ k : Nat, (¬ k = 26) → v4 k = vi k := fun k hk => by rw [hv4, xu_c _ _ _ _ (by omega)]
      refine vx_iconst hC eX5_take_43 ?_
      exact vx_iret hC hM (by decide) eX5_take_44 (⟨_, rfl, (by omega), (by rw [hv4_26_2]; omega), hv4_26_1, hv4_26_5, hv4_26_7, hv4_26_8, rfl, rfl, rfl, rfl, fun k hk => frv4 k hk⟩)
    · refine vx_iconst hC eX5_take_31 ?_
      exact vx_iret hC hM (by decide) eX5_take_32 (⟨_, rfl, (by omega), (by rw [h2]; omega), h1, rfl, rfl, rfl, rfl, rfl, rfl, rfl, fun k hk => rfl⟩)
set_option maxHeartbeats 4000000 in
set_option maxRecDepth 100000 in
theorem kX5_takeAll (G : xg_T) (d : Nat) (n : Nat) (tau : Nat → Nat × Nat) (vi vl : Nat → Int → Int) (vr : Nat → Int → Option Nat) (hO : xo n tau vr) (h u : Int → Int) (en sp : Int) (h2 : vi 26 2 = sp) (h1 : vi 26 1 = en) (hr0 : vr 26 0 = some 2) (hen : pH h u en) (htp : ∀ z, 0 ≤ z → z < en → vi 2 z = h z ∧ 0 ≤ h z) (hsp : 0 ≤ sp ∧ sp ≤ en) (i : Nat) (hi : i < 8) : xm G yX5_takeAll cX5_takeAll 3 (some .boolean) (d + 5) 0 0 [xa_r 26, xa_r (1000002 + i)] n tau vi vl vr (xp_i (fun z9 n1 t1 a1 b1 c1 => (z9 = 1 - (pLt h (xw_byt.getD i []) 0 sp).1) ∧ (a1 26 2 = (pLt h (xw_byt.getD i []) 0 sp).2) ∧ (a1 26 1 = en) ∧ (a1 26 5 = vi 26 5) ∧ (a1 26 7 = vi 26 7) ∧ (a1 26 8 = vi 26 8) ∧ xs_I (fun k => ¬ k = 26) n tau vi vl vr n1 t1 a1 b1 c1)) := by
  refine xm.of (lv := [(0, xa_r 26), (1, xa_r (1000002 + i))]) (by decide) (Nat.le_of_ble_eq_true rfl) rfl (fun K hC hM hRm => ?_)
  have he := hen.1
  have hh := hen.2
  have hhs := hh sp
  have h10 := tb_l10 i hi
  refine vx_iconst hC eX5_takeAll_0 ?_
  refine vx_istore_n hC (lv1 := [(2, xa_i 0), (0, xa_r 26), (1, xa_r (1000002 + i))]) (by decide) rfl eX5_takeAll_1 ?_
  have LP2 : ∀ (j : Nat) (kk : Int) (sp1 : Int) (m2 : Nat → Int → Int) (hkk : 0 ≤ kk ∧ kk ≤ ((xw_byt.getD i []).length : Int)) (hs1 : sp ≤ sp1 ∧ sp1 ≤ en) (hres : pLt h ((xw_byt.getD i []).drop kk.toNat) 0 sp1 = pLt h (xw_byt.getD i []) 0 sp) (e2 : m2 26 2 = sp1) (e1 : m2 26 1 = en) (e5 : m2 26 5 = vi 26 5) (e7 : m2 26 7 = vi 26 7) (e8 : m2 26 8 = vi 26 8) (fi : ∀ k : Nat, (¬ k = 26) → m2 k = vi k) (hj : ((xw_byt.getD i []).length : Int) - kk < (j : Int)), xv G K 3 (xk_Q G K (xp_i (fun z9 n1 t1 a1 b1 c1 => (z9 = 1 - (pLt h (xw_byt.getD i []) 0 sp).1) ∧ (a1 26 2 = (pLt h (xw_byt.getD i []) 0 sp).2) ∧ (a1 26 1 = en) ∧ (a1 26 5 = vi 26 5) ∧ (a1 26 7 = vi 26 7) ∧ (a1 26 8 = vi 26 8) ∧ xs_I (fun k => ¬ k = 26) n tau vi vl vr n1 t1 a1 b1 c1)) 0 0) 0 0 n tau m2 vl vr 2 [(2, xa_i kk), (0, xa_r 26), (1, xa_r (1000002 + i))] [] := by
    intro j
    induction j with
    | zero => intro kk sp1 m2 hkk hs1 hres e2 e1 e5 e7 e8 fi hj; exfalso; omega
    | succ j ih =>
      intro kk sp1 m2 hkk hs1 hres e2 e1 e5 e7 e8 fi hj
      refine vx_iload_n hC 0 rfl eX5_takeAll_2 ?_
      refine vx_aload_n hC 2 rfl eX5_takeAll_3 ?_
      refine vx_callX_i hC (kJ0_length_8abf5 G (d + 2) _ _ _ _ _ _ hi) ly_X5_66 hi rfl rfl hRm (by omega) (Nat.le_of_ble_eq_true rfl) rfl eX5_takeAll_4 (fun x1 n9 t9 a9 b9 c9 hx1 => ?_)
      obtain ⟨hx1, rfl, rfl, rfl, rfl, rfl⟩ := hx1
      refine vx_icmp_ge hC (tgt := 30) (by omega) (by decide) eX5_takeAll_7 (fun c2 => ?_) (fun c2 => ?_)
      · have hdn : pLt h (xw_byt.getD i []) 0 sp = (0, sp1) := by rw [← hres, pLt_end (by omega)]
        refine vx_iconst hC eX5_takeAll_30 ?_
        exact vx_iret hC hM (by decide) eX5_takeAll_31 (⟨_, rfl, (by rw [hdn]; omega), (by first | (rw [hdn, e2]; done) | (rw [hdn, e2]; show _ = sp1; omega)), e1, e5, e7, e8, rfl, rfl, rfl, rfl, fun k hk => fi k hk⟩)
      · have hb := tb_b i hi kk.toNat (by omega)
        refine vx_aload_n hC 1 rfl eX5_takeAll_10 ?_
        refine vx_aload_n hC 2 rfl eX5_takeAll_11 ?_
        refine vx_iload_n hC 0 rfl eX5_takeAll_12 ?_
        refine vx_callX_i hC (kJ0_charAt_5068e G d _ _ _ _ _ _ hi kk (by omega)) ly_X5_72 hi rfl rfl hRm (by omega) (Nat.le_of_ble_eq_true rfl) rfl eX5_takeAll_13 (fun x3 n9 t9 a9 b9 c9 hx3 => ?_)
        obtain ⟨hx3, rfl, rfl, rfl, rfl, rfl⟩ := hx3
        refine vx_callV_i hC (kX5_take G (d + 3) _ _ _ _ _ hO h u en sp1 e2 e1 hr0 hen (fun z z1 z2 => by rw [fi 2 (by omega)]; exact htp z z1 z2) (by omega) x3 (by omega)) ly_X5_51 (ot_26 hO) rfl rfl rfl hRm (by omega) (Nat.le_of_ble_eq_true rfl) rfl eX5_takeAll_16 (fun x4 ng5 tg5 ag5 bg5 cg5 hg5 => ?_)
        obtain ⟨hx4, qg5_0, qg5_1, qg5_2, qg5_3, qg5_4, rfl, rfl, rfl, rfl, frg5⟩ := hg5
        have qg5_0b : ag5 26 2 = sp1 + x4 := by first | exact qg5_0 | rw [qg5_0, e2] | (rw [qg5_0]; exact e2)
        have qg5_1b : ag5 26 1 = en := by first | exact qg5_1 | rw [qg5_1, e1] | (rw [qg5_1]; exact e1)
        have qg5_2b : ag5 26 5 = vi 26 5 := by first | exact qg5_2 | rw [qg5_2, e5] | (rw [qg5_2]; exact e5)
        have qg5_3b : ag5 26 7 = vi 26 7 := by first | exact qg5_3 | rw [qg5_3, e7] | (rw [qg5_3]; exact e7)
        have qg5_4b : ag5 26 8 = vi 26 8 := by first | exact qg5_4 | rw [qg5_4, e8] | (rw [qg5_4]; exact e8)
        have frvig5 : ∀ k : Nat, (¬ k = 26) → ag5 k = vi k := fun k hk => (frg5 k (by omega)).trans (fi k hk)
        obtain ⟨sp6, hsp6⟩ : ∃ z : Int, z = sp1 + x4 := ⟨_, rfl⟩
        have esp6 : ag5 26 2 = sp6 := by rw [hsp6]; exact qg5_0b
        have hbsp6 := hh sp1
        refine vx_if_ne hC (tgt := 24) (by omega) (by decide) eX5_takeAll_19 (fun c7 => ?_) (fun c7 => ?_)
        · have hby9 : pMw h ((xw_byt.getD i []).getD kk.toNat 0) 0 sp1 = 0 := by unfold pMw; rw [if_pos ⟨rfl, by omega⟩]
          have hby8 : pMs h ((xw_byt.getD i []).getD kk.toNat 0) 0 sp1 = sp6 := by unfold pMs; rw [if_pos ⟨rfl, by omega⟩]; omega
          refine vx_iinc hC (lv1 := [(2, xa_i (kk + 1)), (0, xa_r 26), (1, xa_r (1000002 + i))]) 0 rfl (by decide) rfl eX5_takeAll_24 ?_
          refine vx_goto hC (tgt := 2) (by decide) eX5_takeAll_27 ?_
          exact ih (kk + 1) sp6 ag5 (by omega) (by omega) (by rw [← hres, pLt_step (L := xw_byt.getD i []) (j := kk.toNat) (by omega), show (kk + 1).toNat = kk.toNat + 1 by omega, hby9, hby8]) esp6 qg5_1b qg5_2b qg5_3b qg5_4b frvig5 (by omega)
        · have hdn : pLt h (xw_byt.getD i []) 0 sp = (1, sp1) := by rw [← hres, pLt_step (L := xw_byt.getD i []) (j := kk.toNat) (by omega)]; rw [show pMw h ((xw_byt.getD i []).getD kk.toNat 0) 0 sp1 = 1 by unfold pMw; rw [if_neg (by omega)], show pMs h ((xw_byt.getD i []).getD kk.toNat 0) 0 sp1 = sp1 by unfold pMs; rw [if_neg (by omega)]]; exact (pLt_r hen _ 1 sp1 (fun y hy => tb_nn i hi y (List.mem_of_mem_drop hy)) (Or.inr rfl) (by omega)).2.2.2 rfl
          refine vx_iconst hC eX5_takeAll_22 ?_
          exact vx_iret hC hM (by decide) eX5_takeAll_23 (⟨_, rfl, (by rw [hdn]; omega), (by first | (rw [hdn, esp6]; done) | (rw [hdn, esp6]; show _ = sp1; omega)), qg5_1b, qg5_2b, qg5_3b, qg5_4b, rfl, rfl, rfl, rfl, fun k hk => frvig5 k hk⟩)
  exact LP2 11 0 sp vi (by omega) (by omega) rfl h2 h1 rfl rfl rfl (fun _ _ => rfl) (by omega)
set_option maxHeartbeats 4000000 in
set_option maxRecDepth 100000 in
theorem kX5_takeOneOf (G : xg_T) (d : Nat) (n : Nat) (tau : Nat → Nat × Nat) (vi vl : Nat → Int → Int) (vr : Nat → Int → Option Nat) (hO : xo n tau vr) (h u : Int → Int) (en sp : Int) (h2 : vi 26 2 = sp) (h1 : vi 26 1 = en) (hr0 : vr 26 0 = some 2) (hen : pH h u en) (htp : ∀ z, 0 ≤ z → z < en → vi 2 z = h z ∧ 0 ≤ h z) (hsp : 0 ≤ sp ∧ sp ≤ en) (i : Nat) (hi : i < 8) : xm G yX5_takeOneOf cX5_takeOneOf 3 (some .int) (d + 5) 0 0 [xa_r 26, xa_r (1000002 + i)] n tau vi vl vr (xp_i (fun z9 n1 t1 a1 b1 c1 => (z9 = tix (h sp) (xw_byt.getD i []) 0) ∧ (a1 26 2 = (if tix (h sp) (xw_byt.getD i []) 0 = -1 then sp else sp + 1)) ∧ (a1 26 1 = en) ∧ (a1 26 5 = vi 26 5) ∧ (a1 26 7 = vi 26 7) ∧ (a1 26 8 = vi 26 8) ∧ xs_I (fun k => ¬ k = 26) n tau vi vl vr n1 t1 a1 b1 c1)) := by
  refine xm.of (lv := [(0, xa_r 26), (1, xa_r (1000002 + i))]) (by decide) (Nat.le_of_ble_eq_true rfl) rfl (fun K hC hM hRm => ?_)
  have he := hen.1
  have hh := hen.2
  have hhs := hh sp
  have htr := tix_r (h sp) (xw_byt.getD i []) 0 (by omega)
  have h10 := tb_l10 i hi
  have htn := tix_neg i hi
  refine vx_aload_n hC 0 rfl eX5_takeOneOf_0 ?_
  refine vx_gr hC 0 (ot_26 hO) lf_X5_21 rfl hr0 eX5_takeOneOf_1 ?_
  refine vx_ifnull hC (tgt := 18) (by decide) eX5_takeOneOf_4 (fun h => by cases h) (fun _ _ => ?_)
  refine vx_aload_n hC 0 rfl eX5_takeOneOf_7 ?_
  refine vx_gi hC 2 (ot_26 hO) lf_X5_35 rfl eX5_takeOneOf_8 ?_
  refine vx_eqi h2 ?_
  refine vx_aload_n hC 0 rfl eX5_takeOneOf_11 ?_
  refine vx_gi hC 1 (ot_26 hO) lf_X5_31 rfl eX5_takeOneOf_12 ?_
  refine vx_eqi h1 ?_
  refine vx_icmp_lt hC (tgt := 22) (by omega) (by decide) eX5_takeOneOf_15 (fun c1 => ?_) (fun c1 => ?_)
  · refine vx_aload_n hC 1 rfl eX5_takeOneOf_22 ?_
    refine vx_aload_n hC 0 rfl eX5_takeOneOf_23 ?_
    refine vx_gr hC 0 (ot_26 hO) lf_X5_21 rfl hr0 eX5_takeOneOf_24 ?_
    refine vx_aload_n hC 0 rfl eX5_takeOneOf_27 ?_
    refine vx_gi hC 2 (ot_26 hO) lf_X5_35 rfl eX5_takeOneOf_28 ?_
    refine vx_eqi h2 ?_
    refine vx_baload hC (ot_2 hO) (by omega) (by omega) eX5_takeOneOf_31 ?_
    refine vx_eqi (htp sp (by omega) (by omega)).1 ?_
    have hnn := (htp sp (by omega) (by omega)).2
    refine vx_i2c hC (by omega) eX5_takeOneOf_32 ?_
    refine vx_callX_i hC (kJ0_indexOf_0f7a4 G d _ _ _ _ _ _ hi _ (by omega)) ly_X5_76 hi rfl rfl hRm (by omega) (Nat.le_of_ble_eq_true rfl) rfl eX5_takeOneOf_33 (fun x2 n9 t9 a9 b9 c9 hx2 => ?_)
    obtain ⟨hx2, rfl, rfl, rfl, rfl, rfl⟩ := hx2
    refine vx_istore_n hC (lv1 := [(2, xa_i x2), (0, xa_r 26), (1, xa_r (1000002 + i))]) (by decide) rfl eX5_takeOneOf_36 ?_
    have hfd : x2 = tix (h sp) (xw_byt.getD i []) 0 := by first | (simp only [hx2]; done) | (rw [hhs.1 (by omega), htn])
    refine vx_iload_n hC 0 rfl eX5_takeOneOf_37 ?_
    refine vx_if_lt hC (tgt := 51) (by omega) (by decide) eX5_takeOneOf_38 (fun c3 => ?_) (fun c3 => ?_)
    · refine vx_iload_n hC 0 rfl eX5_takeOneOf_51 ?_
      exact vx_iret hC hM rfl eX5_takeOneOf_52 (⟨_, rfl, (by exact hfd), (by rw [h2]; split <;> omega), h1, rfl, rfl, rfl, rfl, rfl, rfl, rfl, fun k hk => rfl⟩)
    · refine vx_aload_n hC 1 rfl eX5_takeOneOf_41 ?_
      refine vx_dup hC rfl eX5_takeOneOf_42 ?_
      refine vx_gi hC 2 (ot_26 hO) lf_X5_35 rfl eX5_takeOneOf_43 ?_
      refine vx_eqi h2 ?_
      refine vx_iconst hC eX5_takeOneOf_46 ?_
      refine vx_iadd hC eX5_takeOneOf_47 ?_
      refine vx_top (fun x4 hx4 => ?_)
      refine vx_pi hC 2 (ot_26 hO) lp_X5_35 rfl (Or.inl rfl) (Or.inl rfl) eX5_takeOneOf_48 ?_
      refine vx_vi (fun v5 hv5 => ?_)
      have hv5_26_2 : v5 26 2 = x4 := by rw [hv5, xu_k, fu_s]
      have hv5_26_1 : v5 26 1 = en := by rw [hv5, xu_k, fu_n _ _ _ (by decide), h1]
      have hv5_26_5 : v5 26 5 = vi 26 5 := by rw [hv5, xu_k, fu_n _ _ _ (by decide)]
      have hv5_26_7 : v5 26 7 = vi 26 7 := by rw [hv5, xu_k, fu_n _ _ _ (by decide)]
      have hv5_26_8 : v5 26 8 = vi 26 8 := by rw [hv5, xu_k, fu_n _ _ _ (by decide)]
      have frv5 : ∀ k : Nat, (¬ k = 26) → v5 k = vi k := fun k hk => by rw [hv5, xu_c _ _ _ _ (by omega)]
      refine vx_iload_n hC 0 rfl eX5_takeOneOf_51 ?_
      exact vx_iret hC hM rfl eX5_takeOneOf_52 (⟨_, rfl, (by exact hfd), (by rw [hv5_26_2]; split <;> omega), hv5_26_1, hv5_26_5, hv5_26_7, hv5_26_8, rfl, rfl, rfl, rfl, fun k hk => frv5 k hk⟩)
  · refine vx_iconst hC eX5_takeOneOf_18 ?_
    refine vx_goto hC (tgt := 36) (by decide) eX5_takeOneOf_19 ?_
    refine vx_istore_n hC (lv1 := [(2, xa_i (-1)), (0, xa_r 26), (1, xa_r (1000002 + i))]) (by decide) rfl eX5_takeOneOf_36 ?_
    have hfd : (-1 : Int) = tix (h sp) (xw_byt.getD i []) 0 := by rw [hhs.1 (by omega), htn]
    refine vx_iload_n hC 0 rfl eX5_takeOneOf_37 ?_
    refine vx_if_lt hC (tgt := 51) (by omega) (by decide) eX5_takeOneOf_38 (fun c6 => ?_) (fun c6 => absurd c6 (by omega))
    refine vx_iload_n hC 0 rfl eX5_takeOneOf_51 ?_
    exact vx_iret hC hM rfl eX5_takeOneOf_52 (⟨_, rfl, (by exact hfd), (by rw [h2]; split <;> omega), h1, rfl, rfl, rfl, rfl, rfl, rfl, rfl, fun k hk => rfl⟩)
set_option maxHeartbeats 4000000 in
set_option maxRecDepth 100000 in
theorem kX5_readNumber (G : xg_T) (d : Nat) (n : Nat) (tau : Nat → Nat × Nat) (vi vl : Nat → Int → Int) (vr : Nat → Int → Option Nat) (hO : xo n tau vr) (h u : Int → Int) (en sp : Int) (h2 : vi 26 2 = sp) (h1 : vi 26 1 = en) (hr0 : vr 26 0 = some 2) (hen : pH h u en) (htp : ∀ z, 0 ≤ z → z < en → vi 2 z = h z ∧ 0 ≤ h z) (hsp : 0 ≤ sp ∧ sp ≤ en)  : xm G yX5_readNumber cX5_readNumber 3 (some .int) (d + 6) 0 0 [xa_r 26] n tau vi vl vr (xp_i (fun z9 n1 t1 a1 b1 c1 => (z9 = (if pNw h 0 sp = 0 then pNv h 0 sp else -1)) ∧ (a1 26 2 = (pNs h 0 sp)) ∧ (a1 26 1 = en) ∧ (a1 26 5 = vi 26 5) ∧ (a1 26 7 = vi 26 7) ∧ (a1 26 8 = vi 26 8) ∧ xs_I (fun k => ¬ k = 26) n tau vi vl vr n1 t1 a1 b1 c1)) := by
  refine xm.of (lv := [(0, xa_r 26)]) (by decide) (Nat.le_of_ble_eq_true rfl) rfl (fun K hC hM hRm => ?_)
  have he := hen.1
  have hh := hen.2
  have hhs := hh sp
  have hhs1 := hh (sp + 1)
  refine vx_aload_n hC 0 rfl eX5_readNumber_0 ?_
  refine vx_ldcs hC (i := 3) (tx := "0123456789") (by decide) eX5_readNumber_1 ?_
  refine vx_callV_i hC (kX5_takeOneOf G d _ _ _ _ _ hO h u en sp h2 h1 hr0 hen htp (by omega) 3 (by decide)) ly_X5_82 (ot_26 hO) rfl rfl rfl hRm (by omega) (Nat.le_of_ble_eq_true rfl) rfl eX5_readNumber_3 (fun x1 ng2 tg2 ag2 bg2 cg2 hg2 => ?_)
  obtain ⟨hx1, qg2_0, qg2_1, qg2_2, qg2_3, qg2_4, rfl, rfl, rfl, rfl, frg2⟩ := hg2
  have qg2_0b : ag2 26 2 = (if tix (h sp) (xw_byt.getD 3 []) 0 = -1 then sp else sp + 1) := by first | exact qg2_0 | rw [qg2_0, h2] | (rw [qg2_0]; exact h2)
  have qg2_1b : ag2 26 1 = en := by first | exact qg2_1 | rw [qg2_1, h1] | (rw [qg2_1]; exact h1)
  have frvig2 : ∀ k : Nat, (¬ k = 26) → ag2 k = vi k := fun k hk => (frg2 k (by omega))
  obtain ⟨sp3, hsp3⟩ : ∃ z : Int, z = (if tix (h sp) (xw_byt.getD 3 []) 0 = -1 then sp else sp + 1) := ⟨_, rfl⟩
  have esp3 : ag2 26 2 = sp3 := by rw [hsp3]; exact qg2_0b
  have hbsp3 := hh sp
  have hrx1 := tix_r (h sp) (xw_byt.getD 3 []) 0 (by omega)
  have hgx1 := tix_neg 3 (by decide)
  rw [← hx1] at hrx1 hsp3
  have hlx1 : ((xw_byt.getD 3 []).length : Int) = 10 := rfl
  have hix1 : h sp = -1 → x1 = -1 := fun e9 => by rw [hx1, e9]; exact hgx1
  have hdx1 : x1 = if 48 ≤ h sp ∧ h sp ≤ 57 then h sp - 48 else -1 := by rw [hx1]; exact tix_dig (h sp)
  refine vx_istore_n hC (lv1 := [(1, xa_i x1), (0, xa_r 26)]) (by decide) rfl eX5_readNumber_6 ?_
  refine vx_iload_n hC 0 rfl eX5_readNumber_7 ?_
  refine vx_if_gt hC (tgt := 13) (by omega) (by decide) eX5_readNumber_8 (fun c4 => ?_) (fun c4 => ?_)
  · have hs1 : sp3 = sp + 1 := by rw [hsp3]; split <;> omega
    have e1b : ag2 26 2 = sp + 1 := by rw [← hs1]; exact esp3
    refine vx_aload_n hC 1 rfl eX5_readNumber_13 ?_
    refine vx_ldcs hC (i := 3) (tx := "0123456789") (by decide) eX5_readNumber_14 ?_
    refine vx_callV_i hC (kX5_takeOneOf G d _ _ _ _ _ hO h u en (sp + 1) e1b qg2_1b hr0 hen (fun z z1 z2 => by rw [frvig2 2 (by omega)]; exact htp z z1 z2) (by omega) 3 (by decide)) ly_X5_82 (ot_26 hO) rfl rfl rfl hRm (by omega) (Nat.le_of_ble_eq_true rfl) rfl eX5_readNumber_16 (fun x5 ng6 tg6 ag6 bg6 cg6 hg6 => ?_)
    obtain ⟨hx5, qg6_0, qg6_1, qg6_2, qg6_3, qg6_4, rfl, rfl, rfl, rfl, frg6⟩ := hg6
    have qg6_0b : ag6 26 2 = (if tix (h (sp + 1)) (xw_byt.getD 3 []) 0 = -1 then (sp + 1) else (sp + 1) + 1) := by first | exact qg6_0 | rw [qg6_0, e1b] | (rw [qg6_0]; exact e1b)
    have qg6_1b : ag6 26 1 = en := by first | exact qg6_1 | rw [qg6_1, qg2_1b] | (rw [qg6_1]; exact qg2_1b)
    have qg6_2b : ag6 26 5 = vi 26 5 := by first | exact qg6_2 | rw [qg6_2, qg2_2] | (rw [qg6_2]; exact qg2_2)
    have qg6_3b : ag6 26 7 = vi 26 7 := by first | exact qg6_3 | rw [qg6_3, qg2_3] | (rw [qg6_3]; exact qg2_3)
    have qg6_4b : ag6 26 8 = vi 26 8 := by first | exact qg6_4 | rw [qg6_4, qg2_4] | (rw [qg6_4]; exact qg2_4)
    have frvig6 : ∀ k : Nat, (¬ k = 26) → ag6 k = vi k := fun k hk => (frg6 k (by omega)).trans (frvig2 k hk)
    obtain ⟨sp7, hsp7⟩ : ∃ z : Int, z = (if tix (h (sp + 1)) (xw_byt.getD 3 []) 0 = -1 then (sp + 1) else (sp + 1) + 1) := ⟨_, rfl⟩
    have esp7 : ag6 26 2 = sp7 := by rw [hsp7]; exact qg6_0b
    have hbsp7 := hh (sp + 1)
    have hrx5 := tix_r (h (sp + 1)) (xw_byt.getD 3 []) 0 (by omega)
    have hgx5 := tix_neg 3 (by decide)
    rw [← hx5] at hrx5 hsp7
    have hlx5 : ((xw_byt.getD 3 []).length : Int) = 10 := rfl
    have hix5 : h (sp + 1) = -1 → x5 = -1 := fun e9 => by rw [hx5, e9]; exact hgx5
    have hdx5 : x5 = if 48 ≤ h (sp + 1) ∧ h (sp + 1) ≤ 57 then h (sp + 1) - 48 else -1 := by rw [hx5]; exact tix_dig (h (sp + 1))
    refine vx_istore_n hC (lv1 := [(2, xa_i x5), (1, xa_i x1), (0, xa_r 26)]) (by decide) rfl eX5_readNumber_19 ?_
    refine vx_iload_n hC 0 rfl eX5_readNumber_20 ?_
    refine vx_if_ge hC (tgt := 28) (by omega) (by decide) eX5_readNumber_21 (fun c8 => ?_) (fun c8 => ?_)
    · refine vx_iload_n hC 1 rfl eX5_readNumber_28 ?_
      refine vx_bipush hC (by decide) eX5_readNumber_29 ?_
      refine vx_imul hC eX5_readNumber_31 ?_
      refine vx_iload_n hC 0 rfl eX5_readNumber_32 ?_
      refine vx_iadd hC eX5_readNumber_33 ?_
      exact vx_iret hC hM rfl eX5_readNumber_34 (⟨_, rfl, (by unfold pNw pNv; (repeat' split) <;> omega), (by rw [esp7]; unfold pNs; (repeat' split) <;> omega), qg6_1b, qg6_2b, qg6_3b, qg6_4b, rfl, rfl, rfl, rfl, fun k hk => frvig6 k hk⟩)
    · refine vx_iload_n hC 1 rfl eX5_readNumber_24 ?_
      refine vx_goto hC (tgt := 34) (by decide) eX5_readNumber_25 ?_
      exact vx_iret hC hM rfl eX5_readNumber_34 (⟨_, rfl, (by unfold pNw pNv; (repeat' split) <;> omega), (by rw [esp7]; unfold pNs; (repeat' split) <;> omega), qg6_1b, qg6_2b, qg6_3b, qg6_4b, rfl, rfl, rfl, rfl, fun k hk => frvig6 k hk⟩)
  · refine vx_iload_n hC 0 rfl eX5_readNumber_11 ?_
    exact vx_iret hC hM rfl eX5_readNumber_12 (⟨_, rfl, (by unfold pNw pNv; (repeat' split) <;> omega), (by rw [esp3]; unfold pNs; (repeat' split) <;> omega), qg2_1b, qg2_2, qg2_3, qg2_4, rfl, rfl, rfl, rfl, fun k hk => frvig2 k hk⟩)
set_option maxHeartbeats 4000000 in
set_option maxRecDepth 100000 in
theorem kX5_put (G : xg_T) (d : Nat) (n : Nat) (tau : Nat → Nat × Nat) (vi vl : Nat → Int → Int) (vr : Nat → Int → Option Nat) (hO : xo n tau vr) (L : List Int) (h7 : vi 26 7 = (L.length : Int)) (hcd : cdR (vi 29) L) (hl : L.length < 100) (x v : Int) (hv : v = trc x) : xm G yX5_put cX5_put 2 none (d + 1) 0 0 [xa_r 26, xa_i v] n tau vi vl vr (xp_v (fun n1 t1 a1 b1 c1 => (a1 26 7 = ((L ++ [x]).length : Int)) ∧ (cdR (a1 29) (L ++ [x])) ∧ (a1 26 2 = vi 26 2) ∧ (a1 26 1 = vi 26 1) ∧ (a1 26 5 = vi 26 5) ∧ (a1 26 8 = vi 26 8) ∧ xs_I (fun k => ¬ k = 26 ∧ ¬ k = 29) n tau vi vl vr n1 t1 a1 b1 c1)) := by
  refine xm.of (lv := [(0, xa_r 26), (1, xa_i v)]) (by decide) (Nat.le_of_ble_eq_true rfl) rfl (fun K hC hM hRm => ?_)
  refine vx_aload_n hC 0 rfl eX5_put_0 ?_
  refine vx_gi hC 7 (ot_26 hO) lf_X5_41 rfl eX5_put_1 ?_
  refine vx_eqi h7 ?_
  refine vx_bipush hC (by decide) eX5_put_4 ?_
  refine vx_icmp_ge hC (tgt := 29) (by omega) (by decide) eX5_put_6 (fun c1 => absurd c1 (by omega)) (fun c1 => ?_)
  refine vx_aload_n hC 0 rfl eX5_put_9 ?_
  refine vx_gr hC 6 (ot_26 hO) lf_X5_18 rfl (or_26_6 hO) eX5_put_10 ?_
  refine vx_aload_n hC 0 rfl eX5_put_13 ?_
  refine vx_gi hC 7 (ot_26 hO) lf_X5_41 rfl eX5_put_14 ?_
  refine vx_eqi h7 ?_
  refine vx_iload_n hC 1 rfl eX5_put_17 ?_
  refine vx_iastore hC (ot_29 hO) (by omega) (by omega) eX5_put_18 ?_
  refine vx_vi (fun v2 hv2 => ?_)
  have hv2_26_7 : v2 26 7 = (L.length : Int) := by rw [hv2, xu_c _ _ _ _ (by decide), h7]
  obtain ⟨f3, hf3⟩ : ∃ f, f = fu (vi 29) (L.length : Int) v := ⟨_, rfl⟩
  have hv2_29 : v2 29 = f3 := by rw [hv2, hf3, xu_k]
  have hv2_26_2 : v2 26 2 = vi 26 2 := by rw [hv2, xu_c _ _ _ _ (by decide)]
  have hv2_26_1 : v2 26 1 = vi 26 1 := by rw [hv2, xu_c _ _ _ _ (by decide)]
  have hv2_26_5 : v2 26 5 = vi 26 5 := by rw [hv2, xu_c _ _ _ _ (by decide)]
  have hv2_26_8 : v2 26 8 = vi 26 8 := by rw [hv2, xu_c _ _ _ _ (by decide)]
  have frv2 : ∀ k : Nat, (¬ k = 26 ∧ ¬ k = 29) → v2 k = vi k := fun k hk => by rw [hv2, xu_c _ _ _ _ (by omega)]
  refine vx_aload_n hC 0 rfl eX5_put_19 ?_
  refine vx_dup hC rfl eX5_put_20 ?_
  refine vx_gi hC 7 (ot_26 hO) lf_X5_41 rfl eX5_put_21 ?_
  refine vx_eqi hv2_26_7 ?_
  refine vx_iconst hC eX5_put_24 ?_
  refine vx_iadd hC eX5_put_25 ?_
  refine vx_top (fun x4 hx4 => ?_)
  refine vx_pi hC 7 (ot_26 hO) lp_X5_41 rfl (Or.inl rfl) (Or.inl rfl) eX5_put_26 ?_
  refine vx_vi (fun v5 hv5 => ?_)
  have hv5_26_7 : v5 26 7 = x4 := by rw [hv5, xu_k, fu_s]
  have hv5_29 : v5 29 = f3 := by rw [hv5, xu_c _ _ _ _ (by decide), hv2_29]
  have hv5_26_2 : v5 26 2 = vi 26 2 := by rw [hv5, xu_k, fu_n _ _ _ (by decide), hv2_26_2]
  have hv5_26_1 : v5 26 1 = vi 26 1 := by rw [hv5, xu_k, fu_n _ _ _ (by decide), hv2_26_1]
  have hv5_26_5 : v5 26 5 = vi 26 5 := by rw [hv5, xu_k, fu_n _ _ _ (by decide), hv2_26_5]
  have hv5_26_8 : v5 26 8 = vi 26 8 := by rw [hv5, xu_k, fu_n _ _ _ (by decide), hv2_26_8]
  have frv5 : ∀ k : Nat, (¬ k = 26 ∧ ¬ k = 29) → v5 k = vi k := fun k hk => by rw [hv5, xu_c _ _ _ _ (by omega)]; exact frv2 k hk
  exact vx_vret hC hM eX5_put_29 (⟨rfl, (by rw [hv5_26_7, List.length_append]; simp only [List.length_singleton]; omega), (by rw [hv5_29, hf3]; exact cdR_push hcd rfl hv), hv5_26_2, hv5_26_1, hv5_26_5, hv5_26_8, rfl, rfl, rfl, rfl, fun k hk => frv5 k hk⟩)
set_option maxHeartbeats 4000000 in
set_option maxRecDepth 100000 in
theorem kX5_readTest (G : xg_T) (d : Nat) (n : Nat) (tau : Nat → Nat × Nat) (vi vl : Nat → Int → Int) (vr : Nat → Int → Option Nat) (hO : xo n tau vr) (h u : Int → Int) (en sp : Int) (h2 : vi 26 2 = sp) (h1 : vi 26 1 = en) (hr0 : vr 26 0 = some 2) (hen : pH h u en) (htp : ∀ z, 0 ≤ z → z < en → vi 2 z = h z ∧ 0 ≤ h z) (hsp : 0 ≤ sp ∧ sp ≤ en) (L : List Int) (h7 : vi 26 7 = (L.length : Int)) (hcd : cdR (vi 29) L) (hL : (L.length : Int) ≤ sp)  : xm G yX5_readTest cX5_readTest 4 (some .boolean) (d + 7) 0 0 [xa_r 26] n tau vi vl vr (xp_i (fun z9 n1 t1 a1 b1 c1 => (z9 = (pTest h sp).1) ∧ (a1 26 7 = ((L ++ (pTest h sp).2.2).length : Int)) ∧ (cdR (a1 29) (L ++ (pTest h sp).2.2)) ∧ (a1 26 2 = (pTest h sp).2.1) ∧ (a1 26 1 = en) ∧ (a1 26 5 = vi 26 5) ∧ (a1 26 8 = vi 26 8) ∧ xs_I (fun k => ¬ k = 26 ∧ ¬ k = 29) n tau vi vl vr n1 t1 a1 b1 c1)) := by
  refine xm.of (lv := [(0, xa_r 26)]) (by decide) (Nat.le_of_ble_eq_true rfl) rfl (fun K hC hM hRm => ?_)
  have he := hen.1
  have hh := hen.2
  have hhs := hh sp
  have hhs1 := hh (sp + 1)
  refine vx_aload_n hC 0 rfl eX5_readTest_0 ?_
  refine vx_ldcs hC (i := 4) (tx := "nkpgsd") (by decide) eX5_readTest_1 ?_
  refine vx_callV_i hC (kX5_takeOneOf G (d + 1) _ _ _ _ _ hO h u en sp h2 h1 hr0 hen htp (by omega) 4 (by decide)) ly_X5_82 (ot_26 hO) rfl rfl rfl hRm (by omega) (Nat.le_of_ble_eq_true rfl) rfl eX5_readTest_3 (fun x1 ng2 tg2 ag2 bg2 cg2 hg2 => ?_)
  obtain ⟨hx1, qg2_0, qg2_1, qg2_2, qg2_3, qg2_4, rfl, rfl, rfl, rfl, frg2⟩ := hg2
  have qg2_0b : ag2 26 2 = (if tix (h sp) (xw_byt.getD 4 []) 0 = -1 then sp else sp + 1) := by first | exact qg2_0 | rw [qg2_0, h2] | (rw [qg2_0]; exact h2)
  have qg2_1b : ag2 26 1 = en := by first | exact qg2_1 | rw [qg2_1, h1] | (rw [qg2_1]; exact h1)
  have qg2_3b : ag2 26 7 = (L.length : Int) := by first | exact qg2_3 | rw [qg2_3, h7] | (rw [qg2_3]; exact h7)
  have frvig2 : ∀ k : Nat, (¬ k = 26 ∧ ¬ k = 29) → ag2 k = vi k := fun k hk => (frg2 k (by omega))
  obtain ⟨sp3, hsp3⟩ : ∃ z : Int, z = (if tix (h sp) (xw_byt.getD 4 []) 0 = -1 then sp else sp + 1) := ⟨_, rfl⟩
  have esp3 : ag2 26 2 = sp3 := by rw [hsp3]; exact qg2_0b
  have hbsp3 := hh sp
  have cd4 : cdR (ag2 29) L := by rw [frg2 29 (by omega)]; exact hcd
  have hrx1 := tix_r (h sp) (xw_byt.getD 4 []) 0 (by omega)
  have hgx1 := tix_neg 4 (by decide)
  rw [← hx1] at hrx1 hsp3
  have hlx1 : ((xw_byt.getD 4 []).length : Int) = 6 := rfl
  have hix1 : h sp = -1 → x1 = -1 := fun e9 => by rw [hx1, e9]; exact hgx1
  have hax1 : x1 = pA1 h sp := hx1
  have hqx1 := pA1_r h sp
  rw [← hax1] at hqx1
  refine vx_istore_n hC (lv1 := [(1, xa_i x1), (0, xa_r 26)]) (by decide) rfl eX5_readTest_6 ?_
  refine vx_iload_n hC 0 rfl eX5_readTest_7 ?_
  refine vx_if_ge hC (tgt := 13) (by omega) (by decide) eX5_readTest_8 (fun c5 => ?_) (fun c5 => ?_)
  · refine vx_aload_n hC 1 rfl eX5_readTest_13 ?_
    refine vx_ldcs hC (i := 5) (tx := "<=>") (by decide) eX5_readTest_14 ?_
    refine vx_callV_i hC (kX5_takeOneOf G (d + 1) _ _ _ _ _ hO h u en sp3 esp3 qg2_1b hr0 hen (fun z z1 z2 => by rw [frvig2 2 (by omega)]; exact htp z z1 z2) (by omega) 5 (by decide)) ly_X5_82 (ot_26 hO) rfl rfl rfl hRm (by omega) (Nat.le_of_ble_eq_true rfl) rfl eX5_readTest_16 (fun x6 ng7 tg7 ag7 bg7 cg7 hg7 => ?_)
    obtain ⟨hx6, qg7_0, qg7_1, qg7_2, qg7_3, qg7_4, rfl, rfl, rfl, rfl, frg7⟩ := hg7
    have qg7_0b : ag7 26 2 = (if tix (h sp3) (xw_byt.getD 5 []) 0 = -1 then sp3 else sp3 + 1) := by first | exact qg7_0 | rw [qg7_0, esp3] | (rw [qg7_0]; exact esp3)
    have qg7_1b : ag7 26 1 = en := by first | exact qg7_1 | rw [qg7_1, qg2_1b] | (rw [qg7_1]; exact qg2_1b)
    have qg7_2b : ag7 26 5 = vi 26 5 := by first | exact qg7_2 | rw [qg7_2, qg2_2] | (rw [qg7_2]; exact qg2_2)
    have qg7_3b : ag7 26 7 = (L.length : Int) := by first | exact qg7_3 | rw [qg7_3, qg2_3b] | (rw [qg7_3]; exact qg2_3b)
    have qg7_4b : ag7 26 8 = vi 26 8 := by first | exact qg7_4 | rw [qg7_4, qg2_4] | (rw [qg7_4]; exact qg2_4)
    have frvig7 : ∀ k : Nat, (¬ k = 26 ∧ ¬ k = 29) → ag7 k = vi k := fun k hk => (frg7 k (by omega)).trans (frvig2 k hk)
    obtain ⟨sp8, hsp8⟩ : ∃ z : Int, z = (if tix (h sp3) (xw_byt.getD 5 []) 0 = -1 then sp3 else sp3 + 1) := ⟨_, rfl⟩
    have esp8 : ag7 26 2 = sp8 := by rw [hsp8]; exact qg7_0b
    have hbsp8 := hh sp3
    have cd9 : cdR (ag7 29) L := by rw [frg7 29 (by omega)]; exact cd4
    have hrx6 := tix_r (h sp3) (xw_byt.getD 5 []) 0 (by omega)
    have hgx6 := tix_neg 5 (by decide)
    rw [← hx6] at hrx6 hsp8
    have hlx6 : ((xw_byt.getD 5 []).length : Int) = 3 := rfl
    have hix6 : h sp3 = -1 → x6 = -1 := fun e9 => by rw [hx6, e9]; exact hgx6
    have hax6 : x6 = pA2 h sp3 := hx6
    have hqx6 := pA2_r h sp3
    rw [← hax6] at hqx6
    refine vx_istore_n hC (lv1 := [(2, xa_i x6), (1, xa_i x1), (0, xa_r 26)]) (by decide) rfl eX5_readTest_19 ?_
    refine vx_iload_n hC 0 rfl eX5_readTest_20 ?_
    refine vx_if_ge hC (tgt := 26) (by omega) (by decide) eX5_readTest_21 (fun c10 => ?_) (fun c10 => ?_)
    · refine vx_aload_n hC 2 rfl eX5_readTest_26 ?_
      refine vx_callV_i hC (kX5_readNumber G d _ _ _ _ _ hO h u en sp8 esp8 qg7_1b hr0 hen (fun z z1 z2 => by rw [frvig7 2 (by omega)]; exact htp z z1 z2) (by omega)) ly_X5_89 (ot_26 hO) rfl rfl rfl hRm (by omega) (Nat.le_of_ble_eq_true rfl) rfl eX5_readTest_27 (fun x11 ng12 tg12 ag12 bg12 cg12 hg12 => ?_)
      obtain ⟨hx11, qg12_0, qg12_1, qg12_2, qg12_3, qg12_4, rfl, rfl, rfl, rfl, frg12⟩ := hg12
      have qg12_0b : ag12 26 2 = pNs h 0 sp8 := by first | exact qg12_0 | rw [qg12_0, esp8] | (rw [qg12_0]; exact esp8)
      have qg12_1b : ag12 26 1 = en := by first | exact qg12_1 | rw [qg12_1, qg7_1b] | (rw [qg12_1]; exact qg7_1b)
      have qg12_2b : ag12 26 5 = vi 26 5 := by first | exact qg12_2 | rw [qg12_2, qg7_2b] | (rw [qg12_2]; exact qg7_2b)
      have qg12_3b : ag12 26 7 = (L.length : Int) := by first | exact qg12_3 | rw [qg12_3, qg7_3b] | (rw [qg12_3]; exact qg7_3b)
      have qg12_4b : ag12 26 8 = vi 26 8 := by first | exact qg12_4 | rw [qg12_4, qg7_4b] | (rw [qg12_4]; exact qg7_4b)
      have frvig12 : ∀ k : Nat, (¬ k = 26 ∧ ¬ k = 29) → ag12 k = vi k := fun k hk => (frg12 k (by omega)).trans (frvig7 k hk)
      obtain ⟨sp13, hsp13⟩ : ∃ z : Int, z = pNs h 0 sp8 := ⟨_, rfl⟩
      have esp13 : ag12 26 2 = sp13 := by rw [hsp13]; exact qg12_0b
      have hbsp13 := hh sp8
      have cd14 : cdR (ag12 29) L := by rw [frg12 29 (by omega)]; exact cd9
      have hfsp13 := pN_r (w := 0) hen (sp := sp8) (by omega)
      rw [← hsp13] at hfsp13
      refine vx_istore_n hC (lv1 := [(3, xa_i x11), (2, xa_i x6), (1, xa_i x1), (0, xa_r 26)]) (by decide) rfl eX5_readTest_30 ?_
      refine vx_iload_n hC 0 rfl eX5_readTest_31 ?_
      refine vx_if_ge hC (tgt := 37) (by omega) (by decide) eX5_readTest_32 (fun c15 => ?_) (fun c15 => ?_)
      · refine vx_aload_n hC 3 rfl eX5_readTest_37 ?_
        refine vx_iload_n hC 2 rfl eX5_readTest_38 ?_
        refine vx_iconst hC eX5_readTest_39 ?_
        refine vx_imul hC eX5_readTest_40 ?_
        refine vx_iload_n hC 1 rfl eX5_readTest_41 ?_
        refine vx_iadd hC eX5_readTest_42 ?_
        refine vx_bipush hC (by decide) eX5_readTest_43 ?_
        refine vx_imul hC eX5_readTest_45 ?_
        refine vx_iload_n hC 0 rfl eX5_readTest_46 ?_
        refine vx_iadd hC eX5_readTest_47 ?_
        have hS2 : sp8 = sp + 2 := by rw [hsp8]; split <;> omega
        have hnr := pN_r (w := 0) hen (sp := sp8) (by omega)
        have hnu : 0 ≤ x11 := by omega
        have hrx : 0 ≤ x11 ∧ x11 ≤ 99 := by rw [hx11]; rw [hx11] at hnu; revert hnu; split <;> intro hnu <;> omega
        refine vx_top (fun x16 hx16 => ?_)
        refine vx_callV_v hC (kX5_put G (d + 5) _ _ _ _ _ hO L qg12_3b cd14 (by omega) (x1 + 8 * x6 + 32 * x11) x16 (by rw [trc_of (by omega) (by omega) (by omega)]; omega)) ly_X5_112 (ot_26 hO) rfl rfl rfl hRm (by omega) (Nat.le_of_ble_eq_true rfl) rfl eX5_readTest_48 (fun ng18 tg18 ag18 bg18 cg18 hg18 => ?_)
        obtain ⟨qg18_0, qg18_1, qg18_2, qg18_3, qg18_4, qg18_5, rfl, rfl, rfl, rfl, frg18⟩ := hg18
        have qg18_2b : ag18 26 2 = sp13 := by first | exact qg18_2 | rw [qg18_2, esp13] | (rw [qg18_2]; exact esp13)
        have qg18_3b : ag18 26 1 = en := by first | exact qg18_3 | rw [qg18_3, qg12_1b] | (rw [qg18_3]; exact qg12_1b)
        have qg18_4b : ag18 26 5 = vi 26 5 := by first | exact qg18_4 | rw [qg18_4, qg12_2b] | (rw [qg18_4]; exact qg12_2b)
        have qg18_0b : ag18 26 7 = ((L ++ [x1 + 8 * x6 + 32 * x11]).length : Int) := by first | exact qg18_0 | rw [qg18_0, qg12_3b] | (rw [qg18_0]; exact qg12_3b)
        have qg18_5b : ag18 26 8 = vi 26 8 := by first | exact qg18_5 | rw [qg18_5, qg12_4b] | (rw [qg18_5]; exact qg12_4b)
        have frvig18 : ∀ k : Nat, (¬ k = 26 ∧ ¬ k = 29) → ag18 k = vi k := fun k hk => (frg18 k (by omega)).trans (frvig12 k hk)
        obtain ⟨L19, hL19⟩ : ∃ z : List Int, z = L ++ [x1 + 8 * x6 + 32 * x11] := ⟨_, rfl⟩
        have lL19 : ag18 26 7 = (L19.length : Int) := by rw [hL19]; exact qg18_0b
        have cL19 : cdR (ag18 29) L19 := by rw [hL19]; exact qg18_1
        obtain ⟨sp20, hsp20⟩ : ∃ z : Int, z = sp13 := ⟨_, rfl⟩
        have esp20 : ag18 26 2 = sp20 := by rw [hsp20]; exact qg18_2b
        have nL19 : (L19.length : Int) = (L.length : Int) + 1 := by rw [hL19, List.length_append]; simp
        refine vx_iconst hC eX5_readTest_51 ?_
        have hs1 : sp3 = sp + 1 := by rw [hsp3]; split <;> omega
        have hs2 : sp8 = sp + 2 := by rw [hsp8]; split <;> omega
        have hE := pTest_3 (h := h) (sp := sp) hs1 hs2 hax1 hax6 (by omega) (by omega)
        have hw9 : pNw h 0 sp8 = 0 := by by_cases e9 : pNw h 0 sp8 = 0; exact e9; (rw [if_neg e9] at hx11; omega)
        have hv9 : x11 = pNv h 0 sp8 := by rw [hx11, if_pos hw9]
        rw [hw9, show pE 0 [] (x1 + 8 * x6 + 32 * pNv h 0 sp8) = [x1 + 8 * x6 + 32 * pNv h 0 sp8] from rfl, ← hv9] at hE
        exact vx_iret hC hM (by decide) eX5_readTest_52 (⟨_, rfl, (by rw [hE]; rfl), (by rw [hE]; show _ = ((L ++ [x1 + 8 * x6 + 32 * x11]).length : Int); rw [← hL19]; exact lL19), (by rw [hE]; show cdR _ (L ++ [x1 + 8 * x6 + 32 * x11]); rw [← hL19]; exact cL19), (by rw [hE]; exact (by show _ = pNs h 0 sp8; rw [esp20]; omega)), qg18_3b, qg18_4b, qg18_5b, rfl, rfl, rfl, rfl, fun k hk => frvig18 k (by omega)⟩)
      · refine vx_iconst hC eX5_readTest_35 ?_
        have hs1 : sp3 = sp + 1 := by rw [hsp3]; split <;> omega
        have hs2 : sp8 = sp + 2 := by rw [hsp8]; split <;> omega
        have hE := pTest_3 (h := h) (sp := sp) hs1 hs2 hax1 hax6 (by omega) (by omega)
        have hw9 : pNw h 0 sp8 = 1 := by by_cases e9 : pNw h 0 sp8 = 0; (rw [if_pos e9] at hx11; omega); omega
        rw [hw9, show pE 1 [] (x1 + 8 * x6 + 32 * pNv h 0 sp8) = [] from rfl] at hE
        exact vx_iret hC hM (by decide) eX5_readTest_36 (⟨_, rfl, (by rw [hE]; rfl), (by rw [hE]; show _ = ((L ++ []).length : Int); rw [List.append_nil]; exact qg12_3b), (by rw [hE]; show cdR _ (L ++ []); rw [List.append_nil]; exact cd14), (by rw [hE]; exact (by show _ = pNs h 0 sp8; rw [esp13]; exact hsp13)), qg12_1b, qg12_2b, qg12_4b, rfl, rfl, rfl, rfl, fun k hk => frvig12 k (by omega)⟩)
    · refine vx_iconst hC eX5_readTest_24 ?_
      have hs1 : sp3 = sp + 1 := by rw [hsp3]; split <;> omega
      have hE := pTest_2 (h := h) (sp := sp) hs1 (by omega) (by omega)
      exact vx_iret hC hM (by decide) eX5_readTest_25 (⟨_, rfl, (by rw [hE]), (by rw [hE]; show _ = ((L ++ []).length : Int); rw [List.append_nil]; exact qg7_3b), (by rw [hE]; show cdR _ (L ++ []); rw [List.append_nil]; exact cd9), (by rw [hE]; exact (by show _ = sp3; rw [esp8, hsp8]; split <;> omega)), qg7_1b, qg7_2b, qg7_4b, rfl, rfl, rfl, rfl, fun k hk => frvig7 k (by omega)⟩)
  · refine vx_iconst hC eX5_readTest_11 ?_
    have hE := pTest_1 (h := h) (sp := sp) (by omega)
    exact vx_iret hC hM (by decide) eX5_readTest_12 (⟨_, rfl, (by rw [hE]), (by rw [hE]; show _ = ((L ++ []).length : Int); rw [List.append_nil]; exact qg2_3b), (by rw [hE]; show cdR _ (L ++ []); rw [List.append_nil]; exact cd4), (by rw [hE]; exact (by show _ = sp; rw [esp3]; omega)), qg2_1b, qg2_2, qg2_4, rfl, rfl, rfl, rfl, fun k hk => frvig2 k (by omega)⟩)
