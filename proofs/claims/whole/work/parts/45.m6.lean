/-- what a TEST looks at -/
def mb (s : Int → Int) (p q st : Int) : Int → Int := fun j => if j = 0 then p else if j = 1 then s (10 + p) else if j = 2 then q else if j = 3 then s (18 + p) - q else if j = 4 then st else s 5
def mtst (b : Int → Int) (t : Int) : Int := if t / 8 % 4 = 0 then (if b (t % 8) < t / 32 then 1 else 0) else if t / 8 % 4 = 1 then (if b (t % 8) = t / 32 then 1 else 0) else (if t / 32 < b (t % 8) then 1 else 0)
def mwt (t : Int) : Int := if -200 < t then -10 - t else t - (-200)
def mnot (x : Int) : Int := if x = 0 then 1 else 0
def mbin (t x y : Int) : Int := if t = -2 then (if y = 0 then 0 else if x = 0 then 0 else 1) else (if ¬ y = 0 then 1 else if x = 0 then 0 else 1)
def mend (x t : Int) : Int := if x = 0 then 0 else mwt t
/-- the steps gone through: the open answers, the sum -/
def me (b : Int → Int) : List Int → List Int → Int → Int
  | [], _, sum => sum
  | t :: r, L, sum => if 0 ≤ t then me b r (mtst b t :: L) sum else if t = -1 then me b r (mnot (L.headD 0) :: L.tail) sum else if -10 < t then me b r (mbin t (L.headD 0) (L.tail.headD 0) :: L.tail.tail) sum else me b r [] (sum + mend (L.headD 0) t)
def mclamp (z : Int) : Int := if z < 1 then 1 else if 9 < z then 9 else z
def ms_hold (s : Int → Int) : List Int := if s 4 = -1 then [] else ms_steps s (s 4)
def ms_odds (s : Int → Int) (p q st : Int) : Int := mclamp (me (mb s p q st) (ms_hold s) [] 5)
theorem mclamp_r (z : Int) : 1 ≤ mclamp z ∧ mclamp z ≤ 9 := by unfold mclamp; split; omega; split <;> omega
theorem me_wf_pos {t : Int} {r : List Int} {d : Nat} (h0 : 0 ≤ t) (h : me_wf (t :: r) d = true) : t % 8 < 6 ∧ t / 8 % 4 < 3 ∧ t / 32 ≤ 99 ∧ d < 60 ∧ me_wf r (d + 1) = true := by
  rw [me_wf, if_pos h0] at h
  simp only [Bool.and_eq_true, decide_eq_true_eq] at h
  obtain ⟨⟨⟨⟨a, b⟩, c⟩, e⟩, f⟩ := h
  exact ⟨a, b, c, e, f⟩
theorem me_wf_not {r : List Int} {d : Nat} (h : me_wf (-1 :: r) d = true) : 1 ≤ d ∧ me_wf r d = true := by
  rw [me_wf, if_neg (by omega), if_pos rfl] at h
  simp only [Bool.and_eq_true, decide_eq_true_eq] at h
  exact h
theorem me_wf_bin {t : Int} {r : List Int} {d : Nat} (h0 : ¬ 0 ≤ t) (h1 : ¬ t = -1) (h2 : -10 < t) (h : me_wf (t :: r) d = true) : (t = -2 ∨ t = -3) ∧ 2 ≤ d ∧ me_wf r (d - 1) = true := by
  rw [me_wf, if_neg h0, if_neg h1] at h
  by_cases h3 : t = -2 ∨ t = -3
  · rw [if_pos h3] at h
    simp only [Bool.and_eq_true, decide_eq_true_eq] at h
    exact ⟨h3, h⟩
  · rw [if_neg h3, if_neg (by omega)] at h
    cases h
theorem me_wf_end {t : Int} {r : List Int} {d : Nat} (h2 : ¬ -10 < t) (h : me_wf (t :: r) d = true) : (-299 ≤ t ∧ t ≤ -10) ∧ ((-109 ≤ t ∧ t ≤ -10) ∨ (-299 ≤ t ∧ t ≤ -200)) ∧ d = 1 ∧ me_wf r 0 = true := by
  rw [me_wf, if_neg (by omega), if_neg (by omega), if_neg (by omega)] at h
  by_cases h3 : (-109 ≤ t ∧ t ≤ -10) ∨ (-299 ≤ t ∧ t ≤ -200)
  · rw [if_pos h3] at h
    simp only [Bool.and_eq_true, beq_iff_eq] at h
    exact ⟨by omega, h3, h⟩
  · rw [if_neg h3] at h
    cases h
theorem me_pos {b : Int → Int} {t : Int} {r L : List Int} {z : Int} (h : 0 ≤ t) : me b (t :: r) L z = me b r (mtst b t :: L) z := by rw [me, if_pos h]
theorem me_not {b : Int → Int} {x : Int} {r k : List Int} {z : Int} : me b (-1 :: r) (x :: k) z = me b r (mnot x :: k) z := by rw [me, if_neg (by omega), if_pos rfl]; rfl
theorem me_bin {b : Int → Int} {t x y : Int} {r k : List Int} {z : Int} (h0 : ¬ 0 ≤ t) (h1 : ¬ t = -1) (h2 : -10 < t) : me b (t :: r) (x :: y :: k) z = me b r (mbin t x y :: k) z := by rw [me, if_neg h0, if_neg h1, if_pos h2]; rfl
theorem me_end {b : Int → Int} {t x : Int} {r k : List Int} {z : Int} (h2 : ¬ -10 < t) : me b (t :: r) (x :: k) z = me b r [] (z + mend x t) := by rw [me, if_neg (by omega), if_neg (by omega), if_neg h2]; rfl
/-- the open answers as the row of truths has them -/
def stk (f : Int → Int) : List Int → Prop
  | [] => True
  | x :: L => f (L.length : Int) = x ∧ (x = 0 ∨ x = 1) ∧ stk f L
theorem stk_fu {f : Int → Int} {z y : Int} : ∀ {L : List Int}, (L.length : Int) ≤ z → stk f L → stk (fu f z y) L
  | [], _, _ => trivial
  | x :: L, h, hs => by
    rw [List.length_cons] at h
    exact ⟨by rw [fu_n _ _ _ (by omega)]; exact hs.1, hs.2.1, stk_fu (by omega) hs.2.2⟩
theorem stk_push {f : Int → Int} {z y : Int} {L : List Int} (hz : z = (L.length : Int)) (hy : y = 0 ∨ y = 1) (hs : stk f L) : stk (fu f z y) (y :: L) := ⟨by rw [hz, fu_s], hy, stk_fu (by omega) hs⟩
theorem mtst_b (b : Int → Int) (t : Int) : mtst b t = 0 ∨ mtst b t = 1 := by unfold mtst; split; (split <;> omega); split <;> (split <;> omega)
theorem mb_r {s : Int → Int} (h : ms_W s) {p q st : Int} (hp : 0 ≤ p ∧ p < s 0) (hq : 0 ≤ q ∧ q ≤ s (18 + p)) (hst : 0 ≤ st ∧ st ≤ 12) (j : Int) : 0 ≤ mb s p q st j ∧ mb s p q st j ≤ 12 := by
  obtain ⟨hr, h0, h1, h2, h3, h4, h5, h6, hp0, hrow, hwon, htape, htab⟩ := h
  obtain ⟨g1, g2, g3, g4⟩ := hp0 p hp.1 hp.2
  unfold mb
  repeat' split
  all_goals omega
set_option maxHeartbeats 4000000 in
set_option maxRecDepth 100000 in
theorem kX12_oddsOf (G : xg_T) (d : Nat) (n : Nat) (tau : Nat → Nat × Nat) (vi vl : Nat → Int → Int) (vr : Nat → Int → Option Nat) (hO : xo n tau vr) (s : Int → Int) (h32 : vi 32 = s) (hW : ms_W s) (p : Int) (hp : 0 ≤ p ∧ p < s 0) (q : Int) (hq : 0 ≤ q ∧ q ≤ s (18 + p)) (st : Int) (hst : 0 ≤ st ∧ st ≤ 12)  : xm G yX12_oddsOf cX12_oddsOf 13 (some .int) (d + 1) 0 0 [xa_r 31, xa_i p, xa_i q, xa_i st] n tau vi vl vr (xp_i (fun z9 n1 t1 a1 b1 c1 => (z9 = ms_odds s p q st) ∧ xs_I (fun k => ¬ k = 34 ∧ ¬ k = 35) n tau vi vl vr n1 t1 a1 b1 c1)) := by
  refine xm.of (lv := [(0, xa_r 31), (1, xa_i p), (2, xa_i q), (3, xa_i st)]) (by decide) (Nat.le_of_ble_eq_true rfl) rfl (fun K hC hM hRm => ?_)
  obtain ⟨hr, h0, h1, h2, h3, h4, h5, h6, hp0, hrow, hwon, htape, htab⟩ := id hW
  obtain ⟨g1, g2, g3, g4⟩ := hp0 p hp.1 hp.2
  refine vx_aload_n hC 0 rfl eX12_oddsOf_0 ?_
  refine vx_gr hC 9 (ot_31 hO) lf_X12_18 rfl (or_31_9 hO) eX12_oddsOf_1 ?_
  refine vx_iconst hC eX12_oddsOf_4 ?_
  refine vx_iload_n hC 1 rfl eX12_oddsOf_5 ?_
  refine vx_iastore hC (ot_34 hO) (by omega) (by omega) eX12_oddsOf_6 ?_
  refine vx_vi (fun v1 hv1 => ?_)
  have hv1_32 : v1 32 = s := by rw [hv1, xu_c _ _ _ _ (by decide), h32]
  obtain ⟨f2, hf2⟩ : ∃ f, f = fu (vi 34) 0 p := ⟨_, rfl⟩
  have hv1_34 : v1 34 = f2 := by rw [hv1, hf2, xu_k]
  have hv1_35 : v1 35 = vi 35 := by rw [hv1, xu_c _ _ _ _ (by decide)]
  have frv1 : ∀ k : Nat, (¬ k = 34 ∧ ¬ k = 35) → v1 k = vi k := fun k hk => by rw [hv1, xu_c _ _ _ _ (by omega)]
  refine vx_aload_n hC 0 rfl eX12_oddsOf_7 ?_
  refine vx_gr hC 9 (ot_31 hO) lf_X12_18 rfl (or_31_9 hO) eX12_oddsOf_8 ?_
  refine vx_iconst hC eX12_oddsOf_11 ?_
  refine vx_aload_n hC 0 rfl eX12_oddsOf_12 ?_
  refine vx_gr hC 1 (ot_31 hO) lf_X12_9 rfl (or_31_1 hO) eX12_oddsOf_13 ?_
  refine vx_bipush hC (by decide) eX12_oddsOf_16 ?_
  refine vx_iload_n hC 1 rfl eX12_oddsOf_18 ?_
  refine vx_iadd hC eX12_oddsOf_19 ?_
  refine vx_iaload hC (ot_32 hO) (by omega) (by omega) eX12_oddsOf_20 ?_
  refine vx_eqi (congrFun hv1_32 _) ?_
  refine vx_top (fun x3 hx3 => ?_)
  refine vx_iastore hC (ot_34 hO) (by omega) (by omega) eX12_oddsOf_21 ?_
  refine vx_vi (fun v4 hv4 => ?_)
  have hv4_32 : v4 32 = s := by rw [hv4, xu_c _ _ _ _ (by decide), hv1_32]
  obtain ⟨f5, hf5⟩ : ∃ f, f = fu (f2) 1 x3 := ⟨_, rfl⟩
  have hv4_34 : v4 34 = f5 := by rw [hv4, hf5, xu_k, hv1_34]
  have hv4_35 : v4 35 = vi 35 := by rw [hv4, xu_c _ _ _ _ (by decide), hv1_35]
  have frv4 : ∀ k : Nat, (¬ k = 34 ∧ ¬ k = 35) → v4 k = vi k := fun k hk => by rw [hv4, xu_c _ _ _ _ (by omega)]; exact frv1 k hk
  refine vx_aload_n hC 0 rfl eX12_oddsOf_22 ?_
  refine vx_gr hC 9 (ot_31 hO) lf_X12_18 rfl (or_31_9 hO) eX12_oddsOf_23 ?_
  refine vx_iconst hC eX12_oddsOf_26 ?_
  refine vx_iload_n hC 2 rfl eX12_oddsOf_27 ?_
  refine vx_iastore hC (ot_34 hO) (by omega) (by omega) eX12_oddsOf_28 ?_
  refine vx_vi (fun v6 hv6 => ?_)
  have hv6_32 : v6 32 = s := by rw [hv6, xu_c _ _ _ _ (by decide), hv4_32]
  obtain ⟨f7, hf7⟩ : ∃ f, f = fu (f5) 2 q := ⟨_, rfl⟩
  have hv6_34 : v6 34 = f7 := by rw [hv6, hf7, xu_k, hv4_34]
  have hv6_35 : v6 35 = vi 35 := by rw [hv6, xu_c _ _ _ _ (by decide), hv4_35]
  have frv6 : ∀ k : Nat, (¬ k = 34 ∧ ¬ k = 35) → v6 k = vi k := fun k hk => by rw [hv6, xu_c _ _ _ _ (by omega)]; exact frv4 k hk
  refine vx_aload_n hC 0 rfl eX12_oddsOf_29 ?_
  refine vx_gr hC 9 (ot_31 hO) lf_X12_18 rfl (or_31_9 hO) eX12_oddsOf_30 ?_
  refine vx_iconst hC eX12_oddsOf_33 ?_
  refine vx_aload_n hC 0 rfl eX12_oddsOf_34 ?_
  refine vx_gr hC 1 (ot_31 hO) lf_X12_9 rfl (or_31_1 hO) eX12_oddsOf_35 ?_
  refine vx_bipush hC (by decide) eX12_oddsOf_38 ?_
  refine vx_iload_n hC 1 rfl eX12_oddsOf_40 ?_
  refine vx_iadd hC eX12_oddsOf_41 ?_
  refine vx_iaload hC (ot_32 hO) (by omega) (by omega) eX12_oddsOf_42 ?_
  refine vx_eqi (congrFun hv6_32 _) ?_
  refine vx_iload_n hC 2 rfl eX12_oddsOf_43 ?_
  refine vx_isub hC eX12_oddsOf_44 ?_
  refine vx_top (fun x8 hx8 => ?_)
  refine vx_iastore hC (ot_34 hO) (by omega) (by omega) eX12_oddsOf_45 ?_
  refine vx_vi (fun v9 hv9 => ?_)
  have hv9_32 : v9 32 = s := by rw [hv9, xu_c _ _ _ _ (by decide), hv6_32]
  obtain ⟨f10, hf10⟩ : ∃ f, f = fu (f7) 3 x8 := ⟨_, rfl⟩
  have hv9_34 : v9 34 = f10 := by rw [hv9, hf10, xu_k, hv6_34]
  have hv9_35 : v9 35 = vi 35 := by rw [hv9, xu_c _ _ _ _ (by decide), hv6_35]
  have frv9 : ∀ k : Nat, (¬ k = 34 ∧ ¬ k = 35) → v9 k = vi k := fun k hk => by rw [hv9, xu_c _ _ _ _ (by omega)]; exact frv6 k hk
  refine vx_aload_n hC 0 rfl eX12_oddsOf_46 ?_
  refine vx_gr hC 9 (ot_31 hO) lf_X12_18 rfl (or_31_9 hO) eX12_oddsOf_47 ?_
  refine vx_iconst hC eX12_oddsOf_50 ?_
  refine vx_iload_n hC 3 rfl eX12_oddsOf_51 ?_
  refine vx_iastore hC (ot_34 hO) (by omega) (by omega) eX12_oddsOf_52 ?_
  refine vx_vi (fun v11 hv11 => ?_)
  have hv11_32 : v11 32 = s := by rw [hv11, xu_c _ _ _ _ (by decide), hv9_32]
  obtain ⟨f12, hf12⟩ : ∃ f, f = fu (f10) 4 st := ⟨_, rfl⟩
  have hv11_34 : v11 34 = f12 := by rw [hv11, hf12, xu_k, hv9_34]
  have hv11_35 : v11 35 = vi 35 := by rw [hv11, xu_c _ _ _ _ (by decide), hv9_35]
  have frv11 : ∀ k : Nat, (¬ k = 34 ∧ ¬ k = 35) → v11 k = vi k := fun k hk => by rw [hv11, xu_c _ _ _ _ (by omega)]; exact frv9 k hk
  refine vx_aload_n hC 0 rfl eX12_oddsOf_53 ?_
  refine vx_gr hC 9 (ot_31 hO) lf_X12_18 rfl (or_31_9 hO) eX12_oddsOf_54 ?_
  refine vx_iconst hC eX12_oddsOf_57 ?_
  refine vx_aload_n hC 0 rfl eX12_oddsOf_58 ?_
  refine vx_gr hC 1 (ot_31 hO) lf_X12_9 rfl (or_31_1 hO) eX12_oddsOf_59 ?_
  refine vx_iconst hC eX12_oddsOf_62 ?_
  refine vx_iaload hC (ot_32 hO) (by omega) (by omega) eX12_oddsOf_63 ?_
  refine vx_eqi (congrFun hv11_32 _) ?_
  refine vx_top (fun x13 hx13 => ?_)
  refine vx_iastore hC (ot_34 hO) (by omega) (by omega) eX12_oddsOf_64 ?_
  refine vx_vi (fun v14 hv14 => ?_)
  have hv14_32 : v14 32 = s := by rw [hv14, xu_c _ _ _ _ (by decide), hv11_32]
  obtain ⟨f15, hf15⟩ : ∃ f, f = fu (f12) 5 x13 := ⟨_, rfl⟩
  have hv14_34 : v14 34 = f15 := by rw [hv14, hf15, xu_k, hv11_34]
  have hv14_35 : v14 35 = vi 35 := by rw [hv14, xu_c _ _ _ _ (by decide), hv11_35]
  have frv14 : ∀ k : Nat, (¬ k = 34 ∧ ¬ k = 35) → v14 k = vi k := fun k hk => by rw [hv14, xu_c _ _ _ _ (by omega)]; exact frv11 k hk
  refine vx_iconst hC eX12_oddsOf_65 ?_
  refine vx_istore hC (lv1 := [(4, xa_i 5), (0, xa_r 31), (1, xa_i p), (2, xa_i q), (3, xa_i st)]) (by decide) rfl eX12_oddsOf_66 ?_
  refine vx_aload_n hC 1 rfl eX12_oddsOf_68 ?_
  refine vx_gr hC 1 (ot_31 hO) lf_X12_9 rfl (or_31_1 hO) eX12_oddsOf_69 ?_
  refine vx_iconst hC eX12_oddsOf_72 ?_
  refine vx_iaload hC (ot_32 hO) (by omega) (by omega) eX12_oddsOf_73 ?_
  refine vx_eqi (congrFun hv14_32 _) ?_
  refine vx_iconst hC eX12_oddsOf_74 ?_
  refine vx_icmp_ne hC (tgt := 82) (by omega) (by decide) eX12_oddsOf_75 (fun c16 => ?_) (fun c16 => ?_)
  · have ht4 := (htab (s 4) (by omega) (by omega)).2.1
    refine vx_aload_n hC 1 rfl eX12_oddsOf_82 ?_
    refine vx_gr hC 1 (ot_31 hO) lf_X12_9 rfl (or_31_1 hO) eX12_oddsOf_83 ?_
    refine vx_sipush hC (by decide) eX12_oddsOf_86 ?_
    refine vx_aload_n hC 1 rfl eX12_oddsOf_89 ?_
    refine vx_gr hC 1 (ot_31 hO) lf_X12_9 rfl (or_31_1 hO) eX12_oddsOf_90 ?_
    refine vx_iconst hC eX12_oddsOf_93 ?_
    refine vx_iaload hC (ot_32 hO) (by omega) (by omega) eX12_oddsOf_94 ?_
    refine vx_eqi (congrFun hv14_32 _) ?_
    refine vx_iadd hC eX12_oddsOf_95 ?_
    refine vx_iaload hC (ot_32 hO) (by omega) (by omega) eX12_oddsOf_96 ?_
    refine vx_eqi (congrFun hv14_32 _) ?_
    refine vx_top (fun x17 hx17 => ?_)
    refine vx_istore hC (lv1 := [(5, xa_i x17), (4, xa_i 5), (0, xa_r 31), (1, xa_i p), (2, xa_i q), (3, xa_i st)]) (by decide) rfl eX12_oddsOf_97 ?_
    refine vx_sipush hC (by decide) eX12_oddsOf_99 ?_
    refine vx_sipush hC (by decide) eX12_oddsOf_102 ?_
    refine vx_aload_n hC 2 rfl eX12_oddsOf_105 ?_
    refine vx_gr hC 1 (ot_31 hO) lf_X12_9 rfl (or_31_1 hO) eX12_oddsOf_106 ?_
    refine vx_iconst hC eX12_oddsOf_109 ?_
    refine vx_iaload hC (ot_32 hO) (by omega) (by omega) eX12_oddsOf_110 ?_
    refine vx_eqi (congrFun hv14_32 _) ?_
    refine vx_imul hC eX12_oddsOf_111 ?_
    refine vx_iadd hC eX12_oddsOf_112 ?_
    refine vx_top (fun x18 hx18 => ?_)
    refine vx_istore hC (lv1 := [(6, xa_i x18), (5, xa_i x17), (4, xa_i 5), (0, xa_r 31), (1, xa_i p), (2, xa_i q), (3, xa_i st)]) (by decide) rfl eX12_oddsOf_113 ?_
    obtain ⟨bb, hbe⟩ : ∃ f, f = f15 := ⟨_, rfl⟩
    have e34 : v14 34 = bb := by rw [hbe]; exact hv14_34
    have hbb : ∀ j : Int, 0 ≤ j → j < 6 → bb j = mb s p q st j := by
      intro j j1 j2
      rw [hbe, hf15, hf12, hf10, hf7, hf5, hf2]
      simp only [hx3, hx8, hx13, hx17, hx18]
      unfold fu mb
      rcases (show j = 0 ∨ j = 1 ∨ j = 2 ∨ j = 3 ∨ j = 4 ∨ j = 5 by omega) with rfl | rfl | rfl | rfl | rfl | rfl <;> simp
    have hml : ms_hold s = msl s x18 (x17 : Int).toNat := by
      unfold ms_hold
      first | (rw [if_pos (by omega)]; rw [show (x17 : Int).toNat = 0 by omega]; rfl) | (rw [if_neg (by omega)]; unfold ms_steps; rw [hx18, hx17])
    have hwf0 : me_wf (msl s x18 (x17 : Int).toNat) ([] : List Int).length = true := by
      rw [← hml]; unfold ms_hold
      first | (rw [if_pos (by omega)]; rfl) | (rw [if_neg (by omega)]; exact (htab (s 4) (by omega) (by omega)).2.2)
    have hres0 : me (mb s p q st) (msl s x18 (x17 : Int).toNat) [] 5 = me (mb s p q st) (ms_hold s) [] 5 := by rw [hml]
    refine vx_iconst hC eX12_oddsOf_115 ?_
    refine vx_istore hC (lv1 := [(7, xa_i 0), (6, xa_i x18), (5, xa_i x17), (4, xa_i 5), (0, xa_r 31), (1, xa_i p), (2, xa_i q), (3, xa_i st)]) (by decide) rfl eX12_oddsOf_116 ?_
    refine vx_iload hC 1 rfl eX12_oddsOf_118 ?_
    refine vx_istore hC (lv1 := [(8, xa_i x18), (7, xa_i 0), (6, xa_i x18), (5, xa_i x17), (4, xa_i 5), (0, xa_r 31), (1, xa_i p), (2, xa_i q), (3, xa_i st)]) (by decide) rfl eX12_oddsOf_120 ?_
    have LP122 : ∀ (j : Nat) (c : Nat) (i : Int) (top : Int) (sm : Int) (L : List Int) (m2 : Nat → Int → Int) (hc : i + (c : Int) = x18 + x17 ∧ 0 ≤ i ∧ x18 + x17 ≤ 876 ∧ c ≤ 120) (hwf : me_wf (msl s i c) L.length = true) (hres : me (mb s p q st) (msl s i c) L sm = (me (mb s p q st) (ms_hold s) [] 5)) (hstk : stk (m2 35) L) (htop : top = (L.length : Int) ∧ L.length ≤ 60) (hsm : -50000 + 300 * (c : Int) ≤ sm ∧ sm ≤ 50000 - 300 * (c : Int)) (e1 : m2 32 = s) (e3 : m2 34 = bb) (fr2 : ∀ k : Nat, (¬ k = 34 ∧ ¬ k = 35) → m2 k = vi k) (hj : (c : Int) < (j : Int)), xv G K 13 (xk_Q G K (xp_i (fun z9 n1 t1 a1 b1 c1 => (z9 = ms_odds s p q st) ∧ xs_I (fun k => ¬ k = 34 ∧ ¬ k = 35) n tau vi vl vr n1 t1 a1 b1 c1)) 0 0) 0 0 n tau m2 vl vr 122 [(0, xa_r 31), (1, xa_i p), (2, xa_i q), (3, xa_i st), (4, xa_i sm), (5, xa_i x17), (6, xa_i x18), (7, xa_i top), (8, xa_i i)] [] := by
      intro j
      induction j with
      | zero => intro c i top sm L m2 hc hwf hres hstk htop hsm e1 e3 fr2 hj; exfalso; omega
      | succ j ih =>
        intro c i top sm L m2 hc hwf hres hstk htop hsm e1 e3 fr2 hj
        refine vx_iload hC 8 rfl eX12_oddsOf_122 ?_
        refine vx_iload hC 6 rfl eX12_oddsOf_124 ?_
        refine vx_iload hC 5 rfl eX12_oddsOf_126 ?_
        refine vx_iadd hC eX12_oddsOf_128 ?_
        refine vx_icmp_ge hC (tgt := 410) (by omega) (by decide) eX12_oddsOf_129 (fun c19 => ?_) (fun c19 => ?_)
        · refine vx_iload hC 4 rfl eX12_oddsOf_410 ?_
          refine vx_iconst hC eX12_oddsOf_412 ?_
          refine vx_icmp_ge hC (tgt := 420) (by omega) (by decide) eX12_oddsOf_413 (fun c20 => ?_) (fun c20 => ?_)
          · refine vx_iload hC 4 rfl eX12_oddsOf_420 ?_
            refine vx_bipush hC (by decide) eX12_oddsOf_422 ?_
            refine vx_icmp_le hC (tgt := 432) (by omega) (by decide) eX12_oddsOf_424 (fun c21 => ?_) (fun c21 => ?_)
            · refine vx_iload hC 4 rfl eX12_oddsOf_432 ?_
              exact vx_iret hC hM rfl eX12_oddsOf_434 (⟨_, rfl, (by unfold ms_odds mclamp; rw [← hres, show c = 0 by omega, msl, me]; (repeat' split); all_goals omega), rfl, rfl, rfl, rfl, fun k hk => fr2 k hk⟩)
            · refine vx_bipush hC (by decide) eX12_oddsOf_427 ?_
              refine vx_goto hC (tgt := 434) (by decide) eX12_oddsOf_429 ?_
              exact vx_iret hC hM rfl eX12_oddsOf_434 (⟨_, rfl, (by unfold ms_odds mclamp; rw [← hres, show c = 0 by omega, msl, me]; (repeat' split); all_goals omega), rfl, rfl, rfl, rfl, fun k hk => fr2 k hk⟩)
          · refine vx_iconst hC eX12_oddsOf_416 ?_
            refine vx_goto hC (tgt := 434) (by decide) eX12_oddsOf_417 ?_
            exact vx_iret hC hM rfl eX12_oddsOf_434 (⟨_, rfl, (by unfold ms_odds mclamp; rw [← hres, show c = 0 by omega, msl, me]; (repeat' split); all_goals omega), rfl, rfl, rfl, rfl, fun k hk => fr2 k hk⟩)
        · obtain ⟨c1, rfl⟩ : ∃ c1, c = c1 + 1 := ⟨c - 1, by omega⟩
          have hri := hr i
          refine vx_aload_n hC 0 rfl eX12_oddsOf_132 ?_
          refine vx_gr hC 1 (ot_31 hO) lf_X12_9 rfl (or_31_1 hO) eX12_oddsOf_133 ?_
          refine vx_iload hC 8 rfl eX12_oddsOf_136 ?_
          refine vx_iaload hC (ot_32 hO) (by omega) (by omega) eX12_oddsOf_138 ?_
          refine vx_eqi (congrFun e1 _) ?_
          refine vx_top (fun x22 hx22 => ?_)
          refine vx_istore hC (lv1 := [(9, xa_i x22), (0, xa_r 31), (1, xa_i p), (2, xa_i q), (3, xa_i st), (4, xa_i sm), (5, xa_i x17), (6, xa_i x18), (7, xa_i top), (8, xa_i i)]) (by decide) rfl eX12_oddsOf_139 ?_
          replace hwf : me_wf (x22 :: msl s (i + 1) c1) L.length = true := by rw [hx22]; exact hwf
          replace hres : me (mb s p q st) (x22 :: msl s (i + 1) c1) L sm = me (mb s p q st) (ms_hold s) [] 5 := by rw [hx22]; exact hres
          refine vx_iload hC 0 rfl eX12_oddsOf_141 ?_
          refine vx_if_lt hC (tgt := 240) (by omega) (by decide) eX12_oddsOf_143 (fun c23 => ?_) (fun c23 => ?_)
          · refine vx_iload hC 0 rfl eX12_oddsOf_240 ?_
            refine vx_iconst hC eX12_oddsOf_242 ?_
            refine vx_icmp_ne hC (tgt := 275) (by omega) (by decide) eX12_oddsOf_243 (fun c24 => ?_) (fun c24 => ?_)
            · refine vx_iload hC 0 rfl eX12_oddsOf_275 ?_
              refine vx_bipush hC (by decide) eX12_oddsOf_277 ?_
              refine vx_icmp_le hC (tgt := 361) (by omega) (by decide) eX12_oddsOf_279 (fun c25 => ?_) (fun c25 => ?_)
              · obtain ⟨w0, w1, w2, w5⟩ := me_wf_end (by omega) hwf
                obtain ⟨y, rfl⟩ : ∃ y, L = [y] := by cases L with | nil => simp at w2 | cons y L1 => cases L1 with | nil => exact ⟨y, rfl⟩ | cons y2 L2 => simp at w2
                have hyb := hstk.2.1
                refine vx_iconst hC eX12_oddsOf_361 ?_
                refine vx_istore hC (lv1 := [(7, xa_i 0), (9, xa_i x22), (0, xa_r 31), (1, xa_i p), (2, xa_i q), (3, xa_i st), (4, xa_i sm), (5, xa_i x17), (6, xa_i x18), (8, xa_i i)]) (by decide) rfl eX12_oddsOf_362 ?_
                refine vx_iload hC 6 rfl eX12_oddsOf_364 ?_
                refine vx_aload_n hC 2 rfl eX12_oddsOf_366 ?_
                refine vx_gr hC 10 (ot_31 hO) lf_X12_21 rfl (or_31_10 hO) eX12_oddsOf_367 ?_
                refine vx_iconst hC eX12_oddsOf_370 ?_
                refine vx_zaload hC (ot_35 hO) (by omega) (by omega) eX12_oddsOf_371 ?_
                refine vx_eqi (y := y) hstk.1 ?_
                refine vx_if_ne hC (tgt := 379) (by omega) (by decide) eX12_oddsOf_372 (fun c26 => ?_) (fun c26 => ?_)
                · refine vx_iload hC 1 rfl eX12_oddsOf_379 ?_
                  refine vx_sipush hC (by decide) eX12_oddsOf_381 ?_
                  refine vx_icmp_le hC (tgt := 395) (by omega) (by decide) eX12_oddsOf_384 (fun c27 => ?_) (fun c27 => ?_)
                  · refine vx_iload hC 1 rfl eX12_oddsOf_395 ?_
                    refine vx_sipush hC (by decide) eX12_oddsOf_397 ?_
                    refine vx_isub hC eX12_oddsOf_400 ?_
                    refine vx_iadd hC eX12_oddsOf_401 ?_
                    refine vx_top (fun x28 hx28 => ?_)
                    refine vx_istore hC (lv1 := [(4, xa_i x28), (7, xa_i 0), (9, xa_i x22), (0, xa_r 31), (1, xa_i p), (2, xa_i q), (3, xa_i st), (5, xa_i x17), (6, xa_i x18), (8, xa_i i)]) (by decide) rfl eX12_oddsOf_402 ?_
                    refine vx_iinc hC (lv1 := [(8, xa_i (i + 1)), (4, xa_i x28), (7, xa_i 0), (9, xa_i x22), (0, xa_r 31), (1, xa_i p), (2, xa_i q), (3, xa_i st), (5, xa_i x17), (6, xa_i x18)]) 9 rfl (by decide) rfl eX12_oddsOf_404 ?_
                    refine vx_goto hC (tgt := 122) (by decide) eX12_oddsOf_407 ?_
                    refine vx_lv (lv1 := [(0, xa_r 31), (1, xa_i p), (2, xa_i q), (3, xa_i st), (4, xa_i x28), (5, xa_i x17), (6, xa_i x18), (7, xa_i 0), (8, xa_i (i + 1))]) [4, 5, 6, 7, 1, 8, 9, 2, 0] rfl ?_
                    exact ih c1 (i + 1) 0 x28 [] m2 (by omega) w5 (by rw [← hres, me_end (by omega)]; congr 1; simp only [hx3, hx8, hx13, hx17, hx18, hx22, hx28, hf15, hf12, hf10, hf7, hf5, hf2]; unfold mend mwt; (repeat' split); all_goals omega) trivial ⟨rfl, by decide⟩ (by omega) e1 e3 fr2 (by omega)
                  · refine vx_bipush hC (by decide) eX12_oddsOf_387 ?_
                    refine vx_iload hC 1 rfl eX12_oddsOf_389 ?_
                    refine vx_isub hC eX12_oddsOf_391 ?_
                    refine vx_goto hC (tgt := 401) (by decide) eX12_oddsOf_392 ?_
                    refine vx_iadd hC eX12_oddsOf_401 ?_
                    refine vx_top (fun x29 hx29 => ?_)
                    refine vx_istore hC (lv1 := [(4, xa_i x29), (7, xa_i 0), (9, xa_i x22), (0, xa_r 31), (1, xa_i p), (2, xa_i q), (3, xa_i st), (5, xa_i x17), (6, xa_i x18), (8, xa_i i)]) (by decide) rfl eX12_oddsOf_402 ?_
                    refine vx_iinc hC (lv1 := [(8, xa_i (i + 1)), (4, xa_i x29), (7, xa_i 0), (9, xa_i x22), (0, xa_r 31), (1, xa_i p), (2, xa_i q), (3, xa_i st), (5, xa_i x17), (6, xa_i x18)]) 9 rfl (by decide) rfl eX12_oddsOf_404 ?_
                    refine vx_goto hC (tgt := 122) (by decide) eX12_oddsOf_407 ?_
                    refine vx_lv (lv1 := [(0, xa_r 31), (1, xa_i p), (2, xa_i q), (3, xa_i st), (4, xa_i x29), (5, xa_i x17), (6, xa_i x18), (7, xa_i 0), (8, xa_i (i + 1))]) [4, 5, 6, 7, 1, 8, 9, 2, 0] rfl ?_
                    exact ih c1 (i + 1) 0 x29 [] m2 (by omega) w5 (by rw [← hres, me_end (by omega)]; congr 1; simp only [hx3, hx8, hx13, hx17, hx18, hx22, hx29, hf15, hf12, hf10, hf7, hf5, hf2]; unfold mend mwt; (repeat' split); all_goals omega) trivial ⟨rfl, by decide⟩ (by omega) e1 e3 fr2 (by omega)
                · refine vx_iconst hC eX12_oddsOf_375 ?_
                  refine vx_goto hC (tgt := 401) (by decide) eX12_oddsOf_376 ?_
                  refine vx_iadd hC eX12_oddsOf_401 ?_
                  refine vx_top (fun x30 hx30 => ?_)
                  refine vx_istore hC (lv1 := [(4, xa_i x30), (7, xa_i 0), (9, xa_i x22), (0, xa_r 31), (1, xa_i p), (2, xa_i q), (3, xa_i st), (5, xa_i x17), (6, xa_i x18), (8, xa_i i)]) (by decide) rfl eX12_oddsOf_402 ?_
                  refine vx_iinc hC (lv1 := [(8, xa_i (i + 1)), (4, xa_i x30), (7, xa_i 0), (9, xa_i x22), (0, xa_r 31), (1, xa_i p), (2, xa_i q), (3, xa_i st), (5, xa_i x17), (6, xa_i x18)]) 9 rfl (by decide) rfl eX12_oddsOf_404 ?_
                  refine vx_goto hC (tgt := 122) (by decide) eX12_oddsOf_407 ?_
                  refine vx_lv (lv1 := [(0, xa_r 31), (1, xa_i p), (2, xa_i q), (3, xa_i st), (4, xa_i x30), (5, xa_i x17), (6, xa_i x18), (7, xa_i 0), (8, xa_i (i + 1))]) [4, 5, 6, 7, 1, 8, 9, 2, 0] rfl ?_
                  exact ih c1 (i + 1) 0 x30 [] m2 (by omega) w5 (by rw [← hres, me_end (by omega)]; congr 1; simp only [hx3, hx8, hx13, hx17, hx18, hx22, hx30, hf15, hf12, hf10, hf7, hf5, hf2]; unfold mend mwt; (repeat' split); all_goals omega) trivial ⟨rfl, by decide⟩ (by omega) e1 e3 fr2 (by omega)
              · obtain ⟨w0, w1, w5⟩ := me_wf_bin (by omega) (by omega) (by omega) hwf
                obtain ⟨y1, y2, L2, rfl⟩ : ∃ y1 y2 L2, L = y1 :: y2 :: L2 := by cases L with | nil => simp at w1 | cons y L1 => cases L1 with | nil => simp at w1 | cons y2 L2 => exact ⟨y, y2, L2, rfl⟩
                have hyb1 := hstk.2.1
                have hyb2 := hstk.2.2.2.1
                have hlen : ((y1 :: y2 :: L2).length : Int) = (L2.length : Int) + 2 := by simp only [List.length_cons]; omega
                refine vx_iinc hC (lv1 := [(7, xa_i (top + (-1))), (9, xa_i x22), (0, xa_r 31), (1, xa_i p), (2, xa_i q), (3, xa_i st), (4, xa_i sm), (5, xa_i x17), (6, xa_i x18), (8, xa_i i)]) 8 rfl (by decide) rfl eX12_oddsOf_282 ?_
                refine vx_aload_n hC 2 rfl eX12_oddsOf_285 ?_
                refine vx_gr hC 10 (ot_31 hO) lf_X12_21 rfl (or_31_10 hO) eX12_oddsOf_286 ?_
                refine vx_iload hC 0 rfl eX12_oddsOf_289 ?_
                refine vx_iconst hC eX12_oddsOf_291 ?_
                refine vx_isub hC eX12_oddsOf_292 ?_
                refine vx_iload hC 1 rfl eX12_oddsOf_293 ?_
                refine vx_bipush hC (by decide) eX12_oddsOf_295 ?_
                refine vx_icmp_ne hC (tgt := 330) (by omega) (by decide) eX12_oddsOf_297 (fun c31 => ?_) (fun c31 => ?_)
                · refine vx_aload_n hC 2 rfl eX12_oddsOf_330 ?_
                  refine vx_gr hC 10 (ot_31 hO) lf_X12_21 rfl (or_31_10 hO) eX12_oddsOf_331 ?_
                  refine vx_iload hC 0 rfl eX12_oddsOf_334 ?_
                  refine vx_iconst hC eX12_oddsOf_336 ?_
                  refine vx_isub hC eX12_oddsOf_337 ?_
                  refine vx_zaload hC (ot_35 hO) (by omega) (by omega) eX12_oddsOf_338 ?_
                  refine vx_eqi (y := y2) (by rw [show top + (-1) - 1 = (L2.length : Int) by omega]; exact hstk.2.2.1) ?_
                  refine vx_if_ne hC (tgt := 352) (by omega) (by decide) eX12_oddsOf_339 (fun c32 => ?_) (fun c32 => ?_)
                  · refine vx_iconst hC eX12_oddsOf_352 ?_
                    refine vx_goto hC (tgt := 357) (by decide) eX12_oddsOf_353 ?_
                    refine vx_top2 (fun x33 hx33 => ?_)
                    refine vx_zastore hC (ot_35 hO) (by omega) (by omega) (by omega) eX12_oddsOf_357 ?_
                    refine vx_vi (fun v34 hv34 => ?_)
                    have hv34_32 : v34 32 = s := by rw [hv34, xu_c _ _ _ _ (by decide), e1]
                    have hv34_34 : v34 34 = bb := by rw [hv34, xu_c _ _ _ _ (by decide), e3]
                    obtain ⟨f35, hf35⟩ : ∃ f, f = fu (m2 35) x33 1 := ⟨_, rfl⟩
                    have hv34_35 : v34 35 = f35 := by rw [hv34, hf35, xu_k]
                    have frv34 : ∀ k : Nat, (¬ k = 34 ∧ ¬ k = 35) → v34 k = vi k := fun k hk => by rw [hv34, xu_c _ _ _ _ (by omega)]; exact fr2 k hk
                    refine vx_goto hC (tgt := 404) (by decide) eX12_oddsOf_358 ?_
                    refine vx_iinc hC (lv1 := [(8, xa_i (i + 1)), (7, xa_i (top + (-1))), (9, xa_i x22), (0, xa_r 31), (1, xa_i p), (2, xa_i q), (3, xa_i st), (4, xa_i sm), (5, xa_i x17), (6, xa_i x18)]) 9 rfl (by decide) rfl eX12_oddsOf_404 ?_
                    refine vx_goto hC (tgt := 122) (by decide) eX12_oddsOf_407 ?_
                    refine vx_lv (lv1 := [(0, xa_r 31), (1, xa_i p), (2, xa_i q), (3, xa_i st), (4, xa_i sm), (5, xa_i x17), (6, xa_i x18), (7, xa_i (top + (-1))), (8, xa_i (i + 1))]) [3, 4, 5, 6, 7, 8, 9, 1, 0] rfl ?_
                    exact ih c1 (i + 1) (top + (-1)) sm (1 :: L2) v34 (by omega) (by simpa using w5) (by rw [← hres, me_bin (by omega) (by omega) (by omega)]; rw [show mbin x22 y1 y2 = 1 by unfold mbin; (repeat' split); all_goals omega]) (by rw [hv34_35, hf35]; exact stk_push (by simp only [List.length_cons] at htop; omega) (by decide) hstk.2.2.2.2) (by simp only [List.length_cons] at *; omega) (by omega) hv34_32 hv34_34 frv34 (by omega)
                  · refine vx_aload_n hC 2 rfl eX12_oddsOf_342 ?_
                    refine vx_gr hC 10 (ot_31 hO) lf_X12_21 rfl (or_31_10 hO) eX12_oddsOf_343 ?_
                    refine vx_iload hC 0 rfl eX12_oddsOf_346 ?_
                    refine vx_zaload hC (ot_35 hO) (by omega) (by omega) eX12_oddsOf_348 ?_
                    refine vx_eqi (y := y1) (by rw [show top + (-1) = (L2.length : Int) + 1 by omega]; exact hstk.1) ?_
                    refine vx_if_eq hC (tgt := 356) (by omega) (by decide) eX12_oddsOf_349 (fun c36 => ?_) (fun c36 => ?_)
                    · refine vx_iconst hC eX12_oddsOf_356 ?_
                      refine vx_top2 (fun x37 hx37 => ?_)
                      refine vx_zastore hC (ot_35 hO) (by omega) (by omega) (by omega) eX12_oddsOf_357 ?_
                      refine vx_vi (fun v38 hv38 => ?_)
                      have hv38_32 : v38 32 = s := by rw [hv38, xu_c _ _ _ _ (by decide), e1]
                      have hv38_34 : v38 34 = bb := by rw [hv38, xu_c _ _ _ _ (by decide), e3]
                      obtain ⟨f39, hf39⟩ : ∃ f, f = fu (m2 35) x37 0 := ⟨_, rfl⟩
                      have hv38_35 : v38 35 = f39 := by rw [hv38, hf39, xu_k]
                      have frv38 : ∀ k : Nat, (¬ k = 34 ∧ ¬ k = 35) → v38 k = vi k := fun k hk => by rw [hv38, xu_c _ _ _ _ (by omega)]; exact fr2 k hk
                      refine vx_goto hC (tgt := 404) (by decide) eX12_oddsOf_358 ?_
                      refine vx_iinc hC (lv1 := [(8, xa_i (i + 1)), (7, xa_i (top + (-1))), (9, xa_i x22), (0, xa_r 31), (1, xa_i p), (2, xa_i q), (3, xa_i st), (4, xa_i sm), (5, xa_i x17), (6, xa_i x18)]) 9 rfl (by decide) rfl eX12_oddsOf_404 ?_
                      refine vx_goto hC (tgt := 122) (by decide) eX12_oddsOf_407 ?_
                      refine vx_lv (lv1 := [(0, xa_r 31), (1, xa_i p), (2, xa_i q), (3, xa_i st), (4, xa_i sm), (5, xa_i x17), (6, xa_i x18), (7, xa_i (top + (-1))), (8, xa_i (i + 1))]) [3, 4, 5, 6, 7, 8, 9, 1, 0] rfl ?_
                      exact ih c1 (i + 1) (top + (-1)) sm (0 :: L2) v38 (by omega) (by simpa using w5) (by rw [← hres, me_bin (by omega) (by omega) (by omega)]; rw [show mbin x22 y1 y2 = 0 by unfold mbin; (repeat' split); all_goals omega]) (by rw [hv38_35, hf39]; exact stk_push (by simp only [List.length_cons] at htop; omega) (by decide) hstk.2.2.2.2) (by simp only [List.length_cons] at *; omega) (by omega) hv38_32 hv38_34 frv38 (by omega)
                    · refine vx_iconst hC eX12_oddsOf_352 ?_
                      refine vx_goto hC (tgt := 357) (by decide) eX12_oddsOf_353 ?_
                      refine vx_top2 (fun x40 hx40 => ?_)
                      refine vx_zastore hC (ot_35 hO) (by omega) (by omega) (by omega) eX12_oddsOf_357 ?_
                      refine vx_vi (fun v41 hv41 => ?_)
                      have hv41_32 : v41 32 = s := by rw [hv41, xu_c _ _ _ _ (by decide), e1]
                      have hv41_34 : v41 34 = bb := by rw [hv41, xu_c _ _ _ _ (by decide), e3]
                      obtain ⟨f42, hf42⟩ : ∃ f, f = fu (m2 35) x40 1 := ⟨_, rfl⟩
                      have hv41_35 : v41 35 = f42 := by rw [hv41, hf42, xu_k]
                      have frv41 : ∀ k : Nat, (¬ k = 34 ∧ ¬ k = 35) → v41 k = vi k := fun k hk => by rw [hv41, xu_c _ _ _ _ (by omega)]; exact fr2 k hk
                      refine vx_goto hC (tgt := 404) (by decide) eX12_oddsOf_358 ?_
                      refine vx_iinc hC (lv1 := [(8, xa_i (i + 1)), (7, xa_i (top + (-1))), (9, xa_i x22), (0, xa_r 31), (1, xa_i p), (2, xa_i q), (3, xa_i st), (4, xa_i sm), (5, xa_i x17), (6, xa_i x18)]) 9 rfl (by decide) rfl eX12_oddsOf_404 ?_
                      refine vx_goto hC (tgt := 122) (by decide) eX12_oddsOf_407 ?_
                      refine vx_lv (lv1 := [(0, xa_r 31), (1, xa_i p), (2, xa_i q), (3, xa_i st), (4, xa_i sm), (5, xa_i x17), (6, xa_i x18), (7, xa_i (top + (-1))), (8, xa_i (i + 1))]) [3, 4, 5, 6, 7, 8, 9, 1, 0] rfl ?_
                      exact ih c1 (i + 1) (top + (-1)) sm (1 :: L2) v41 (by omega) (by simpa using w5) (by rw [← hres, me_bin (by omega) (by omega) (by omega)]; rw [show mbin x22 y1 y2 = 1 by unfold mbin; (repeat' split); all_goals omega]) (by rw [hv41_35, hf42]; exact stk_push (by simp only [List.length_cons] at htop; omega) (by decide) hstk.2.2.2.2) (by simp only [List.length_cons] at *; omega) (by omega) hv41_32 hv41_34 frv41 (by omega)
                · refine vx_aload_n hC 2 rfl eX12_oddsOf_300 ?_
                  refine vx_gr hC 10 (ot_31 hO) lf_X12_21 rfl (or_31_10 hO) eX12_oddsOf_301 ?_
                  refine vx_iload hC 0 rfl eX12_oddsOf_304 ?_
                  refine vx_iconst hC eX12_oddsOf_306 ?_
                  refine vx_isub hC eX12_oddsOf_307 ?_
                  refine vx_zaload hC (ot_35 hO) (by omega) (by omega) eX12_oddsOf_308 ?_
                  refine vx_eqi (y := y2) (by rw [show top + (-1) - 1 = (L2.length : Int) by omega]; exact hstk.2.2.1) ?_
                  refine vx_if_eq hC (tgt := 326) (by omega) (by decide) eX12_oddsOf_309 (fun c43 => ?_) (fun c43 => ?_)
                  · refine vx_iconst hC eX12_oddsOf_326 ?_
                    refine vx_goto hC (tgt := 357) (by decide) eX12_oddsOf_327 ?_
                    refine vx_top2 (fun x44 hx44 => ?_)
                    refine vx_zastore hC (ot_35 hO) (by omega) (by omega) (by omega) eX12_oddsOf_357 ?_
                    refine vx_vi (fun v45 hv45 => ?_)
                    have hv45_32 : v45 32 = s := by rw [hv45, xu_c _ _ _ _ (by decide), e1]
                    have hv45_34 : v45 34 = bb := by rw [hv45, xu_c _ _ _ _ (by decide), e3]
                    obtain ⟨f46, hf46⟩ : ∃ f, f = fu (m2 35) x44 0 := ⟨_, rfl⟩
                    have hv45_35 : v45 35 = f46 := by rw [hv45, hf46, xu_k]
                    have frv45 : ∀ k : Nat, (¬ k = 34 ∧ ¬ k = 35) → v45 k = vi k := fun k hk => by rw [hv45, xu_c _ _ _ _ (by omega)]; exact fr2 k hk
                    refine vx_goto hC (tgt := 404) (by decide) eX12_oddsOf_358 ?_
                    refine vx_iinc hC (lv1 := [(8, xa_i (i + 1)), (7, xa_i (top + (-1))), (9, xa_i x22), (0, xa_r 31), (1, xa_i p), (2, xa_i q), (3, xa_i st), (4, xa_i sm), (5, xa_i x17), (6, xa_i x18)]) 9 rfl (by decide) rfl eX12_oddsOf_404 ?_
                    refine vx_goto hC (tgt := 122) (by decide) eX12_oddsOf_407 ?_
                    refine vx_lv (lv1 := [(0, xa_r 31), (1, xa_i p), (2, xa_i q), (3, xa_i st), (4, xa_i sm), (5, xa_i x17), (6, xa_i x18), (7, xa_i (top + (-1))), (8, xa_i (i + 1))]) [3, 4, 5, 6, 7, 8, 9, 1, 0] rfl ?_
                    exact ih c1 (i + 1) (top + (-1)) sm (0 :: L2) v45 (by omega) (by simpa using w5) (by rw [← hres, me_bin (by omega) (by omega) (by omega)]; rw [show mbin x22 y1 y2 = 0 by unfold mbin; (repeat' split); all_goals omega]) (by rw [hv45_35, hf46]; exact stk_push (by simp only [List.length_cons] at htop; omega) (by decide) hstk.2.2.2.2) (by simp only [List.length_cons] at *; omega) (by omega) hv45_32 hv45_34 frv45 (by omega)
                  · refine vx_aload_n hC 2 rfl eX12_oddsOf_312 ?_
                    refine vx_gr hC 10 (ot_31 hO) lf_X12_21 rfl (or_31_10 hO) eX12_oddsOf_313 ?_
                    refine vx_iload hC 0 rfl eX12_oddsOf_316 ?_
                    refine vx_zaload hC (ot_35 hO) (by omega) (by omega) eX12_oddsOf_318 ?_
                    refine vx_eqi (y := y1) (by rw [show top + (-1) = (L2.length : Int) + 1 by omega]; exact hstk.1) ?_
                    refine vx_if_eq hC (tgt := 326) (by omega) (by decide) eX12_oddsOf_319 (fun c47 => ?_) (fun c47 => ?_)
                    · refine vx_iconst hC eX12_oddsOf_326 ?_
                      refine vx_goto hC (tgt := 357) (by decide) eX12_oddsOf_327 ?_
                      refine vx_top2 (fun x48 hx48 => ?_)
                      refine vx_zastore hC (ot_35 hO) (by omega) (by omega) (by omega) eX12_oddsOf_357 ?_
                      refine vx_vi (fun v49 hv49 => ?_)
                      have hv49_32 : v49 32 = s := by rw [hv49, xu_c _ _ _ _ (by decide), e1]
                      have hv49_34 : v49 34 = bb := by rw [hv49, xu_c _ _ _ _ (by decide), e3]
                      obtain ⟨f50, hf50⟩ : ∃ f, f = fu (m2 35) x48 0 := ⟨_, rfl⟩
                      have hv49_35 : v49 35 = f50 := by rw [hv49, hf50, xu_k]
                      have frv49 : ∀ k : Nat, (¬ k = 34 ∧ ¬ k = 35) → v49 k = vi k := fun k hk => by rw [hv49, xu_c _ _ _ _ (by omega)]; exact fr2 k hk
                      refine vx_goto hC (tgt := 404) (by decide) eX12_oddsOf_358 ?_
                      refine vx_iinc hC (lv1 := [(8, xa_i (i + 1)), (7, xa_i (top + (-1))), (9, xa_i x22), (0, xa_r 31), (1, xa_i p), (2, xa_i q), (3, xa_i st), (4, xa_i sm), (5, xa_i x17), (6, xa_i x18)]) 9 rfl (by decide) rfl eX12_oddsOf_404 ?_
                      refine vx_goto hC (tgt := 122) (by decide) eX12_oddsOf_407 ?_
                      refine vx_lv (lv1 := [(0, xa_r 31), (1, xa_i p), (2, xa_i q), (3, xa_i st), (4, xa_i sm), (5, xa_i x17), (6, xa_i x18), (7, xa_i (top + (-1))), (8, xa_i (i + 1))]) [3, 4, 5, 6, 7, 8, 9, 1, 0] rfl ?_
                      exact ih c1 (i + 1) (top + (-1)) sm (0 :: L2) v49 (by omega) (by simpa using w5) (by rw [← hres, me_bin (by omega) (by omega) (by omega)]; rw [show mbin x22 y1 y2 = 0 by unfold mbin; (repeat' split); all_goals omega]) (by rw [hv49_35, hf50]; exact stk_push (by simp only [List.length_cons] at htop; omega) (by decide) hstk.2.2.2.2) (by simp only [List.length_cons] at *; omega) (by omega) hv49_32 hv49_34 frv49 (by omega)
                    · refine vx_iconst hC eX12_oddsOf_322 ?_
                      refine vx_goto hC (tgt := 357) (by decide) eX12_oddsOf_323 ?_
                      refine vx_top2 (fun x51 hx51 => ?_)
                      refine vx_zastore hC (ot_35 hO) (by omega) (by omega) (by omega) eX12_oddsOf_357 ?_
                      refine vx_vi (fun v52 hv52 => ?_)
                      have hv52_32 : v52 32 = s := by rw [hv52, xu_c _ _ _ _ (by decide), e1]
                      have hv52_34 : v52 34 = bb := by rw [hv52, xu_c _ _ _ _ (by decide), e3]
                      obtain ⟨f53, hf53⟩ : ∃ f, f = fu (m2 35) x51 1 := ⟨_, rfl⟩
                      have hv52_35 : v52 35 = f53 := by rw [hv52, hf53, xu_k]
                      have frv52 : ∀ k : Nat, (¬ k = 34 ∧ ¬ k = 35) → v52 k = vi k := fun k hk => by rw [hv52, xu_c _ _ _ _ (by omega)]; exact fr2 k hk
                      refine vx_goto hC (tgt := 404) (by decide) eX12_oddsOf_358 ?_
                      refine vx_iinc hC (lv1 := [(8, xa_i (i + 1)), (7, xa_i (top + (-1))), (9, xa_i x22), (0, xa_r 31), (1, xa_i p), (2, xa_i q), (3, xa_i st), (4, xa_i sm), (5, xa_i x17), (6, xa_i x18)]) 9 rfl (by decide) rfl eX12_oddsOf_404 ?_
                      refine vx_goto hC (tgt := 122) (by decide) eX12_oddsOf_407 ?_
                      refine vx_lv (lv1 := [(0, xa_r 31), (1, xa_i p), (2, xa_i q), (3, xa_i st), (4, xa_i sm), (5, xa_i x17), (6, xa_i x18), (7, xa_i (top + (-1))), (8, xa_i (i + 1))]) [3, 4, 5, 6, 7, 8, 9, 1, 0] rfl ?_
                      exact ih c1 (i + 1) (top + (-1)) sm (1 :: L2) v52 (by omega) (by simpa using w5) (by rw [← hres, me_bin (by omega) (by omega) (by omega)]; rw [show mbin x22 y1 y2 = 1 by unfold mbin; (repeat' split); all_goals omega]) (by rw [hv52_35, hf53]; exact stk_push (by simp only [List.length_cons] at htop; omega) (by decide) hstk.2.2.2.2) (by simp only [List.length_cons] at *; omega) (by omega) hv52_32 hv52_34 frv52 (by omega)
            · have hm1 : x22 = -1 := by omega
              rw [hm1] at hwf hres
              obtain ⟨w1, w5⟩ := me_wf_not hwf
              obtain ⟨y, L1, rfl⟩ : ∃ y L1, L = y :: L1 := by cases L with | nil => simp at w1 | cons y L1 => exact ⟨y, L1, rfl⟩
              have hyb := hstk.2.1
              have hlen : ((y :: L1).length : Int) = (L1.length : Int) + 1 := by rw [List.length_cons]; omega
              refine vx_aload_n hC 1 rfl eX12_oddsOf_246 ?_
              refine vx_gr hC 10 (ot_31 hO) lf_X12_21 rfl (or_31_10 hO) eX12_oddsOf_247 ?_
              refine vx_iload hC 8 rfl eX12_oddsOf_250 ?_
              refine vx_iconst hC eX12_oddsOf_252 ?_
              refine vx_isub hC eX12_oddsOf_253 ?_
              refine vx_aload_n hC 1 rfl eX12_oddsOf_254 ?_
              refine vx_gr hC 10 (ot_31 hO) lf_X12_21 rfl (or_31_10 hO) eX12_oddsOf_255 ?_
              refine vx_iload hC 8 rfl eX12_oddsOf_258 ?_
              refine vx_iconst hC eX12_oddsOf_260 ?_
              refine vx_isub hC eX12_oddsOf_261 ?_
              refine vx_zaload hC (ot_35 hO) (by omega) (by omega) eX12_oddsOf_262 ?_
              refine vx_eqi (y := y) (by rw [show top - 1 = (L1.length : Int) by omega]; exact hstk.1) ?_
              refine vx_if_ne hC (tgt := 270) (by omega) (by decide) eX12_oddsOf_263 (fun c54 => ?_) (fun c54 => ?_)
              · refine vx_iconst hC eX12_oddsOf_270 ?_
                refine vx_top2 (fun x55 hx55 => ?_)
                refine vx_zastore hC (ot_35 hO) (by omega) (by omega) (by omega) eX12_oddsOf_271 ?_
                refine vx_vi (fun v56 hv56 => ?_)
                have hv56_32 : v56 32 = s := by rw [hv56, xu_c _ _ _ _ (by decide), e1]
                have hv56_34 : v56 34 = bb := by rw [hv56, xu_c _ _ _ _ (by decide), e3]
                obtain ⟨f57, hf57⟩ : ∃ f, f = fu (m2 35) x55 0 := ⟨_, rfl⟩
                have hv56_35 : v56 35 = f57 := by rw [hv56, hf57, xu_k]
                have frv56 : ∀ k : Nat, (¬ k = 34 ∧ ¬ k = 35) → v56 k = vi k := fun k hk => by rw [hv56, xu_c _ _ _ _ (by omega)]; exact fr2 k hk
                refine vx_goto hC (tgt := 404) (by decide) eX12_oddsOf_272 ?_
                refine vx_iinc hC (lv1 := [(8, xa_i (i + 1)), (9, xa_i x22), (0, xa_r 31), (1, xa_i p), (2, xa_i q), (3, xa_i st), (4, xa_i sm), (5, xa_i x17), (6, xa_i x18), (7, xa_i top)]) 9 rfl (by decide) rfl eX12_oddsOf_404 ?_
                refine vx_goto hC (tgt := 122) (by decide) eX12_oddsOf_407 ?_
                refine vx_lv (lv1 := [(0, xa_r 31), (1, xa_i p), (2, xa_i q), (3, xa_i st), (4, xa_i sm), (5, xa_i x17), (6, xa_i x18), (7, xa_i top), (8, xa_i (i + 1))]) [2, 3, 4, 5, 6, 7, 8, 9, 0] rfl ?_
                exact ih c1 (i + 1) top sm (0 :: L1) v56 (by omega) w5 (by rw [← hres, me_not]; rw [show mnot y = 0 by unfold mnot; (repeat' split); all_goals omega]) (by rw [hv56_35, hf57]; exact stk_push (by rw [List.length_cons] at htop; omega) (by decide) hstk.2.2) (by rw [List.length_cons] at *; omega) (by omega) hv56_32 hv56_34 frv56 (by omega)
              · refine vx_iconst hC eX12_oddsOf_266 ?_
                refine vx_goto hC (tgt := 271) (by decide) eX12_oddsOf_267 ?_
                refine vx_top2 (fun x58 hx58 => ?_)
                refine vx_zastore hC (ot_35 hO) (by omega) (by omega) (by omega) eX12_oddsOf_271 ?_
                refine vx_vi (fun v59 hv59 => ?_)
                have hv59_32 : v59 32 = s := by rw [hv59, xu_c _ _ _ _ (by decide), e1]
                have hv59_34 : v59 34 = bb := by rw [hv59, xu_c _ _ _ _ (by decide), e3]
                obtain ⟨f60, hf60⟩ : ∃ f, f = fu (m2 35) x58 1 := ⟨_, rfl⟩
                have hv59_35 : v59 35 = f60 := by rw [hv59, hf60, xu_k]
                have frv59 : ∀ k : Nat, (¬ k = 34 ∧ ¬ k = 35) → v59 k = vi k := fun k hk => by rw [hv59, xu_c _ _ _ _ (by omega)]; exact fr2 k hk
                refine vx_goto hC (tgt := 404) (by decide) eX12_oddsOf_272 ?_
                refine vx_iinc hC (lv1 := [(8, xa_i (i + 1)), (9, xa_i x22), (0, xa_r 31), (1, xa_i p), (2, xa_i q), (3, xa_i st), (4, xa_i sm), (5, xa_i x17), (6, xa_i x18), (7, xa_i top)]) 9 rfl (by decide) rfl eX12_oddsOf_404 ?_
                refine vx_goto hC (tgt := 122) (by decide) eX12_oddsOf_407 ?_
                refine vx_lv (lv1 := [(0, xa_r 31), (1, xa_i p), (2, xa_i q), (3, xa_i st), (4, xa_i sm), (5, xa_i x17), (6, xa_i x18), (7, xa_i top), (8, xa_i (i + 1))]) [2, 3, 4, 5, 6, 7, 8, 9, 0] rfl ?_
                exact ih c1 (i + 1) top sm (1 :: L1) v59 (by omega) w5 (by rw [← hres, me_not]; rw [show mnot y = 1 by unfold mnot; (repeat' split); all_goals omega]) (by rw [hv59_35, hf60]; exact stk_push (by rw [List.length_cons] at htop; omega) (by decide) hstk.2.2) (by rw [List.length_cons] at *; omega) (by omega) hv59_32 hv59_34 frv59 (by omega)
          · obtain ⟨w1, w2, w3, w4, w5⟩ := me_wf_pos (by omega) hwf
            have w6 := mb_r hW hp hq hst (x22 % 8)
            refine vx_aload_n hC 1 rfl eX12_oddsOf_146 ?_
            refine vx_gr hC 9 (ot_31 hO) lf_X12_18 rfl (or_31_9 hO) eX12_oddsOf_147 ?_
            refine vx_iload hC 0 rfl eX12_oddsOf_150 ?_
            refine vx_bipush hC (by decide) eX12_oddsOf_152 ?_
            refine vx_irem hC (by omega) eX12_oddsOf_154 ?_
            refine vx_iaload hC (ot_34 hO) (by omega) (by omega) eX12_oddsOf_155 ?_
            refine vx_eqi (congrFun e3 _) ?_
            refine vx_eqi (hbb _ (by omega) (by omega)) ?_
            refine vx_top (fun x61 hx61 => ?_)
            refine vx_istore hC (lv1 := [(10, xa_i x61), (9, xa_i x22), (0, xa_r 31), (1, xa_i p), (2, xa_i q), (3, xa_i st), (4, xa_i sm), (5, xa_i x17), (6, xa_i x18), (7, xa_i top), (8, xa_i i)]) (by decide) rfl eX12_oddsOf_156 ?_
            refine vx_iload hC 1 rfl eX12_oddsOf_158 ?_
            refine vx_bipush hC (by decide) eX12_oddsOf_160 ?_
            refine vx_idiv hC (by omega) eX12_oddsOf_162 ?_
            refine vx_iconst hC eX12_oddsOf_163 ?_
            refine vx_irem hC (by omega) eX12_oddsOf_164 ?_
            refine vx_top (fun x62 hx62 => ?_)
            refine vx_istore hC (lv1 := [(11, xa_i x62), (10, xa_i x61), (9, xa_i x22), (0, xa_r 31), (1, xa_i p), (2, xa_i q), (3, xa_i st), (4, xa_i sm), (5, xa_i x17), (6, xa_i x18), (7, xa_i top), (8, xa_i i)]) (by decide) rfl eX12_oddsOf_165 ?_
            refine vx_iload hC 2 rfl eX12_oddsOf_167 ?_
            refine vx_bipush hC (by decide) eX12_oddsOf_169 ?_
            refine vx_idiv hC (by omega) eX12_oddsOf_171 ?_
            refine vx_top (fun x63 hx63 => ?_)
            refine vx_istore hC (lv1 := [(12, xa_i x63), (11, xa_i x62), (10, xa_i x61), (9, xa_i x22), (0, xa_r 31), (1, xa_i p), (2, xa_i q), (3, xa_i st), (4, xa_i sm), (5, xa_i x17), (6, xa_i x18), (7, xa_i top), (8, xa_i i)]) (by decide) rfl eX12_oddsOf_172 ?_
            refine vx_aload_n hC 4 rfl eX12_oddsOf_174 ?_
            refine vx_gr hC 10 (ot_31 hO) lf_X12_21 rfl (or_31_10 hO) eX12_oddsOf_175 ?_
            refine vx_iload hC 11 rfl eX12_oddsOf_178 ?_
            refine vx_iload hC 1 rfl eX12_oddsOf_180 ?_
            refine vx_if_ne hC (tgt := 200) (by omega) (by decide) eX12_oddsOf_182 (fun c64 => ?_) (fun c64 => ?_)
            · refine vx_iload hC 1 rfl eX12_oddsOf_200 ?_
              refine vx_iconst hC eX12_oddsOf_202 ?_
              refine vx_icmp_ne hC (tgt := 221) (by omega) (by decide) eX12_oddsOf_203 (fun c65 => ?_) (fun c65 => ?_)
              · refine vx_iload hC 2 rfl eX12_oddsOf_221 ?_
                refine vx_iload hC 0 rfl eX12_oddsOf_223 ?_
                refine vx_icmp_le hC (tgt := 232) (by omega) (by decide) eX12_oddsOf_225 (fun c66 => ?_) (fun c66 => ?_)
                · refine vx_iconst hC eX12_oddsOf_232 ?_
                  refine vx_zastore hC (ot_35 hO) (by omega) (by omega) (by omega) eX12_oddsOf_233 ?_
                  refine vx_vi (fun v67 hv67 => ?_)
                  have hv67_32 : v67 32 = s := by rw [hv67, xu_c _ _ _ _ (by decide), e1]
                  have hv67_34 : v67 34 = bb := by rw [hv67, xu_c _ _ _ _ (by decide), e3]
                  obtain ⟨f68, hf68⟩ : ∃ f, f = fu (m2 35) top 0 := ⟨_, rfl⟩
                  have hv67_35 : v67 35 = f68 := by rw [hv67, hf68, xu_k]
                  have frv67 : ∀ k : Nat, (¬ k = 34 ∧ ¬ k = 35) → v67 k = vi k := fun k hk => by rw [hv67, xu_c _ _ _ _ (by omega)]; exact fr2 k hk
                  refine vx_iinc hC (lv1 := [(7, xa_i (top + 1)), (12, xa_i x63), (11, xa_i x62), (10, xa_i x61), (9, xa_i x22), (0, xa_r 31), (1, xa_i p), (2, xa_i q), (3, xa_i st), (4, xa_i sm), (5, xa_i x17), (6, xa_i x18), (8, xa_i i)]) 11 rfl (by decide) rfl eX12_oddsOf_234 ?_
                  refine vx_goto hC (tgt := 404) (by decide) eX12_oddsOf_237 ?_
                  refine vx_iinc hC (lv1 := [(8, xa_i (i + 1)), (7, xa_i (top + 1)), (12, xa_i x63), (11, xa_i x62), (10, xa_i x61), (9, xa_i x22), (0, xa_r 31), (1, xa_i p), (2, xa_i q), (3, xa_i st), (4, xa_i sm), (5, xa_i x17), (6, xa_i x18)]) 12 rfl (by decide) rfl eX12_oddsOf_404 ?_
                  refine vx_goto hC (tgt := 122) (by decide) eX12_oddsOf_407 ?_
                  refine vx_lv (lv1 := [(0, xa_r 31), (1, xa_i p), (2, xa_i q), (3, xa_i st), (4, xa_i sm), (5, xa_i x17), (6, xa_i x18), (7, xa_i (top + 1)), (8, xa_i (i + 1))]) [6, 7, 8, 9, 10, 11, 12, 1, 0] rfl ?_
                  exact ih c1 (i + 1) (top + 1) sm (0 :: L) v67 (by omega) w5 (by rw [← hres, me_pos (by omega)]; rw [show mtst (mb s p q st) x22 = 0 by unfold mtst; (repeat' split); all_goals omega]) (by rw [hv67_35, hf68]; exact stk_push (by omega) (by decide) hstk) (by rw [List.length_cons]; omega) (by omega) hv67_32 hv67_34 frv67 (by omega)
                · refine vx_iconst hC eX12_oddsOf_228 ?_
                  refine vx_goto hC (tgt := 233) (by decide) eX12_oddsOf_229 ?_
                  refine vx_zastore hC (ot_35 hO) (by omega) (by omega) (by omega) eX12_oddsOf_233 ?_
                  refine vx_vi (fun v69 hv69 => ?_)
                  have hv69_32 : v69 32 = s := by rw [hv69, xu_c _ _ _ _ (by decide), e1]
                  have hv69_34 : v69 34 = bb := by rw [hv69, xu_c _ _ _ _ (by decide), e3]
                  obtain ⟨f70, hf70⟩ : ∃ f, f = fu (m2 35) top 1 := ⟨_, rfl⟩
                  have hv69_35 : v69 35 = f70 := by rw [hv69, hf70, xu_k]
                  have frv69 : ∀ k : Nat, (¬ k = 34 ∧ ¬ k = 35) → v69 k = vi k := fun k hk => by rw [hv69, xu_c _ _ _ _ (by omega)]; exact fr2 k hk
                  refine vx_iinc hC (lv1 := [(7, xa_i (top + 1)), (12, xa_i x63), (11, xa_i x62), (10, xa_i x61), (9, xa_i x22), (0, xa_r 31), (1, xa_i p), (2, xa_i q), (3, xa_i st), (4, xa_i sm), (5, xa_i x17), (6, xa_i x18), (8, xa_i i)]) 11 rfl (by decide) rfl eX12_oddsOf_234 ?_
                  refine vx_goto hC (tgt := 404) (by decide) eX12_oddsOf_237 ?_
                  refine vx_iinc hC (lv1 := [(8, xa_i (i + 1)), (7, xa_i (top + 1)), (12, xa_i x63), (11, xa_i x62), (10, xa_i x61), (9, xa_i x22), (0, xa_r 31), (1, xa_i p), (2, xa_i q), (3, xa_i st), (4, xa_i sm), (5, xa_i x17), (6, xa_i x18)]) 12 rfl (by decide) rfl eX12_oddsOf_404 ?_
                  refine vx_goto hC (tgt := 122) (by decide) eX12_oddsOf_407 ?_
                  refine vx_lv (lv1 := [(0, xa_r 31), (1, xa_i p), (2, xa_i q), (3, xa_i st), (4, xa_i sm), (5, xa_i x17), (6, xa_i x18), (7, xa_i (top + 1)), (8, xa_i (i + 1))]) [6, 7, 8, 9, 10, 11, 12, 1, 0] rfl ?_
                  exact ih c1 (i + 1) (top + 1) sm (1 :: L) v69 (by omega) w5 (by rw [← hres, me_pos (by omega)]; rw [show mtst (mb s p q st) x22 = 1 by unfold mtst; (repeat' split); all_goals omega]) (by rw [hv69_35, hf70]; exact stk_push (by omega) (by decide) hstk) (by rw [List.length_cons]; omega) (by omega) hv69_32 hv69_34 frv69 (by omega)
              · refine vx_iload hC 2 rfl eX12_oddsOf_206 ?_
                refine vx_iload hC 0 rfl eX12_oddsOf_208 ?_
                refine vx_icmp_ne hC (tgt := 217) (by omega) (by decide) eX12_oddsOf_210 (fun c71 => ?_) (fun c71 => ?_)
                · refine vx_iconst hC eX12_oddsOf_217 ?_
                  refine vx_goto hC (tgt := 233) (by decide) eX12_oddsOf_218 ?_
                  refine vx_zastore hC (ot_35 hO) (by omega) (by omega) (by omega) eX12_oddsOf_233 ?_
                  refine vx_vi (fun v72 hv72 => ?_)
                  have hv72_32 : v72 32 = s := by rw [hv72, xu_c _ _ _ _ (by decide), e1]
                  have hv72_34 : v72 34 = bb := by rw [hv72, xu_c _ _ _ _ (by decide), e3]
                  obtain ⟨f73, hf73⟩ : ∃ f, f = fu (m2 35) top 0 := ⟨_, rfl⟩
                  have hv72_35 : v72 35 = f73 := by rw [hv72, hf73, xu_k]
                  have frv72 : ∀ k : Nat, (¬ k = 34 ∧ ¬ k = 35) → v72 k = vi k := fun k hk => by rw [hv72, xu_c _ _ _ _ (by omega)]; exact fr2 k hk
                  refine vx_iinc hC (lv1 := [(7, xa_i (top + 1)), (12, xa_i x63), (11, xa_i x62), (10, xa_i x61), (9, xa_i x22), (0, xa_r 31), (1, xa_i p), (2, xa_i q), (3, xa_i st), (4, xa_i sm), (5, xa_i x17), (6, xa_i x18), (8, xa_i i)]) 11 rfl (by decide) rfl eX12_oddsOf_234 ?_
                  refine vx_goto hC (tgt := 404) (by decide) eX12_oddsOf_237 ?_
                  refine vx_iinc hC (lv1 := [(8, xa_i (i + 1)), (7, xa_i (top + 1)), (12, xa_i x63), (11, xa_i x62), (10, xa_i x61), (9, xa_i x22), (0, xa_r 31), (1, xa_i p), (2, xa_i q), (3, xa_i st), (4, xa_i sm), (5, xa_i x17), (6, xa_i x18)]) 12 rfl (by decide) rfl eX12_oddsOf_404 ?_
                  refine vx_goto hC (tgt := 122) (by decide) eX12_oddsOf_407 ?_
                  refine vx_lv (lv1 := [(0, xa_r 31), (1, xa_i p), (2, xa_i q), (3, xa_i st), (4, xa_i sm), (5, xa_i x17), (6, xa_i x18), (7, xa_i (top + 1)), (8, xa_i (i + 1))]) [6, 7, 8, 9, 10, 11, 12, 1, 0] rfl ?_
                  exact ih c1 (i + 1) (top + 1) sm (0 :: L) v72 (by omega) w5 (by rw [← hres, me_pos (by omega)]; rw [show mtst (mb s p q st) x22 = 0 by unfold mtst; (repeat' split); all_goals omega]) (by rw [hv72_35, hf73]; exact stk_push (by omega) (by decide) hstk) (by rw [List.length_cons]; omega) (by omega) hv72_32 hv72_34 frv72 (by omega)
                · refine vx_iconst hC eX12_oddsOf_213 ?_
                  refine vx_goto hC (tgt := 233) (by decide) eX12_oddsOf_214 ?_
                  refine vx_zastore hC (ot_35 hO) (by omega) (by omega) (by omega) eX12_oddsOf_233 ?_
                  refine vx_vi (fun v74 hv74 => ?_)
                  have hv74_32 : v74 32 = s := by rw [hv74, xu_c _ _ _ _ (by decide), e1]
                  have hv74_34 : v74 34 = bb := by rw [hv74, xu_c _ _ _ _ (by decide), e3]
                  obtain ⟨f75, hf75⟩ : ∃ f, f = fu (m2 35) top 1 := ⟨_, rfl⟩
                  have hv74_35 : v74 35 = f75 := by rw [hv74, hf75, xu_k]
                  have frv74 : ∀ k : Nat, (¬ k = 34 ∧ ¬ k = 35) → v74 k = vi k := fun k hk => by rw [hv74, xu_c _ _ _ _ (by omega)]; exact fr2 k hk
                  refine vx_iinc hC (lv1 := [(7, xa_i (top + 1)), (12, xa_i x63), (11, xa_i x62), (10, xa_i x61), (9, xa_i x22), (0, xa_r 31), (1, xa_i p), (2, xa_i q), (3, xa_i st), (4, xa_i sm), (5, xa_i x17), (6, xa_i x18), (8, xa_i i)]) 11 rfl (by decide) rfl eX12_oddsOf_234 ?_
                  refine vx_goto hC (tgt := 404) (by decide) eX12_oddsOf_237 ?_
                  refine vx_iinc hC (lv1 := [(8, xa_i (i + 1)), (7, xa_i (top + 1)), (12, xa_i x63), (11, xa_i x62), (10, xa_i x61), (9, xa_i x22), (0, xa_r 31), (1, xa_i p), (2, xa_i q), (3, xa_i st), (4, xa_i sm), (5, xa_i x17), (6, xa_i x18)]) 12 rfl (by decide) rfl eX12_oddsOf_404 ?_
                  refine vx_goto hC (tgt := 122) (by decide) eX12_oddsOf_407 ?_
                  refine vx_lv (lv1 := [(0, xa_r 31), (1, xa_i p), (2, xa_i q), (3, xa_i st), (4, xa_i sm), (5, xa_i x17), (6, xa_i x18), (7, xa_i (top + 1)), (8, xa_i (i + 1))]) [6, 7, 8, 9, 10, 11, 12, 1, 0] rfl ?_
                  exact ih c1 (i + 1) (top + 1) sm (1 :: L) v74 (by omega) w5 (by rw [← hres, me_pos (by omega)]; rw [show mtst (mb s p q st) x22 = 1 by unfold mtst; (repeat' split); all_goals omega]) (by rw [hv74_35, hf75]; exact stk_push (by omega) (by decide) hstk) (by rw [List.length_cons]; omega) (by omega) hv74_32 hv74_34 frv74 (by omega)
            · refine vx_iload hC 2 rfl eX12_oddsOf_185 ?_
              refine vx_iload hC 0 rfl eX12_oddsOf_187 ?_
              refine vx_icmp_ge hC (tgt := 196) (by omega) (by decide) eX12_oddsOf_189 (fun c76 => ?_) (fun c76 => ?_)
              · refine vx_iconst hC eX12_oddsOf_196 ?_
                refine vx_goto hC (tgt := 233) (by decide) eX12_oddsOf_197 ?_
                refine vx_zastore hC (ot_35 hO) (by omega) (by omega) (by omega) eX12_oddsOf_233 ?_
                refine vx_vi (fun v77 hv77 => ?_)
                have hv77_32 : v77 32 = s := by rw [hv77, xu_c _ _ _ _ (by decide), e1]
                have hv77_34 : v77 34 = bb := by rw [hv77, xu_c _ _ _ _ (by decide), e3]
                obtain ⟨f78, hf78⟩ : ∃ f, f = fu (m2 35) top 0 := ⟨_, rfl⟩
                have hv77_35 : v77 35 = f78 := by rw [hv77, hf78, xu_k]
                have frv77 : ∀ k : Nat, (¬ k = 34 ∧ ¬ k = 35) → v77 k = vi k := fun k hk => by rw [hv77, xu_c _ _ _ _ (by omega)]; exact fr2 k hk
                refine vx_iinc hC (lv1 := [(7, xa_i (top + 1)), (12, xa_i x63), (11, xa_i x62), (10, xa_i x61), (9, xa_i x22), (0, xa_r 31), (1, xa_i p), (2, xa_i q), (3, xa_i st), (4, xa_i sm), (5, xa_i x17), (6, xa_i x18), (8, xa_i i)]) 11 rfl (by decide) rfl eX12_oddsOf_234 ?_
                refine vx_goto hC (tgt := 404) (by decide) eX12_oddsOf_237 ?_
                refine vx_iinc hC (lv1 := [(8, xa_i (i + 1)), (7, xa_i (top + 1)), (12, xa_i x63), (11, xa_i x62), (10, xa_i x61), (9, xa_i x22), (0, xa_r 31), (1, xa_i p), (2, xa_i q), (3, xa_i st), (4, xa_i sm), (5, xa_i x17), (6, xa_i x18)]) 12 rfl (by decide) rfl eX12_oddsOf_404 ?_
                refine vx_goto hC (tgt := 122) (by decide) eX12_oddsOf_407 ?_
                refine vx_lv (lv1 := [(0, xa_r 31), (1, xa_i p), (2, xa_i q), (3, xa_i st), (4, xa_i sm), (5, xa_i x17), (6, xa_i x18), (7, xa_i (top + 1)), (8, xa_i (i + 1))]) [6, 7, 8, 9, 10, 11, 12, 1, 0] rfl ?_
                exact ih c1 (i + 1) (top + 1) sm (0 :: L) v77 (by omega) w5 (by rw [← hres, me_pos (by omega)]; rw [show mtst (mb s p q st) x22 = 0 by unfold mtst; (repeat' split); all_goals omega]) (by rw [hv77_35, hf78]; exact stk_push (by omega) (by decide) hstk) (by rw [List.length_cons]; omega) (by omega) hv77_32 hv77_34 frv77 (by omega)
              · refine vx_iconst hC eX12_oddsOf_192 ?_
                refine vx_goto hC (tgt := 233) (by decide) eX12_oddsOf_193 ?_
                refine vx_zastore hC (ot_35 hO) (by omega) (by omega) (by omega) eX12_oddsOf_233 ?_
                refine vx_vi (fun v79 hv79 => ?_)
                have hv79_32 : v79 32 = s := by rw [hv79, xu_c _ _ _ _ (by decide), e1]
                have hv79_34 : v79 34 = bb := by rw [hv79, xu_c _ _ _ _ (by decide), e3]
                obtain ⟨f80, hf80⟩ : ∃ f, f = fu (m2 35) top 1 := ⟨_, rfl⟩
                have hv79_35 : v79 35 = f80 := by rw [hv79, hf80, xu_k]
                have frv79 : ∀ k : Nat, (¬ k = 34 ∧ ¬ k = 35) → v79 k = vi k := fun k hk => by rw [hv79, xu_c _ _ _ _ (by omega)]; exact fr2 k hk
                refine vx_iinc hC (lv1 := [(7, xa_i (top + 1)), (12, xa_i x63), (11, xa_i x62), (10, xa_i x61), (9, xa_i x22), (0, xa_r 31), (1, xa_i p), (2, xa_i q), (3, xa_i st), (4, xa_i sm), (5, xa_i x17), (6, xa_i x18), (8, xa_i i)]) 11 rfl (by decide) rfl eX12_oddsOf_234 ?_
                refine vx_goto hC (tgt := 404) (by decide) eX12_oddsOf_237 ?_
                refine vx_iinc hC (lv1 := [(8, xa_i (i + 1)), (7, xa_i (top + 1)), (12, xa_i x63), (11, xa_i x62), (10, xa_i x61), (9, xa_i x22), (0, xa_r 31), (1, xa_i p), (2, xa_i q), (3, xa_i st), (4, xa_i sm), (5, xa_i x17), (6, xa_i x18)]) 12 rfl (by decide) rfl eX12_oddsOf_404 ?_
                refine vx_goto hC (tgt := 122) (by decide) eX12_oddsOf_407 ?_
                refine vx_lv (lv1 := [(0, xa_r 31), (1, xa_i p), (2, xa_i q), (3, xa_i st), (4, xa_i sm), (5, xa_i x17), (6, xa_i x18), (7, xa_i (top + 1)), (8, xa_i (i + 1))]) [6, 7, 8, 9, 10, 11, 12, 1, 0] rfl ?_
                exact ih c1 (i + 1) (top + 1) sm (1 :: L) v79 (by omega) w5 (by rw [← hres, me_pos (by omega)]; rw [show mtst (mb s p q st) x22 = 1 by unfold mtst; (repeat' split); all_goals omega]) (by rw [hv79_35, hf80]; exact stk_push (by omega) (by decide) hstk) (by rw [List.length_cons]; omega) (by omega) hv79_32 hv79_34 frv79 (by omega)
    refine vx_lv (lv1 := [(0, xa_r 31), (1, xa_i p), (2, xa_i q), (3, xa_i st), (4, xa_i 5), (5, xa_i x17), (6, xa_i x18), (7, xa_i 0), (8, xa_i x18)]) [5, 6, 7, 8, 4, 3, 2, 1, 0] rfl ?_
    exact LP122 121 (x17 : Int).toNat x18 0 5 [] v14 (by omega) hwf0 hres0 trivial ⟨rfl, by decide⟩ (by omega) hv14_32 e34 frv14 (by omega)
  · refine vx_iconst hC eX12_oddsOf_78 ?_
    refine vx_goto hC (tgt := 97) (by decide) eX12_oddsOf_79 ?_
    refine vx_istore hC (lv1 := [(5, xa_i 0), (4, xa_i 5), (0, xa_r 31), (1, xa_i p), (2, xa_i q), (3, xa_i st)]) (by decide) rfl eX12_oddsOf_97 ?_
    refine vx_sipush hC (by decide) eX12_oddsOf_99 ?_
    refine vx_sipush hC (by decide) eX12_oddsOf_102 ?_
    refine vx_aload_n hC 2 rfl eX12_oddsOf_105 ?_
    refine vx_gr hC 1 (ot_31 hO) lf_X12_9 rfl (or_31_1 hO) eX12_oddsOf_106 ?_
    refine vx_iconst hC eX12_oddsOf_109 ?_
    refine vx_iaload hC (ot_32 hO) (by omega) (by omega) eX12_oddsOf_110 ?_
    refine vx_eqi (congrFun hv14_32 _) ?_
    refine vx_imul hC eX12_oddsOf_111 ?_
    refine vx_iadd hC eX12_oddsOf_112 ?_
    refine vx_top (fun x81 hx81 => ?_)
    refine vx_istore hC (lv1 := [(6, xa_i x81), (5, xa_i 0), (4, xa_i 5), (0, xa_r 31), (1, xa_i p), (2, xa_i q), (3, xa_i st)]) (by decide) rfl eX12_oddsOf_113 ?_
    obtain ⟨bb, hbe⟩ : ∃ f, f = f15 := ⟨_, rfl⟩
    have e34 : v14 34 = bb := by rw [hbe]; exact hv14_34
    have hbb : ∀ j : Int, 0 ≤ j → j < 6 → bb j = mb s p q st j := by
      intro j j1 j2
      rw [hbe, hf15, hf12, hf10, hf7, hf5, hf2]
      simp only [hx3, hx8, hx13, hx81]
      unfold fu mb
      rcases (show j = 0 ∨ j = 1 ∨ j = 2 ∨ j = 3 ∨ j = 4 ∨ j = 5 by omega) with rfl | rfl | rfl | rfl | rfl | rfl <;> simp
    have hml : ms_hold s = msl s x81 (0 : Int).toNat := by
      unfold ms_hold
      first | (rw [if_pos (by omega)]; rw [show (0 : Int).toNat = 0 by omega]; rfl) | (rw [if_neg (by omega)]; unfold ms_steps; rw [hx81])
    have hwf0 : me_wf (msl s x81 (0 : Int).toNat) ([] : List Int).length = true := by
      rw [← hml]; unfold ms_hold
      first | (rw [if_pos (by omega)]; rfl) | (rw [if_neg (by omega)]; exact (htab (s 4) (by omega) (by omega)).2.2)
    have hres0 : me (mb s p q st) (msl s x81 (0 : Int).toNat) [] 5 = me (mb s p q st) (ms_hold s) [] 5 := by rw [hml]
    refine vx_iconst hC eX12_oddsOf_115 ?_
    refine vx_istore hC (lv1 := [(7, xa_i 0), (6, xa_i x81), (5, xa_i 0), (4, xa_i 5), (0, xa_r 31), (1, xa_i p), (2, xa_i q), (3, xa_i st)]) (by decide) rfl eX12_oddsOf_116 ?_
    refine vx_iload hC 1 rfl eX12_oddsOf_118 ?_
    refine vx_istore hC (lv1 := [(8, xa_i x81), (7, xa_i 0), (6, xa_i x81), (5, xa_i 0), (4, xa_i 5), (0, xa_r 31), (1, xa_i p), (2, xa_i q), (3, xa_i st)]) (by decide) rfl eX12_oddsOf_120 ?_
    have LP122 : ∀ (j : Nat) (c : Nat) (i : Int) (top : Int) (sm : Int) (L : List Int) (m2 : Nat → Int → Int) (hc : i + (c : Int) = x81 + 0 ∧ 0 ≤ i ∧ x81 + 0 ≤ 876 ∧ c ≤ 120) (hwf : me_wf (msl s i c) L.length = true) (hres : me (mb s p q st) (msl s i c) L sm = (me (mb s p q st) (ms_hold s) [] 5)) (hstk : stk (m2 35) L) (htop : top = (L.length : Int) ∧ L.length ≤ 60) (hsm : -50000 + 300 * (c : Int) ≤ sm ∧ sm ≤ 50000 - 300 * (c : Int)) (e1 : m2 32 = s) (e3 : m2 34 = bb) (fr2 : ∀ k : Nat, (¬ k = 34 ∧ ¬ k = 35) → m2 k = vi k) (hj : (c : Int) < (j : Int)), xv G K 13 (xk_Q G K (xp_i (fun z9 n1 t1 a1 b1 c1 => (z9 = ms_odds s p q st) ∧ xs_I (fun k => ¬ k = 34 ∧ ¬ k = 35) n tau vi vl vr n1 t1 a1 b1 c1)) 0 0) 0 0 n tau m2 vl vr 122 [(0, xa_r 31), (1, xa_i p), (2, xa_i q), (3, xa_i st), (4, xa_i sm), (5, xa_i 0), (6, xa_i x81), (7, xa_i top), (8, xa_i i)] [] := by
      intro j
      induction j with
      | zero => intro c i top sm L m2 hc hwf hres hstk htop hsm e1 e3 fr2 hj; exfalso; omega
      | succ j ih =>
        intro c i top sm L m2 hc hwf hres hstk htop hsm e1 e3 fr2 hj
        refine vx_iload hC 8 rfl eX12_oddsOf_122 ?_
        refine vx_iload hC 6 rfl eX12_oddsOf_124 ?_
        refine vx_iload hC 5 rfl eX12_oddsOf_126 ?_
        refine vx_iadd hC eX12_oddsOf_128 ?_
        refine vx_icmp_ge hC (tgt := 410) (by omega) (by decide) eX12_oddsOf_129 (fun c82 => ?_) (fun c82 => ?_)
        · refine vx_iload hC 4 rfl eX12_oddsOf_410 ?_
          refine vx_iconst hC eX12_oddsOf_412 ?_
          refine vx_icmp_ge hC (tgt := 420) (by omega) (by decide) eX12_oddsOf_413 (fun c83 => ?_) (fun c83 => ?_)
          · refine vx_iload hC 4 rfl eX12_oddsOf_420 ?_
            refine vx_bipush hC (by decide) eX12_oddsOf_422 ?_
            refine vx_icmp_le hC (tgt := 432) (by omega) (by decide) eX12_oddsOf_424 (fun c84 => ?_) (fun c84 => ?_)
            · refine vx_iload hC 4 rfl eX12_oddsOf_432 ?_
              exact vx_iret hC hM rfl eX12_oddsOf_434 (⟨_, rfl, (by unfold ms_odds mclamp; rw [← hres, show c = 0 by omega, msl, me]; (repeat' split); all_goals omega), rfl, rfl, rfl, rfl, fun k hk => fr2 k hk⟩)
            · refine vx_bipush hC (by decide) eX12_oddsOf_427 ?_
              refine vx_goto hC (tgt := 434) (by decide) eX12_oddsOf_429 ?_
              exact vx_iret hC hM rfl eX12_oddsOf_434 (⟨_, rfl, (by unfold ms_odds mclamp; rw [← hres, show c = 0 by omega, msl, me]; (repeat' split); all_goals omega), rfl, rfl, rfl, rfl, fun k hk => fr2 k hk⟩)
          · refine vx_iconst hC eX12_oddsOf_416 ?_
            refine vx_goto hC (tgt := 434) (by decide) eX12_oddsOf_417 ?_
            exact vx_iret hC hM rfl eX12_oddsOf_434 (⟨_, rfl, (by unfold ms_odds mclamp; rw [← hres, show c = 0 by omega, msl, me]; (repeat' split); all_goals omega), rfl, rfl, rfl, rfl, fun k hk => fr2 k hk⟩)
        · obtain ⟨c1, rfl⟩ : ∃ c1, c = c1 + 1 := ⟨c - 1, by omega⟩
          have hri := hr i
          refine vx_aload_n hC 0 rfl eX12_oddsOf_132 ?_
          refine vx_gr hC 1 (ot_31 hO) lf_X12_9 rfl (or_31_1 hO) eX12_oddsOf_133 ?_
          refine vx_iload hC 8 rfl eX12_oddsOf_136 ?_
          refine vx_iaload hC (ot_32 hO) (by omega) (by omega) eX12_oddsOf_138 ?_
          refine vx_eqi (congrFun e1 _) ?_
          refine vx_top (fun x85 hx85 => ?_)
          refine vx_istore hC (lv1 := [(9, xa_i x85), (0, xa_r 31), (1, xa_i p), (2, xa_i q), (3, xa_i st), (4, xa_i sm), (5, xa_i 0), (6, xa_i x81), (7, xa_i top), (8, xa_i i)]) (by decide) rfl eX12_oddsOf_139 ?_
          replace hwf : me_wf (x85 :: msl s (i + 1) c1) L.length = true := by rw [hx85]; exact hwf
          replace hres : me (mb s p q st) (x85 :: msl s (i + 1) c1) L sm = me (mb s p q st) (ms_hold s) [] 5 := by rw [hx85]; exact hres
          refine vx_iload hC 0 rfl eX12_oddsOf_141 ?_
          refine vx_if_lt hC (tgt := 240) (by omega) (by decide) eX12_oddsOf_143 (fun c86 => ?_) (fun c86 => ?_)
          · refine vx_iload hC 0 rfl eX12_oddsOf_240 ?_
            refine vx_iconst hC eX12_oddsOf_242 ?_
            refine vx_icmp_ne hC (tgt := 275) (by omega) (by decide) eX12_oddsOf_243 (fun c87 => ?_) (fun c87 => ?_)
            · refine vx_iload hC 0 rfl eX12_oddsOf_275 ?_
              refine vx_bipush hC (by decide) eX12_oddsOf_277 ?_
              refine vx_icmp_le hC (tgt := 361) (by omega) (by decide) eX12_oddsOf_279 (fun c88 => ?_) (fun c88 => ?_)
              · obtain ⟨w0, w1, w2, w5⟩ := me_wf_end (by omega) hwf
                obtain ⟨y, rfl⟩ : ∃ y, L = [y] := by cases L with | nil => simp at w2 | cons y L1 => cases L1 with | nil => exact ⟨y, rfl⟩ | cons y2 L2 => simp at w2
                have hyb := hstk.2.1
                refine vx_iconst hC eX12_oddsOf_361 ?_
                refine vx_istore hC (lv1 := [(7, xa_i 0), (9, xa_i x85), (0, xa_r 31), (1, xa_i p), (2, xa_i q), (3, xa_i st), (4, xa_i sm), (5, xa_i 0), (6, xa_i x81), (8, xa_i i)]) (by decide) rfl eX12_oddsOf_362 ?_
                refine vx_iload hC 6 rfl eX12_oddsOf_364 ?_
                refine vx_aload_n hC 2 rfl eX12_oddsOf_366 ?_
                refine vx_gr hC 10 (ot_31 hO) lf_X12_21 rfl (or_31_10 hO) eX12_oddsOf_367 ?_
                refine vx_iconst hC eX12_oddsOf_370 ?_
                refine vx_zaload hC (ot_35 hO) (by omega) (by omega) eX12_oddsOf_371 ?_
                refine vx_eqi (y := y) hstk.1 ?_
                refine vx_if_ne hC (tgt := 379) (by omega) (by decide) eX12_oddsOf_372 (fun c89 => ?_) (fun c89 => ?_)
                · refine vx_iload hC 1 rfl eX12_oddsOf_379 ?_
                  refine vx_sipush hC (by decide) eX12_oddsOf_381 ?_
                  refine vx_icmp_le hC (tgt := 395) (by omega) (by decide) eX12_oddsOf_384 (fun c90 => ?_) (fun c90 => ?_)
                  · refine vx_iload hC 1 rfl eX12_oddsOf_395 ?_
                    refine vx_sipush hC (by decide) eX12_oddsOf_397 ?_
                    refine vx_isub hC eX12_oddsOf_400 ?_
                    refine vx_iadd hC eX12_oddsOf_401 ?_
                    refine vx_top (fun x91 hx91 => ?_)
                    refine vx_istore hC (lv1 := [(4, xa_i x91), (7, xa_i 0), (9, xa_i x85), (0, xa_r 31), (1, xa_i p), (2, xa_i q), (3, xa_i st), (5, xa_i 0), (6, xa_i x81), (8, xa_i i)]) (by decide) rfl eX12_oddsOf_402 ?_
                    refine vx_iinc hC (lv1 := [(8, xa_i (i + 1)), (4, xa_i x91), (7, xa_i 0), (9, xa_i x85), (0, xa_r 31), (1, xa_i p), (2, xa_i q), (3, xa_i st), (5, xa_i 0), (6, xa_i x81)]) 9 rfl (by decide) rfl eX12_oddsOf_404 ?_
                    refine vx_goto hC (tgt := 122) (by decide) eX12_oddsOf_407 ?_
                    refine vx_lv (lv1 := [(0, xa_r 31), (1, xa_i p), (2, xa_i q), (3, xa_i st), (4, xa_i x91), (5, xa_i 0), (6, xa_i x81), (7, xa_i 0), (8, xa_i (i + 1))]) [4, 5, 6, 7, 1, 8, 9, 2, 0] rfl ?_
                    exact ih c1 (i + 1) 0 x91 [] m2 (by omega) w5 (by rw [← hres, me_end (by omega)]; congr 1; simp only [hx3, hx8, hx13, hx81, hx85, hx91, hf15, hf12, hf10, hf7, hf5, hf2]; unfold mend mwt; (repeat' split); all_goals omega) trivial ⟨rfl, by decide⟩ (by omega) e1 e3 fr2 (by omega)
                  · refine vx_bipush hC (by decide) eX12_oddsOf_387 ?_
                    refine vx_iload hC 1 rfl eX12_oddsOf_389 ?_
                    refine vx_isub hC eX12_oddsOf_391 ?_
                    refine vx_goto hC (tgt := 401) (by decide) eX12_oddsOf_392 ?_
                    refine vx_iadd hC eX12_oddsOf_401 ?_
                    refine vx_top (fun x92 hx92 => ?_)
                    refine vx_istore hC (lv1 := [(4, xa_i x92), (7, xa_i 0), (9, xa_i x85), (0, xa_r 31), (1, xa_i p), (2, xa_i q), (3, xa_i st), (5, xa_i 0), (6, xa_i x81), (8, xa_i i)]) (by decide) rfl eX12_oddsOf_402 ?_
                    refine vx_iinc hC (lv1 := [(8, xa_i (i + 1)), (4, xa_i x92), (7, xa_i 0), (9, xa_i x85), (0, xa_r 31), (1, xa_i p), (2, xa_i q), (3, xa_i st), (5, xa_i 0), (6, xa_i x81)]) 9 rfl (by decide) rfl eX12_oddsOf_404 ?_
                    refine vx_goto hC (tgt := 122) (by decide) eX12_oddsOf_407 ?_
                    refine vx_lv (lv1 := [(0, xa_r 31), (1, xa_i p), (2, xa_i q), (3, xa_i st), (4, xa_i x92), (5, xa_i 0), (6, xa_i x81), (7, xa_i 0), (8, xa_i (i + 1))]) [4, 5, 6, 7, 1, 8, 9, 2, 0] rfl ?_
                    exact ih c1 (i + 1) 0 x92 [] m2 (by omega) w5 (by rw [← hres, me_end (by omega)]; congr 1; simp only [hx3, hx8, hx13, hx81, hx85, hx92, hf15, hf12, hf10, hf7, hf5, hf2]; unfold mend mwt; (repeat' split); all_goals omega) trivial ⟨rfl, by decide⟩ (by omega) e1 e3 fr2 (by omega)
                · refine vx_iconst hC eX12_oddsOf_375 ?_
                  refine vx_goto hC (tgt := 401) (by decide) eX12_oddsOf_376 ?_
                  refine vx_iadd hC eX12_oddsOf_401 ?_
                  refine vx_top (fun x93 hx93 => ?_)
                  refine vx_istore hC (lv1 := [(4, xa_i x93), (7, xa_i 0), (9, xa_i x85), (0, xa_r 31), (1, xa_i p), (2, xa_i q), (3, xa_i st), (5, xa_i 0), (6, xa_i x81), (8, xa_i i)]) (by decide) rfl eX12_oddsOf_402 ?_
                  refine vx_iinc hC (lv1 := [(8, xa_i (i + 1)), (4, xa_i x93), (7, xa_i 0), (9, xa_i x85), (0, xa_r 31), (1, xa_i p), (2, xa_i q), (3, xa_i st), (5, xa_i 0), (6, xa_i x81)]) 9 rfl (by decide) rfl eX12_oddsOf_404 ?_
                  refine vx_goto hC (tgt := 122) (by decide) eX12_oddsOf_407 ?_
                  refine vx_lv (lv1 := [(0, xa_r 31), (1, xa_i p), (2, xa_i q), (3, xa_i st), (4, xa_i x93), (5, xa_i 0), (6, xa_i x81), (7, xa_i 0), (8, xa_i (i + 1))]) [4, 5, 6, 7, 1, 8, 9, 2, 0] rfl ?_
                  exact ih c1 (i + 1) 0 x93 [] m2 (by omega) w5 (by rw [← hres, me_end (by omega)]; congr 1; simp only [hx3, hx8, hx13, hx81, hx85, hx93, hf15, hf12, hf10, hf7, hf5, hf2]; unfold mend mwt; (repeat' split); all_goals omega) trivial ⟨rfl, by decide⟩ (by omega) e1 e3 fr2 (by omega)
              · obtain ⟨w0, w1, w5⟩ := me_wf_bin (by omega) (by omega) (by omega) hwf
                obtain ⟨y1, y2, L2, rfl⟩ : ∃ y1 y2 L2, L = y1 :: y2 :: L2 := by cases L with | nil => simp at w1 | cons y L1 => cases L1 with | nil => simp at w1 | cons y2 L2 => exact ⟨y, y2, L2, rfl⟩
                have hyb1 := hstk.2.1
                have hyb2 := hstk.2.2.2.1
                have hlen : ((y1 :: y2 :: L2).length : Int) = (L2.length : Int) + 2 := by simp only [List.length_cons]; omega
                refine vx_iinc hC (lv1 := [(7, xa_i (top + (-1))), (9, xa_i x85), (0, xa_r 31), (1, xa_i p), (2, xa_i q), (3, xa_i st), (4, xa_i sm), (5, xa_i 0), (6, xa_i x81), (8, xa_i i)]) 8 rfl (by decide) rfl eX12_oddsOf_282 ?_
                refine vx_aload_n hC 2 rfl eX12_oddsOf_285 ?_
                refine vx_gr hC 10 (ot_31 hO) lf_X12_21 rfl (or_31_10 hO) eX12_oddsOf_286 ?_
                refine vx_iload hC 0 rfl eX12_oddsOf_289 ?_
                refine vx_iconst hC eX12_oddsOf_291 ?_
                refine vx_isub hC eX12_oddsOf_292 ?_
                refine vx_iload hC 1 rfl eX12_oddsOf_293 ?_
                refine vx_bipush hC (by decide) eX12_oddsOf_295 ?_
                refine vx_icmp_ne hC (tgt := 330) (by omega) (by decide) eX12_oddsOf_297 (fun c94 => ?_) (fun c94 => ?_)
                · refine vx_aload_n hC 2 rfl eX12_oddsOf_330 ?_
                  refine vx_gr hC 10 (ot_31 hO) lf_X12_21 rfl (or_31_10 hO) eX12_oddsOf_331 ?_
                  refine vx_iload hC 0 rfl eX12_oddsOf_334 ?_
                  refine vx_iconst hC eX12_oddsOf_336 ?_
                  refine vx_isub hC eX12_oddsOf_337 ?_
                  refine vx_zaload hC (ot_35 hO) (by omega) (by omega) eX12_oddsOf_338 ?_
                  refine vx_eqi (y := y2) (by rw [show top + (-1) - 1 = (L2.length : Int) by omega]; exact hstk.2.2.1) ?_
                  refine vx_if_ne hC (tgt := 352) (by omega) (by decide) eX12_oddsOf_339 (fun c95 => ?_) (fun c95 => ?_)
                  · refine vx_iconst hC eX12_oddsOf_352 ?_
                    refine vx_goto hC (tgt := 357) (by decide) eX12_oddsOf_353 ?_
                    refine vx_top2 (fun x96 hx96 => ?_)
                    refine vx_zastore hC (ot_35 hO) (by omega) (by omega) (by omega) eX12_oddsOf_357 ?_
                    refine vx_vi (fun v97 hv97 => ?_)
                    have hv97_32 : v97 32 = s := by rw [hv97, xu_c _ _ _ _ (by decide), e1]
                    have hv97_34 : v97 34 = bb := by rw [hv97, xu_c _ _ _ _ (by decide), e3]
                    obtain ⟨f98, hf98⟩ : ∃ f, f = fu (m2 35) x96 1 := ⟨_, rfl⟩
                    have hv97_35 : v97 35 = f98 := by rw [hv97, hf98, xu_k]
                    have frv97 : ∀ k : Nat, (¬ k = 34 ∧ ¬ k = 35) → v97 k = vi k := fun k hk => by rw [hv97, xu_c _ _ _ _ (by omega)]; exact fr2 k hk
                    refine vx_goto hC (tgt := 404) (by decide) eX12_oddsOf_358 ?_
                    refine vx_iinc hC (lv1 := [(8, xa_i (i + 1)), (7, xa_i (top + (-1))), (9, xa_i x85), (0, xa_r 31), (1, xa_i p), (2, xa_i q), (3, xa_i st), (4, xa_i sm), (5, xa_i 0), (6, xa_i x81)]) 9 rfl (by decide) rfl eX12_oddsOf_404 ?_
                    refine vx_goto hC (tgt := 122) (by decide) eX12_oddsOf_407 ?_
                    refine vx_lv (lv1 := [(0, xa_r 31), (1, xa_i p), (2, xa_i q), (3, xa_i st), (4, xa_i sm), (5, xa_i 0), (6, xa_i x81), (7, xa_i (top + (-1))), (8, xa_i (i + 1))]) [3, 4, 5, 6, 7, 8, 9, 1, 0] rfl ?_
                    exact ih c1 (i + 1) (top + (-1)) sm (1 :: L2) v97 (by omega) (by simpa using w5) (by rw [← hres, me_bin (by omega) (by omega) (by omega)]; rw [show mbin x85 y1 y2 = 1 by unfold mbin; (repeat' split); all_goals omega]) (by rw [hv97_35, hf98]; exact stk_push (by simp only [List.length_cons] at htop; omega) (by decide) hstk.2.2.2.2) (by simp only [List.length_cons] at *; omega) (by omega) hv97_32 hv97_34 frv97 (by omega)
                  · refine vx_aload_n hC 2 rfl eX12_oddsOf_342 ?_
                    refine vx_gr hC 10 (ot_31 hO) lf_X12_21 rfl (or_31_10 hO) eX12_oddsOf_343 ?_
                    refine vx_iload hC 0 rfl eX12_oddsOf_346 ?_
                    refine vx_zaload hC (ot_35 hO) (by omega) (by omega) eX12_oddsOf_348 ?_
                    refine vx_eqi (y := y1) (by rw [show top + (-1) = (L2.length : Int) + 1 by omega]; exact hstk.1) ?_
                    refine vx_if_eq hC (tgt := 356) (by omega) (by decide) eX12_oddsOf_349 (fun c99 => ?_) (fun c99 => ?_)
                    · refine vx_iconst hC eX12_oddsOf_356 ?_
                      refine vx_top2 (fun x100 hx100 => ?_)
                      refine vx_zastore hC (ot_35 hO) (by omega) (by omega) (by omega) eX12_oddsOf_357 ?_
                      refine vx_vi (fun v101 hv101 => ?_)
                      have hv101_32 : v101 32 = s := by rw [hv101, xu_c _ _ _ _ (by decide), e1]
                      have hv101_34 : v101 34 = bb := by rw [hv101, xu_c _ _ _ _ (by decide), e3]
                      obtain ⟨f102, hf102⟩ : ∃ f, f = fu (m2 35) x100 0 := ⟨_, rfl⟩
                      have hv101_35 : v101 35 = f102 := by rw [hv101, hf102, xu_k]
                      have frv101 : ∀ k : Nat, (¬ k = 34 ∧ ¬ k = 35) → v101 k = vi k := fun k hk => by rw [hv101, xu_c _ _ _ _ (by omega)]; exact fr2 k hk
                      refine vx_goto hC (tgt := 404) (by decide) eX12_oddsOf_358 ?_
                      refine vx_iinc hC (lv1 := [(8, xa_i (i + 1)), (7, xa_i (top + (-1))), (9, xa_i x85), (0, xa_r 31), (1, xa_i p), (2, xa_i q), (3, xa_i st), (4, xa_i sm), (5, xa_i 0), (6, xa_i x81)]) 9 rfl (by decide) rfl eX12_oddsOf_404 ?_
                      refine vx_goto hC (tgt := 122) (by decide) eX12_oddsOf_407 ?_
                      refine vx_lv (lv1 := [(0, xa_r 31), (1, xa_i p), (2, xa_i q), (3, xa_i st), (4, xa_i sm), (5, xa_i 0), (6, xa_i x81), (7, xa_i (top + (-1))), (8, xa_i (i + 1))]) [3, 4, 5, 6, 7, 8, 9, 1, 0] rfl ?_
                      exact ih c1 (i + 1) (top + (-1)) sm (0 :: L2) v101 (by omega) (by simpa using w5) (by rw [← hres, me_bin (by omega) (by omega) (by omega)]; rw [show mbin x85 y1 y2 = 0 by unfold mbin; (repeat' split); all_goals omega]) (by rw [hv101_35, hf102]; exact stk_push (by simp only [List.length_cons] at htop; omega) (by decide) hstk.2.2.2.2) (by simp only [List.length_cons] at *; omega) (by omega) hv101_32 hv101_34 frv101 (by omega)
                    · refine vx_iconst hC eX12_oddsOf_352 ?_
                      refine vx_goto hC (tgt := 357) (by decide) eX12_oddsOf_353 ?_
                      refine vx_top2 (fun x103 hx103 => ?_)
                      refine vx_zastore hC (ot_35 hO) (by omega) (by omega) (by omega) eX12_oddsOf_357 ?_
                      refine vx_vi (fun v104 hv104 => ?_)
                      have hv104_32 : v104 32 = s := by rw [hv104, xu_c _ _ _ _ (by decide), e1]
                      have hv104_34 : v104 34 = bb := by rw [hv104, xu_c _ _ _ _ (by decide), e3]
                      obtain ⟨f105, hf105⟩ : ∃ f, f = fu (m2 35) x103 1 := ⟨_, rfl⟩
                      have hv104_35 : v104 35 = f105 := by rw [hv104, hf105, xu_k]
                      have frv104 : ∀ k : Nat, (¬ k = 34 ∧ ¬ k = 35) → v104 k = vi k := fun k hk => by rw [hv104, xu_c _ _ _ _ (by omega)]; exact fr2 k hk
                      refine vx_goto hC (tgt := 404) (by decide) eX12_oddsOf_358 ?_
                      refine vx_iinc hC (lv1 := [(8, xa_i (i + 1)), (7, xa_i (top + (-1))), (9, xa_i x85), (0, xa_r 31), (1, xa_i p), (2, xa_i q), (3, xa_i st), (4, xa_i sm), (5, xa_i 0), (6, xa_i x81)]) 9 rfl (by decide) rfl eX12_oddsOf_404 ?_
                      refine vx_goto hC (tgt := 122) (by decide) eX12_oddsOf_407 ?_
                      refine vx_lv (lv1 := [(0, xa_r 31), (1, xa_i p), (2, xa_i q), (3, xa_i st), (4, xa_i sm), (5, xa_i 0), (6, xa_i x81), (7, xa_i (top + (-1))), (8, xa_i (i + 1))]) [3, 4, 5, 6, 7, 8, 9, 1, 0] rfl ?_
                      exact ih c1 (i + 1) (top + (-1)) sm (1 :: L2) v104 (by omega) (by simpa using w5) (by rw [← hres, me_bin (by omega) (by omega) (by omega)]; rw [show mbin x85 y1 y2 = 1 by unfold mbin; (repeat' split); all_goals omega]) (by rw [hv104_35, hf105]; exact stk_push (by simp only [List.length_cons] at htop; omega) (by decide) hstk.2.2.2.2) (by simp only [List.length_cons] at *; omega) (by omega) hv104_32 hv104_34 frv104 (by omega)
                · refine vx_aload_n hC 2 rfl eX12_oddsOf_300 ?_
                  refine vx_gr hC 10 (ot_31 hO) lf_X12_21 rfl (or_31_10 hO) eX12_oddsOf_301 ?_
                  refine vx_iload hC 0 rfl eX12_oddsOf_304 ?_
                  refine vx_iconst hC eX12_oddsOf_306 ?_
                  refine vx_isub hC eX12_oddsOf_307 ?_
                  refine vx_zaload hC (ot_35 hO) (by omega) (by omega) eX12_oddsOf_308 ?_
                  refine vx_eqi (y := y2) (by rw [show top + (-1) - 1 = (L2.length : Int) by omega]; exact hstk.2.2.1) ?_
                  refine vx_if_eq hC (tgt := 326) (by omega) (by decide) eX12_oddsOf_309 (fun c106 => ?_) (fun c106 => ?_)
                  · refine vx_iconst hC eX12_oddsOf_326 ?_
                    refine vx_goto hC (tgt := 357) (by decide) eX12_oddsOf_327 ?_
                    refine vx_top2 (fun x107 hx107 => ?_)
                    refine vx_zastore hC (ot_35 hO) (by omega) (by omega) (by omega) eX12_oddsOf_357 ?_
                    refine vx_vi (fun v108 hv108 => ?_)
                    have hv108_32 : v108 32 = s := by rw [hv108, xu_c _ _ _ _ (by decide), e1]
                    have hv108_34 : v108 34 = bb := by rw [hv108, xu_c _ _ _ _ (by decide), e3]
                    obtain ⟨f109, hf109⟩ : ∃ f, f = fu (m2 35) x107 0 := ⟨_, rfl⟩
                    have hv108_35 : v108 35 = f109 := by rw [hv108, hf109, xu_k]
                    have frv108 : ∀ k : Nat, (¬ k = 34 ∧ ¬ k = 35) → v108 k = vi k := fun k hk => by rw [hv108, xu_c _ _ _ _ (by omega)]; exact fr2 k hk
                    refine vx_goto hC (tgt := 404) (by decide) eX12_oddsOf_358 ?_
                    refine vx_iinc hC (lv1 := [(8, xa_i (i + 1)), (7, xa_i (top + (-1))), (9, xa_i x85), (0, xa_r 31), (1, xa_i p), (2, xa_i q), (3, xa_i st), (4, xa_i sm), (5, xa_i 0), (6, xa_i x81)]) 9 rfl (by decide) rfl eX12_oddsOf_404 ?_
                    refine vx_goto hC (tgt := 122) (by decide) eX12_oddsOf_407 ?_
                    refine vx_lv (lv1 := [(0, xa_r 31), (1, xa_i p), (2, xa_i q), (3, xa_i st), (4, xa_i sm), (5, xa_i 0), (6, xa_i x81), (7, xa_i (top + (-1))), (8, xa_i (i + 1))]) [3, 4, 5, 6, 7, 8, 9, 1, 0] rfl ?_
                    exact ih c1 (i + 1) (top + (-1)) sm (0 :: L2) v108 (by omega) (by simpa using w5) (by rw [← hres, me_bin (by omega) (by omega) (by omega)]; rw [show mbin x85 y1 y2 = 0 by unfold mbin; (repeat' split); all_goals omega]) (by rw [hv108_35, hf109]; exact stk_push (by simp only [List.length_cons] at htop; omega) (by decide) hstk.2.2.2.2) (by simp only [List.length_cons] at *; omega) (by omega) hv108_32 hv108_34 frv108 (by omega)
                  · refine vx_aload_n hC 2 rfl eX12_oddsOf_312 ?_
                    refine vx_gr hC 10 (ot_31 hO) lf_X12_21 rfl (or_31_10 hO) eX12_oddsOf_313 ?_
                    refine vx_iload hC 0 rfl eX12_oddsOf_316 ?_
                    refine vx_zaload hC (ot_35 hO) (by omega) (by omega) eX12_oddsOf_318 ?_
                    refine vx_eqi (y := y1) (by rw [show top + (-1) = (L2.length : Int) + 1 by omega]; exact hstk.1) ?_
                    refine vx_if_eq hC (tgt := 326) (by omega) (by decide) eX12_oddsOf_319 (fun c110 => ?_) (fun c110 => ?_)
                    · refine vx_iconst hC eX12_oddsOf_326 ?_
                      refine vx_goto hC (tgt := 357) (by decide) eX12_oddsOf_327 ?_
                      refine vx_top2 (fun x111 hx111 => ?_)
                      refine vx_zastore hC (ot_35 hO) (by omega) (by omega) (by omega) eX12_oddsOf_357 ?_
                      refine vx_vi (fun v112 hv112 => ?_)
                      have hv112_32 : v112 32 = s := by rw [hv112, xu_c _ _ _ _ (by decide), e1]
                      have hv112_34 : v112 34 = bb := by rw [hv112, xu_c _ _ _ _ (by decide), e3]
                      obtain ⟨f113, hf113⟩ : ∃ f, f = fu (m2 35) x111 0 := ⟨_, rfl⟩
                      have hv112_35 : v112 35 = f113 := by rw [hv112, hf113, xu_k]
                      have frv112 : ∀ k : Nat, (¬ k = 34 ∧ ¬ k = 35) → v112 k = vi k := fun k hk => by rw [hv112, xu_c _ _ _ _ (by omega)]; exact fr2 k hk
                      refine vx_goto hC (tgt := 404) (by decide) eX12_oddsOf_358 ?_
                      refine vx_iinc hC (lv1 := [(8, xa_i (i + 1)), (7, xa_i (top + (-1))), (9, xa_i x85), (0, xa_r 31), (1, xa_i p), (2, xa_i q), (3, xa_i st), (4, xa_i sm), (5, xa_i 0), (6, xa_i x81)]) 9 rfl (by decide) rfl eX12_oddsOf_404 ?_
                      refine vx_goto hC (tgt := 122) (by decide) eX12_oddsOf_407 ?_
                      refine vx_lv (lv1 := [(0, xa_r 31), (1, xa_i p), (2, xa_i q), (3, xa_i st), (4, xa_i sm), (5, xa_i 0), (6, xa_i x81), (7, xa_i (top + (-1))), (8, xa_i (i + 1))]) [3, 4, 5, 6, 7, 8, 9, 1, 0] rfl ?_
                      exact ih c1 (i + 1) (top + (-1)) sm (0 :: L2) v112 (by omega) (by simpa using w5) (by rw [← hres, me_bin (by omega) (by omega) (by omega)]; rw [show mbin x85 y1 y2 = 0 by unfold mbin; (repeat' split); all_goals omega]) (by rw [hv112_35, hf113]; exact stk_push (by simp only [List.length_cons] at htop; omega) (by decide) hstk.2.2.2.2) (by simp only [List.length_cons] at *; omega) (by omega) hv112_32 hv112_34 frv112 (by omega)
                    · refine vx_iconst hC eX12_oddsOf_322 ?_
                      refine vx_goto hC (tgt := 357) (by decide) eX12_oddsOf_323 ?_
                      refine vx_top2 (fun x114 hx114 => ?_)
                      refine vx_zastore hC (ot_35 hO) (by omega) (by omega) (by omega) eX12_oddsOf_357 ?_
                      refine vx_vi (fun v115 hv115 => ?_)
                      have hv115_32 : v115 32 = s := by rw [hv115, xu_c _ _ _ _ (by decide), e1]
                      have hv115_34 : v115 34 = bb := by rw [hv115, xu_c _ _ _ _ (by decide), e3]
                      obtain ⟨f116, hf116⟩ : ∃ f, f = fu (m2 35) x114 1 := ⟨_, rfl⟩
                      have hv115_35 : v115 35 = f116 := by rw [hv115, hf116, xu_k]
                      have frv115 : ∀ k : Nat, (¬ k = 34 ∧ ¬ k = 35) → v115 k = vi k := fun k hk => by rw [hv115, xu_c _ _ _ _ (by omega)]; exact fr2 k hk
                      refine vx_goto hC (tgt := 404) (by decide) eX12_oddsOf_358 ?_
                      refine vx_iinc hC (lv1 := [(8, xa_i (i + 1)), (7, xa_i (top + (-1))), (9, xa_i x85), (0, xa_r 31), (1, xa_i p), (2, xa_i q), (3, xa_i st), (4, xa_i sm), (5, xa_i 0), (6, xa_i x81)]) 9 rfl (by decide) rfl eX12_oddsOf_404 ?_
                      refine vx_goto hC (tgt := 122) (by decide) eX12_oddsOf_407 ?_
                      refine vx_lv (lv1 := [(0, xa_r 31), (1, xa_i p), (2, xa_i q), (3, xa_i st), (4, xa_i sm), (5, xa_i 0), (6, xa_i x81), (7, xa_i (top + (-1))), (8, xa_i (i + 1))]) [3, 4, 5, 6, 7, 8, 9, 1, 0] rfl ?_
                      exact ih c1 (i + 1) (top + (-1)) sm (1 :: L2) v115 (by omega) (by simpa using w5) (by rw [← hres, me_bin (by omega) (by omega) (by omega)]; rw [show mbin x85 y1 y2 = 1 by unfold mbin; (repeat' split); all_goals omega]) (by rw [hv115_35, hf116]; exact stk_push (by simp only [List.length_cons] at htop; omega) (by decide) hstk.2.2.2.2) (by simp only [List.length_cons] at *; omega) (by omega) hv115_32 hv115_34 frv115 (by omega)
            · have hm1 : x85 = -1 := by omega
              rw [hm1] at hwf hres
              obtain ⟨w1, w5⟩ := me_wf_not hwf
              obtain ⟨y, L1, rfl⟩ : ∃ y L1, L = y :: L1 := by cases L with | nil => simp at w1 | cons y L1 => exact ⟨y, L1, rfl⟩
              have hyb := hstk.2.1
              have hlen : ((y :: L1).length : Int) = (L1.length : Int) + 1 := by rw [List.length_cons]; omega
              refine vx_aload_n hC 1 rfl eX12_oddsOf_246 ?_
              refine vx_gr hC 10 (ot_31 hO) lf_X12_21 rfl (or_31_10 hO) eX12_oddsOf_247 ?_
              refine vx_iload hC 8 rfl eX12_oddsOf_250 ?_
              refine vx_iconst hC eX12_oddsOf_252 ?_
              refine vx_isub hC eX12_oddsOf_253 ?_
              refine vx_aload_n hC 1 rfl eX12_oddsOf_254 ?_
              refine vx_gr hC 10 (ot_31 hO) lf_X12_21 rfl (or_31_10 hO) eX12_oddsOf_255 ?_
              refine vx_iload hC 8 rfl eX12_oddsOf_258 ?_
              refine vx_iconst hC eX12_oddsOf_260 ?_
              refine vx_isub hC eX12_oddsOf_261 ?_
              refine vx_zaload hC (ot_35 hO) (by omega) (by omega) eX12_oddsOf_262 ?_
              refine vx_eqi (y := y) (by rw [show top - 1 = (L1.length : Int) by omega]; exact hstk.1) ?_
              refine vx_if_ne hC (tgt := 270) (by omega) (by decide) eX12_oddsOf_263 (fun c117 => ?_) (fun c117 => ?_)
              · refine vx_iconst hC eX12_oddsOf_270 ?_
                refine vx_top2 (fun x118 hx118 => ?_)
                refine vx_zastore hC (ot_35 hO) (by omega) (by omega) (by omega) eX12_oddsOf_271 ?_
                refine vx_vi (fun v119 hv119 => ?_)
                have hv119_32 : v119 32 = s := by rw [hv119, xu_c _ _ _ _ (by decide), e1]
                have hv119_34 : v119 34 = bb := by rw [hv119, xu_c _ _ _ _ (by decide), e3]
                obtain ⟨f120, hf120⟩ : ∃ f, f = fu (m2 35) x118 0 := ⟨_, rfl⟩
                have hv119_35 : v119 35 = f120 := by rw [hv119, hf120, xu_k]
                have frv119 : ∀ k : Nat, (¬ k = 34 ∧ ¬ k = 35) → v119 k = vi k := fun k hk => by rw [hv119, xu_c _ _ _ _ (by omega)]; exact fr2 k hk
                refine vx_goto hC (tgt := 404) (by decide) eX12_oddsOf_272 ?_
                refine vx_iinc hC (lv1 := [(8, xa_i (i + 1)), (9, xa_i x85), (0, xa_r 31), (1, xa_i p), (2, xa_i q), (3, xa_i st), (4, xa_i sm), (5, xa_i 0), (6, xa_i x81), (7, xa_i top)]) 9 rfl (by decide) rfl eX12_oddsOf_404 ?_
                refine vx_goto hC (tgt := 122) (by decide) eX12_oddsOf_407 ?_
                refine vx_lv (lv1 := [(0, xa_r 31), (1, xa_i p), (2, xa_i q), (3, xa_i st), (4, xa_i sm), (5, xa_i 0), (6, xa_i x81), (7, xa_i top), (8, xa_i (i + 1))]) [2, 3, 4, 5, 6, 7, 8, 9, 0] rfl ?_
                exact ih c1 (i + 1) top sm (0 :: L1) v119 (by omega) w5 (by rw [← hres, me_not]; rw [show mnot y = 0 by unfold mnot; (repeat' split); all_goals omega]) (by rw [hv119_35, hf120]; exact stk_push (by rw [List.length_cons] at htop; omega) (by decide) hstk.2.2) (by rw [List.length_cons] at *; omega) (by omega) hv119_32 hv119_34 frv119 (by omega)
              · refine vx_iconst hC eX12_oddsOf_266 ?_
                refine vx_goto hC (tgt := 271) (by decide) eX12_oddsOf_267 ?_
                refine vx_top2 (fun x121 hx121 => ?_)
                refine vx_zastore hC (ot_35 hO) (by omega) (by omega) (by omega) eX12_oddsOf_271 ?_
                refine vx_vi (fun v122 hv122 => ?_)
                have hv122_32 : v122 32 = s := by rw [hv122, xu_c _ _ _ _ (by decide), e1]
                have hv122_34 : v122 34 = bb := by rw [hv122, xu_c _ _ _ _ (by decide), e3]
                obtain ⟨f123, hf123⟩ : ∃ f, f = fu (m2 35) x121 1 := ⟨_, rfl⟩
                have hv122_35 : v122 35 = f123 := by rw [hv122, hf123, xu_k]
                have frv122 : ∀ k : Nat, (¬ k = 34 ∧ ¬ k = 35) → v122 k = vi k := fun k hk => by rw [hv122, xu_c _ _ _ _ (by omega)]; exact fr2 k hk
                refine vx_goto hC (tgt := 404) (by decide) eX12_oddsOf_272 ?_
                refine vx_iinc hC (lv1 := [(8, xa_i (i + 1)), (9, xa_i x85), (0, xa_r 31), (1, xa_i p), (2, xa_i q), (3, xa_i st), (4, xa_i sm), (5, xa_i 0), (6, xa_i x81), (7, xa_i top)]) 9 rfl (by decide) rfl eX12_oddsOf_404 ?_
                refine vx_goto hC (tgt := 122) (by decide) eX12_oddsOf_407 ?_
                refine vx_lv (lv1 := [(0, xa_r 31), (1, xa_i p), (2, xa_i q), (3, xa_i st), (4, xa_i sm), (5, xa_i 0), (6, xa_i x81), (7, xa_i top), (8, xa_i (i + 1))]) [2, 3, 4, 5, 6, 7, 8, 9, 0] rfl ?_
                exact ih c1 (i + 1) top sm (1 :: L1) v122 (by omega) w5 (by rw [← hres, me_not]; rw [show mnot y = 1 by unfold mnot; (repeat' split); all_goals omega]) (by rw [hv122_35, hf123]; exact stk_push (by rw [List.length_cons] at htop; omega) (by decide) hstk.2.2) (by rw [List.length_cons] at *; omega) (by omega) hv122_32 hv122_34 frv122 (by omega)
          · obtain ⟨w1, w2, w3, w4, w5⟩ := me_wf_pos (by omega) hwf
            have w6 := mb_r hW hp hq hst (x85 % 8)
            refine vx_aload_n hC 1 rfl eX12_oddsOf_146 ?_
            refine vx_gr hC 9 (ot_31 hO) lf_X12_18 rfl (or_31_9 hO) eX12_oddsOf_147 ?_
            refine vx_iload hC 0 rfl eX12_oddsOf_150 ?_
            refine vx_bipush hC (by decide) eX12_oddsOf_152 ?_
            refine vx_irem hC (by omega) eX12_oddsOf_154 ?_
            refine vx_iaload hC (ot_34 hO) (by omega) (by omega) eX12_oddsOf_155 ?_
            refine vx_eqi (congrFun e3 _) ?_
            refine vx_eqi (hbb _ (by omega) (by omega)) ?_
            refine vx_top (fun x124 hx124 => ?_)
            refine vx_istore hC (lv1 := [(10, xa_i x124), (9, xa_i x85), (0, xa_r 31), (1, xa_i p), (2, xa_i q), (3, xa_i st), (4, xa_i sm), (5, xa_i 0), (6, xa_i x81), (7, xa_i top), (8, xa_i i)]) (by decide) rfl eX12_oddsOf_156 ?_
            refine vx_iload hC 1 rfl eX12_oddsOf_158 ?_
            refine vx_bipush hC (by decide) eX12_oddsOf_160 ?_
            refine vx_idiv hC (by omega) eX12_oddsOf_162 ?_
            refine vx_iconst hC eX12_oddsOf_163 ?_
            refine vx_irem hC (by omega) eX12_oddsOf_164 ?_
            refine vx_top (fun x125 hx125 => ?_)
            refine vx_istore hC (lv1 := [(11, xa_i x125), (10, xa_i x124), (9, xa_i x85), (0, xa_r 31), (1, xa_i p), (2, xa_i q), (3, xa_i st), (4, xa_i sm), (5, xa_i 0), (6, xa_i x81), (7, xa_i top), (8, xa_i i)]) (by decide) rfl eX12_oddsOf_165 ?_
            refine vx_iload hC 2 rfl eX12_oddsOf_167 ?_
            refine vx_bipush hC (by decide) eX12_oddsOf_169 ?_
            refine vx_idiv hC (by omega) eX12_oddsOf_171 ?_
            refine vx_top (fun x126 hx126 => ?_)
            refine vx_istore hC (lv1 := [(12, xa_i x126), (11, xa_i x125), (10, xa_i x124), (9, xa_i x85), (0, xa_r 31), (1, xa_i p), (2, xa_i q), (3, xa_i st), (4, xa_i sm), (5, xa_i 0), (6, xa_i x81), (7, xa_i top), (8, xa_i i)]) (by decide) rfl eX12_oddsOf_172 ?_
            refine vx_aload_n hC 4 rfl eX12_oddsOf_174 ?_
            refine vx_gr hC 10 (ot_31 hO) lf_X12_21 rfl (or_31_10 hO) eX12_oddsOf_175 ?_
            refine vx_iload hC 11 rfl eX12_oddsOf_178 ?_
            refine vx_iload hC 1 rfl eX12_oddsOf_180 ?_
            refine vx_if_ne hC (tgt := 200) (by omega) (by decide) eX12_oddsOf_182 (fun c127 => ?_) (fun c127 => ?_)
            · refine vx_iload hC 1 rfl eX12_oddsOf_200 ?_
              refine vx_iconst hC eX12_oddsOf_202 ?_
              refine vx_icmp_ne hC (tgt := 221) (by omega) (by decide) eX12_oddsOf_203 (fun c128 => ?_) (fun c128 => ?_)
              · refine vx_iload hC 2 rfl eX12_oddsOf_221 ?_
                refine vx_iload hC 0 rfl eX12_oddsOf_223 ?_
                refine vx_icmp_le hC (tgt := 232) (by omega) (by decide) eX12_oddsOf_225 (fun c129 => ?_) (fun c129 => ?_)
                · refine vx_iconst hC eX12_oddsOf_232 ?_
                  refine vx_zastore hC (ot_35 hO) (by omega) (by omega) (by omega) eX12_oddsOf_233 ?_
                  refine vx_vi (fun v130 hv130 => ?_)
                  have hv130_32 : v130 32 = s := by rw [hv130, xu_c _ _ _ _ (by decide), e1]
                  have hv130_34 : v130 34 = bb := by rw [hv130, xu_c _ _ _ _ (by decide), e3]
                  obtain ⟨f131, hf131⟩ : ∃ f, f = fu (m2 35) top 0 := ⟨_, rfl⟩
                  have hv130_35 : v130 35 = f131 := by rw [hv130, hf131, xu_k]
                  have frv130 : ∀ k : Nat, (¬ k = 34 ∧ ¬ k = 35) → v130 k = vi k := fun k hk => by rw [hv130, xu_c _ _ _ _ (by omega)]; exact fr2 k hk
                  refine vx_iinc hC (lv1 := [(7, xa_i (top + 1)), (12, xa_i x126), (11, xa_i x125), (10, xa_i x124), (9, xa_i x85), (0, xa_r 31), (1, xa_i p), (2, xa_i q), (3, xa_i st), (4, xa_i sm), (5, xa_i 0), (6, xa_i x81), (8, xa_i i)]) 11 rfl (by decide) rfl eX12_oddsOf_234 ?_
                  refine vx_goto hC (tgt := 404) (by decide) eX12_oddsOf_237 ?_
                  refine vx_iinc hC (lv1 := [(8, xa_i (i + 1)), (7, xa_i (top + 1)), (12, xa_i x126), (11, xa_i x125), (10, xa_i x124), (9, xa_i x85), (0, xa_r 31), (1, xa_i p), (2, xa_i q), (3, xa_i st), (4, xa_i sm), (5, xa_i 0), (6, xa_i x81)]) 12 rfl (by decide) rfl eX12_oddsOf_404 ?_
                  refine vx_goto hC (tgt := 122) (by decide) eX12_oddsOf_407 ?_
                  refine vx_lv (lv1 := [(0, xa_r 31), (1, xa_i p), (2, xa_i q), (3, xa_i st), (4, xa_i sm), (5, xa_i 0), (6, xa_i x81), (7, xa_i (top + 1)), (8, xa_i (i + 1))]) [6, 7, 8, 9, 10, 11, 12, 1, 0] rfl ?_
                  exact ih c1 (i + 1) (top + 1) sm (0 :: L) v130 (by omega) w5 (by rw [← hres, me_pos (by omega)]; rw [show mtst (mb s p q st) x85 = 0 by unfold mtst; (repeat' split); all_goals omega]) (by rw [hv130_35, hf131]; exact stk_push (by omega) (by decide) hstk) (by rw [List.length_cons]; omega) (by omega) hv130_32 hv130_34 frv130 (by omega)
                · refine vx_iconst hC eX12_oddsOf_228 ?_
                  refine vx_goto hC (tgt := 233) (by decide) eX12_oddsOf_229 ?_
                  refine vx_zastore hC (ot_35 hO) (by omega) (by omega) (by omega) eX12_oddsOf_233 ?_
                  refine vx_vi (fun v132 hv132 => ?_)
                  have hv132_32 : v132 32 = s := by rw [hv132, xu_c _ _ _ _ (by decide), e1]
                  have hv132_34 : v132 34 = bb := by rw [hv132, xu_c _ _ _ _ (by decide), e3]
                  obtain ⟨f133, hf133⟩ : ∃ f, f = fu (m2 35) top 1 := ⟨_, rfl⟩
                  have hv132_35 : v132 35 = f133 := by rw [hv132, hf133, xu_k]
                  have frv132 : ∀ k : Nat, (¬ k = 34 ∧ ¬ k = 35) → v132 k = vi k := fun k hk => by rw [hv132, xu_c _ _ _ _ (by omega)]; exact fr2 k hk
                  refine vx_iinc hC (lv1 := [(7, xa_i (top + 1)), (12, xa_i x126), (11, xa_i x125), (10, xa_i x124), (9, xa_i x85), (0, xa_r 31), (1, xa_i p), (2, xa_i q), (3, xa_i st), (4, xa_i sm), (5, xa_i 0), (6, xa_i x81), (8, xa_i i)]) 11 rfl (by decide) rfl eX12_oddsOf_234 ?_
                  refine vx_goto hC (tgt := 404) (by decide) eX12_oddsOf_237 ?_
                  refine vx_iinc hC (lv1 := [(8, xa_i (i + 1)), (7, xa_i (top + 1)), (12, xa_i x126), (11, xa_i x125), (10, xa_i x124), (9, xa_i x85), (0, xa_r 31), (1, xa_i p), (2, xa_i q), (3, xa_i st), (4, xa_i sm), (5, xa_i 0), (6, xa_i x81)]) 12 rfl (by decide) rfl eX12_oddsOf_404 ?_
                  refine vx_goto hC (tgt := 122) (by decide) eX12_oddsOf_407 ?_
                  refine vx_lv (lv1 := [(0, xa_r 31), (1, xa_i p), (2, xa_i q), (3, xa_i st), (4, xa_i sm), (5, xa_i 0), (6, xa_i x81), (7, xa_i (top + 1)), (8, xa_i (i + 1))]) [6, 7, 8, 9, 10, 11, 12, 1, 0] rfl ?_
                  exact ih c1 (i + 1) (top + 1) sm (1 :: L) v132 (by omega) w5 (by rw [← hres, me_pos (by omega)]; rw [show mtst (mb s p q st) x85 = 1 by unfold mtst; (repeat' split); all_goals omega]) (by rw [hv132_35, hf133]; exact stk_push (by omega) (by decide) hstk) (by rw [List.length_cons]; omega) (by omega) hv132_32 hv132_34 frv132 (by omega)
              · refine vx_iload hC 2 rfl eX12_oddsOf_206 ?_
                refine vx_iload hC 0 rfl eX12_oddsOf_208 ?_
                refine vx_icmp_ne hC (tgt := 217) (by omega) (by decide) eX12_oddsOf_210 (fun c134 => ?_) (fun c134 => ?_)
                · refine vx_iconst hC eX12_oddsOf_217 ?_
                  refine vx_goto hC (tgt := 233) (by decide) eX12_oddsOf_218 ?_
                  refine vx_zastore hC (ot_35 hO) (by omega) (by omega) (by omega) eX12_oddsOf_233 ?_
                  refine vx_vi (fun v135 hv135 => ?_)
                  have hv135_32 : v135 32 = s := by rw [hv135, xu_c _ _ _ _ (by decide), e1]
                  have hv135_34 : v135 34 = bb := by rw [hv135, xu_c _ _ _ _ (by decide), e3]
                  obtain ⟨f136, hf136⟩ : ∃ f, f = fu (m2 35) top 0 := ⟨_, rfl⟩
                  have hv135_35 : v135 35 = f136 := by rw [hv135, hf136, xu_k]
                  have frv135 : ∀ k : Nat, (¬ k = 34 ∧ ¬ k = 35) → v135 k = vi k := fun k hk => by rw [hv135, xu_c _ _ _ _ (by omega)]; exact fr2 k hk
                  refine vx_iinc hC (lv1 := [(7, xa_i (top + 1)), (12, xa_i x126), (11, xa_i x125), (10, xa_i x124), (9, xa_i x85), (0, xa_r 31), (1, xa_i p), (2, xa_i q), (3, xa_i st), (4, xa_i sm), (5, xa_i 0), (6, xa_i x81), (8, xa_i i)]) 11 rfl (by decide) rfl eX12_oddsOf_234 ?_
                  refine vx_goto hC (tgt := 404) (by decide) eX12_oddsOf_237 ?_
                  refine vx_iinc hC (lv1 := [(8, xa_i (i + 1)), (7, xa_i (top + 1)), (12, xa_i x126), (11, xa_i x125), (10, xa_i x124), (9, xa_i x85), (0, xa_r 31), (1, xa_i p), (2, xa_i q), (3, xa_i st), (4, xa_i sm), (5, xa_i 0), (6, xa_i x81)]) 12 rfl (by decide) rfl eX12_oddsOf_404 ?_
                  refine vx_goto hC (tgt := 122) (by decide) eX12_oddsOf_407 ?_
                  refine vx_lv (lv1 := [(0, xa_r 31), (1, xa_i p), (2, xa_i q), (3, xa_i st), (4, xa_i sm), (5, xa_i 0), (6, xa_i x81), (7, xa_i (top + 1)), (8, xa_i (i + 1))]) [6, 7, 8, 9, 10, 11, 12, 1, 0] rfl ?_
                  exact ih c1 (i + 1) (top + 1) sm (0 :: L) v135 (by omega) w5 (by rw [← hres, me_pos (by omega)]; rw [show mtst (mb s p q st) x85 = 0 by unfold mtst; (repeat' split); all_goals omega]) (by rw [hv135_35, hf136]; exact stk_push (by omega) (by decide) hstk) (by rw [List.length_cons]; omega) (by omega) hv135_32 hv135_34 frv135 (by omega)
                · refine vx_iconst hC eX12_oddsOf_213 ?_
                  refine vx_goto hC (tgt := 233) (by decide) eX12_oddsOf_214 ?_
                  refine vx_zastore hC (ot_35 hO) (by omega) (by omega) (by omega) eX12_oddsOf_233 ?_
                  refine vx_vi (fun v137 hv137 => ?_)
                  have hv137_32 : v137 32 = s := by rw [hv137, xu_c _ _ _ _ (by decide), e1]
                  have hv137_34 : v137 34 = bb := by rw [hv137, xu_c _ _ _ _ (by decide), e3]
                  obtain ⟨f138, hf138⟩ : ∃ f, f = fu (m2 35) top 1 := ⟨_, rfl⟩
                  have hv137_35 : v137 35 = f138 := by rw [hv137, hf138, xu_k]
                  have frv137 : ∀ k : Nat, (¬ k = 34 ∧ ¬ k = 35) → v137 k = vi k := fun k hk => by rw [hv137, xu_c _ _ _ _ (by omega)]; exact fr2 k hk
                  refine vx_iinc hC (lv1 := [(7, xa_i (top + 1)), (12, xa_i x126), (11, xa_i x125), (10, xa_i x124), (9, xa_i x85), (0, xa_r 31), (1, xa_i p), (2, xa_i q), (3, xa_i st), (4, xa_i sm), (5, xa_i 0), (6, xa_i x81), (8, xa_i i)]) 11 rfl (by decide) rfl eX12_oddsOf_234 ?_
                  refine vx_goto hC (tgt := 404) (by decide) eX12_oddsOf_237 ?_
                  refine vx_iinc hC (lv1 := [(8, xa_i (i + 1)), (7, xa_i (top + 1)), (12, xa_i x126), (11, xa_i x125), (10, xa_i x124), (9, xa_i x85), (0, xa_r 31), (1, xa_i p), (2, xa_i q), (3, xa_i st), (4, xa_i sm), (5, xa_i 0), (6, xa_i x81)]) 12 rfl (by decide) rfl eX12_oddsOf_404 ?_
                  refine vx_goto hC (tgt := 122) (by decide) eX12_oddsOf_407 ?_
                  refine vx_lv (lv1 := [(0, xa_r 31), (1, xa_i p), (2, xa_i q), (3, xa_i st), (4, xa_i sm), (5, xa_i 0), (6, xa_i x81), (7, xa_i (top + 1)), (8, xa_i (i + 1))]) [6, 7, 8, 9, 10, 11, 12, 1, 0] rfl ?_
                  exact ih c1 (i + 1) (top + 1) sm (1 :: L) v137 (by omega) w5 (by rw [← hres, me_pos (by omega)]; rw [show mtst (mb s p q st) x85 = 1 by unfold mtst; (repeat' split); all_goals omega]) (by rw [hv137_35, hf138]; exact stk_push (by omega) (by decide) hstk) (by rw [List.length_cons]; omega) (by omega) hv137_32 hv137_34 frv137 (by omega)
            · refine vx_iload hC 2 rfl eX12_oddsOf_185 ?_
              refine vx_iload hC 0 rfl eX12_oddsOf_187 ?_
              refine vx_icmp_ge hC (tgt := 196) (by omega) (by decide) eX12_oddsOf_189 (fun c139 => ?_) (fun c139 => ?_)
              · refine vx_iconst hC eX12_oddsOf_196 ?_
                refine vx_goto hC (tgt := 233) (by decide) eX12_oddsOf_197 ?_
                refine vx_zastore hC (ot_35 hO) (by omega) (by omega) (by omega) eX12_oddsOf_233 ?_
                refine vx_vi (fun v140 hv140 => ?_)
                have hv140_32 : v140 32 = s := by rw [hv140, xu_c _ _ _ _ (by decide), e1]
                have hv140_34 : v140 34 = bb := by rw [hv140, xu_c _ _ _ _ (by decide), e3]
                obtain ⟨f141, hf141⟩ : ∃ f, f = fu (m2 35) top 0 := ⟨_, rfl⟩
                have hv140_35 : v140 35 = f141 := by rw [hv140, hf141, xu_k]
                have frv140 : ∀ k : Nat, (¬ k = 34 ∧ ¬ k = 35) → v140 k = vi k := fun k hk => by rw [hv140, xu_c _ _ _ _ (by omega)]; exact fr2 k hk
                refine vx_iinc hC (lv1 := [(7, xa_i (top + 1)), (12, xa_i x126), (11, xa_i x125), (10, xa_i x124), (9, xa_i x85), (0, xa_r 31), (1, xa_i p), (2, xa_i q), (3, xa_i st), (4, xa_i sm), (5, xa_i 0), (6, xa_i x81), (8, xa_i i)]) 11 rfl (by decide) rfl eX12_oddsOf_234 ?_
                refine vx_goto hC (tgt := 404) (by decide) eX12_oddsOf_237 ?_
                refine vx_iinc hC (lv1 := [(8, xa_i (i + 1)), (7, xa_i (top + 1)), (12, xa_i x126), (11, xa_i x125), (10, xa_i x124), (9, xa_i x85), (0, xa_r 31), (1, xa_i p), (2, xa_i q), (3, xa_i st), (4, xa_i sm), (5, xa_i 0), (6, xa_i x81)]) 12 rfl (by decide) rfl eX12_oddsOf_404 ?_
                refine vx_goto hC (tgt := 122) (by decide) eX12_oddsOf_407 ?_
                refine vx_lv (lv1 := [(0, xa_r 31), (1, xa_i p), (2, xa_i q), (3, xa_i st), (4, xa_i sm), (5, xa_i 0), (6, xa_i x81), (7, xa_i (top + 1)), (8, xa_i (i + 1))]) [6, 7, 8, 9, 10, 11, 12, 1, 0] rfl ?_
                exact ih c1 (i + 1) (top + 1) sm (0 :: L) v140 (by omega) w5 (by rw [← hres, me_pos (by omega)]; rw [show mtst (mb s p q st) x85 = 0 by unfold mtst; (repeat' split); all_goals omega]) (by rw [hv140_35, hf141]; exact stk_push (by omega) (by decide) hstk) (by rw [List.length_cons]; omega) (by omega) hv140_32 hv140_34 frv140 (by omega)
              · refine vx_iconst hC eX12_oddsOf_192 ?_
                refine vx_goto hC (tgt := 233) (by decide) eX12_oddsOf_193 ?_
                refine vx_zastore hC (ot_35 hO) (by omega) (by omega) (by omega) eX12_oddsOf_233 ?_
                refine vx_vi (fun v142 hv142 => ?_)
                have hv142_32 : v142 32 = s := by rw [hv142, xu_c _ _ _ _ (by decide), e1]
                have hv142_34 : v142 34 = bb := by rw [hv142, xu_c _ _ _ _ (by decide), e3]
                obtain ⟨f143, hf143⟩ : ∃ f, f = fu (m2 35) top 1 := ⟨_, rfl⟩
                have hv142_35 : v142 35 = f143 := by rw [hv142, hf143, xu_k]
                have frv142 : ∀ k : Nat, (¬ k = 34 ∧ ¬ k = 35) → v142 k = vi k := fun k hk => by rw [hv142, xu_c _ _ _ _ (by omega)]; exact fr2 k hk
                refine vx_iinc hC (lv1 := [(7, xa_i (top + 1)), (12, xa_i x126), (11, xa_i x125), (10, xa_i x124), (9, xa_i x85), (0, xa_r 31), (1, xa_i p), (2, xa_i q), (3, xa_i st), (4, xa_i sm), (5, xa_i 0), (6, xa_i x81), (8, xa_i i)]) 11 rfl (by decide) rfl eX12_oddsOf_234 ?_
                refine vx_goto hC (tgt := 404) (by decide) eX12_oddsOf_237 ?_
                refine vx_iinc hC (lv1 := [(8, xa_i (i + 1)), (7, xa_i (top + 1)), (12, xa_i x126), (11, xa_i x125), (10, xa_i x124), (9, xa_i x85), (0, xa_r 31), (1, xa_i p), (2, xa_i q), (3, xa_i st), (4, xa_i sm), (5, xa_i 0), (6, xa_i x81)]) 12 rfl (by decide) rfl eX12_oddsOf_404 ?_
                refine vx_goto hC (tgt := 122) (by decide) eX12_oddsOf_407 ?_
                refine vx_lv (lv1 := [(0, xa_r 31), (1, xa_i p), (2, xa_i q), (3, xa_i st), (4, xa_i sm), (5, xa_i 0), (6, xa_i x81), (7, xa_i (top + 1)), (8, xa_i (i + 1))]) [6, 7, 8, 9, 10, 11, 12, 1, 0] rfl ?_
                exact ih c1 (i + 1) (top + 1) sm (1 :: L) v142 (by omega) w5 (by rw [← hres, me_pos (by omega)]; rw [show mtst (mb s p q st) x85 = 1 by unfold mtst; (repeat' split); all_goals omega]) (by rw [hv142_35, hf143]; exact stk_push (by omega) (by decide) hstk) (by rw [List.length_cons]; omega) (by omega) hv142_32 hv142_34 frv142 (by omega)
    refine vx_lv (lv1 := [(0, xa_r 31), (1, xa_i p), (2, xa_i q), (3, xa_i st), (4, xa_i 5), (5, xa_i 0), (6, xa_i x81), (7, xa_i 0), (8, xa_i x81)]) [5, 6, 7, 8, 4, 3, 2, 1, 0] rfl ?_
    exact LP122 121 (0 : Int).toNat x81 0 5 [] v14 (by omega) hwf0 hres0 trivial ⟨rfl, by decide⟩ (by omega) hv14_32 e34 frv14 (by omega)
