set_option maxHeartbeats 4000000 in
set_option maxRecDepth 100000 in
theorem kX12_tens (G : xg_T) (d : Nat) (n : Nat) (tau : Nat → Nat × Nat) (vi vl : Nat → Int → Int) (vr : Nat → Int → Option Nat) (k : Int) (hk : 0 ≤ k ∧ k ≤ 15) : xm G yX12_tens cX12_tens 4 (some .long) (d + 1) 0 0 [xa_i k] n tau vi vl vr (xp_l (fun z9 n1 t1 a1 b1 c1 => z9 = (10 : Int) ^ k.toNat ∧ xs_0 n tau vi vl vr n1 t1 a1 b1 c1)) := by
  refine xm.of (lv := [(0, xa_i k)]) (by decide) (Nat.le_of_ble_eq_true rfl) rfl (fun K hC hM hRm => ?_)
  refine vx_lconst hC 1 (by decide) eX12_tens_0 ?_
  refine vx_lstore_n hC (lv1 := [(1, xa_l 1), (0, xa_i k)]) (by decide) rfl eX12_tens_1 ?_
  refine vx_iconst hC eX12_tens_2 ?_
  refine vx_istore_n hC (lv1 := [(3, xa_i 0), (1, xa_l 1), (0, xa_i k)]) (by decide) rfl eX12_tens_3 ?_
  have LP4 : ∀ (j : Nat) (i : Int) (v : Int) (hi : 0 ≤ i ∧ i ≤ k) (hv : v = (10 : Int) ^ i.toNat) (hj : k - i < (j : Int)), xv G K 4 (xk_Q G K (xp_l (fun z9 n1 t1 a1 b1 c1 => z9 = (10 : Int) ^ k.toNat ∧ xs_0 n tau vi vl vr n1 t1 a1 b1 c1)) 0 0) 0 0 n tau vi vl vr 4 [(3, xa_i i), (1, xa_l v), (0, xa_i k)] [] := by
    intro j
    induction j with
    | zero => intro i v hi hv hj; exfalso; omega
    | succ j ih =>
      intro i v hi hv hj
      refine vx_iload_n hC 0 rfl eX12_tens_4 ?_
      refine vx_iload_n hC 2 rfl eX12_tens_5 ?_
      refine vx_icmp_ge hC (tgt := 21) (by omega) (by decide) eX12_tens_6 (fun c1 => ?_) (fun c1 => ?_)
      · refine vx_lload_n hC 1 rfl eX12_tens_21 ?_
        exact vx_lret hC hM eX12_tens_22 (⟨_, rfl, by rw [hv, show i = k by omega], xs_0.rf _ _ _ _ _⟩)
      · refine vx_lload_n hC 1 rfl eX12_tens_9 ?_
        refine vx_ldc2 hC (10) wd_1172 eX12_tens_10 ?_
        refine vx_lmul hC eX12_tens_13 ?_
        refine vx_topl (fun x2 hx2 => ?_)
        refine vx_lstore_n hC (lv1 := [(1, xa_l x2), (3, xa_i i), (0, xa_i k)]) (by decide) rfl eX12_tens_14 ?_
        refine vx_iinc hC (lv1 := [(3, xa_i (i + 1)), (1, xa_l x2), (0, xa_i k)]) 1 rfl (by decide) rfl eX12_tens_15 ?_
        refine vx_goto hC (tgt := 4) (by decide) eX12_tens_18 ?_
        exact ih (i + 1) x2 (by omega) (by rw [hx2, hv, show (i + 1).toNat = i.toNat + 1 by omega, Int.pow_succ]) (by omega)
  exact LP4 16 0 1 (by omega) rfl (by omega)
def mz_low (up low part : Int) : Int := if part = 0 then up / (Nat.gcd up.toNat low.toNat : Int) else low / (Nat.gcd up.toNat low.toNat : Int)
theorem gcd_step {x y : Int} (hx : 0 ≤ x) (hy : 0 < y) : Nat.gcd y.toNat (x % y).toNat = Nat.gcd x.toNat y.toNat := by
  have e : (x % y).toNat = x.toNat % y.toNat := by
    obtain ⟨a, rfl⟩ := Int.eq_ofNat_of_zero_le hx
    obtain ⟨b, rfl⟩ := Int.eq_ofNat_of_zero_le (Int.le_of_lt hy)
    rw [← Int.natCast_emod]
    rfl
  rw [e, Nat.gcd_comm x.toNat y.toNat, Nat.gcd_rec y.toNat x.toNat, Nat.gcd_comm]
set_option maxHeartbeats 4000000 in
set_option maxRecDepth 100000 in
theorem kX12_lowest (G : xg_T) (d : Nat) (n : Nat) (tau : Nat → Nat × Nat) (vi vl : Nat → Int → Int) (vr : Nat → Int → Option Nat) (up low part : Int) (h1 : 0 ≤ up ∧ up < 9223372036854775808) (h2 : 0 < low ∧ low < 9223372036854775808) (h3 : part = 0 ∨ part = 1) : xm G yX12_lowest cX12_lowest 11 (some .long) (d + 1) 0 0 [xa_l up, xa_l low, xa_i part] n tau vi vl vr (xp_l (fun z9 n1 t1 a1 b1 c1 => z9 = mz_low up low part ∧ xs_0 n tau vi vl vr n1 t1 a1 b1 c1)) := by
  refine xm.of (lv := [(0, xa_l up), (2, xa_l low), (4, xa_i part)]) (by decide) (Nat.le_of_ble_eq_true rfl) rfl (fun K hC hM hRm => ?_)
  refine vx_lload_n hC 0 rfl eX12_lowest_0 ?_
  refine vx_lstore hC (lv1 := [(5, xa_l up), (0, xa_l up), (2, xa_l low), (4, xa_i part)]) (by decide) rfl eX12_lowest_1 ?_
  refine vx_lload_n hC 2 rfl eX12_lowest_3 ?_
  refine vx_lstore hC (lv1 := [(7, xa_l low), (5, xa_l up), (0, xa_l up), (2, xa_l low), (4, xa_i part)]) (by decide) rfl eX12_lowest_4 ?_
  have LP6 : ∀ (j : Nat) (x : Int) (y : Int) (hx : 0 ≤ x ∧ x < 9223372036854775808) (hy : 0 ≤ y ∧ y < 9223372036854775808) (hg : Nat.gcd x.toNat y.toNat = Nat.gcd up.toNat low.toNat) (hj : y < (j : Int)), xv G K 11 (xk_Q G K (xp_l (fun z9 n1 t1 a1 b1 c1 => z9 = mz_low up low part ∧ xs_0 n tau vi vl vr n1 t1 a1 b1 c1)) 0 0) 0 0 n tau vi vl vr 6 [(7, xa_l y), (5, xa_l x), (0, xa_l up), (2, xa_l low), (4, xa_i part)] [] := by
    intro j
    induction j with
    | zero => intro x y hx hy hg hj; exfalso; omega
    | succ j ih =>
      intro x y hx hy hg hj
      refine vx_lload hC 0 rfl eX12_lowest_6 ?_
      refine vx_lconst hC 0 (by decide) eX12_lowest_8 ?_
      refine vx_lcmp hC (by omega) eX12_lowest_9 ?_
      refine vx_if_eq hC (tgt := 31) (by omega) (by decide) eX12_lowest_10 (fun c1 => ?_) (fun c1 => ?_)
      · have hy0 : y = 0 := by omega
        have hgx : (x : Int) = (Nat.gcd up.toNat low.toNat : Int) := by rw [← hg, hy0]; show x = (Nat.gcd x.toNat 0 : Int); rw [Nat.gcd_zero_right]; omega
        have hgp : 0 < Nat.gcd up.toNat low.toNat := Nat.gcd_pos_of_pos_right _ (by omega)
        refine vx_iload hC 4 rfl eX12_lowest_31 ?_
        refine vx_if_ne hC (tgt := 40) (by omega) (by decide) eX12_lowest_33 (fun c2 => ?_) (fun c2 => ?_)
        · refine vx_lload_n hC 3 rfl eX12_lowest_40 ?_
          refine vx_lload hC 1 rfl eX12_lowest_41 ?_
          refine vx_ldiv hC (by omega) eX12_lowest_43 ?_
          exact vx_lret hC hM eX12_lowest_44 (⟨_, rfl, by unfold mz_low; rw [hgx]; (first | rw [if_pos (by omega)] | rw [if_neg (by omega)]), xs_0.rf _ _ _ _ _⟩)
        · refine vx_lload_n hC 2 rfl eX12_lowest_36 ?_
          refine vx_goto hC (tgt := 41) (by decide) eX12_lowest_37 ?_
          refine vx_lload hC 1 rfl eX12_lowest_41 ?_
          refine vx_ldiv hC (by omega) eX12_lowest_43 ?_
          exact vx_lret hC hM eX12_lowest_44 (⟨_, rfl, by unfold mz_low; rw [hgx]; (first | rw [if_pos (by omega)] | rw [if_neg (by omega)]), xs_0.rf _ _ _ _ _⟩)
      · have hy0 : 0 < y := by omega
        have hm1 : 0 ≤ x % y := Int.emod_nonneg _ (by omega)
        have hm2 : x % y < y := Int.emod_lt_of_pos _ (by omega)
        refine vx_lload hC 1 rfl eX12_lowest_13 ?_
        refine vx_lload hC 0 rfl eX12_lowest_15 ?_
        refine vx_lrem hC (by omega) eX12_lowest_17 ?_
        refine vx_topl (fun x3 hx3 => ?_)
        refine vx_lstore hC (lv1 := [(9, xa_l x3), (7, xa_l y), (5, xa_l x), (0, xa_l up), (2, xa_l low), (4, xa_i part)]) (by decide) rfl eX12_lowest_18 ?_
        refine vx_lload hC 1 rfl eX12_lowest_20 ?_
        refine vx_lstore hC (lv1 := [(5, xa_l y), (9, xa_l x3), (7, xa_l y), (0, xa_l up), (2, xa_l low), (4, xa_i part)]) (by decide) rfl eX12_lowest_22 ?_
        refine vx_lload hC 1 rfl eX12_lowest_24 ?_
        refine vx_lstore hC (lv1 := [(7, xa_l x3), (5, xa_l y), (9, xa_l x3), (0, xa_l up), (2, xa_l low), (4, xa_i part)]) (by decide) rfl eX12_lowest_26 ?_
        refine vx_goto hC (tgt := 6) (by decide) eX12_lowest_28 ?_
        refine vx_lv (lv1 := [(7, xa_l x3), (5, xa_l y), (0, xa_l up), (2, xa_l low), (4, xa_i part)]) [0, 1, 3, 4, 5] rfl ?_
        exact ih y x3 (by omega) (by omega) (by rw [hx3, gcd_step hx.1 (by omega)]; exact hg) (by omega)
  exact LP6 (low.toNat + 1) up low (by omega) (by omega) rfl (by omega)
theorem msl_congr {s s1 : Int → Int} : ∀ (n : Nat) (a : Int), (∀ z, a ≤ z → z < a + (n : Int) → s1 z = s z) → msl s1 a n = msl s a n
  | 0, _, _ => rfl
  | n + 1, a, h => by
    rw [msl, msl, h a (by omega) (by omega), msl_congr n (a + 1) (fun z h1 h2 => h z (by omega) (by omega))]
/-- the tables' part of the row stays -/
theorem ms_tab {s s1 : Int → Int} (h1 : s1 1 = s 1) (hz : ∀ z, 166 ≤ z → s1 z = s z) (h0 : s 1 ≤ 5) (h : ∀ t, 0 ≤ t → t < s 1 → (1 ≤ s (166 + t) ∧ s (166 + t) ≤ 99) ∧ (0 ≤ s (171 + t) ∧ s (171 + t) ≤ 120) ∧ me_wf (ms_steps s t) 0 = true) :
    ∀ t, 0 ≤ t → t < s1 1 → (1 ≤ s1 (166 + t) ∧ s1 (166 + t) ≤ 99) ∧ (0 ≤ s1 (171 + t) ∧ s1 (171 + t) ≤ 120) ∧ me_wf (ms_steps s1 t) 0 = true := by
  intro t t1 t2
  rw [h1] at t2
  obtain ⟨a, b, c⟩ := h t t1 t2
  rw [hz (166 + t) (by omega), hz (171 + t) (by omega)]
  refine ⟨a, b, ?_⟩
  unfold ms_steps at c ⊢
  rw [hz (171 + t) (by omega), msl_congr (s := s) _ _ (fun z z1 z2 => hz z (by omega))]
  exact c
theorem ms_W_purse {s : Int → Int} (h : ms_W s) {p x : Int} (hp : 0 ≤ p ∧ p < s 0) (hx : 0 ≤ x ∧ x ≤ s (18 + p)) : ms_W (fu s (22 + p) x) := by
  obtain ⟨hr, h0, h1, h2, h3, h4, h5, h6, hp0, hrow, hwon, htape, htab⟩ := h
  have hg := (hp0 p hp.1 hp.2).2.2.1
  have e : ∀ z, (z < 22 ∨ 26 ≤ z) → fu s (22 + p) x z = s z := fun z hz => fu_n _ _ _ (by omega)
  refine ⟨fun z => ?_, ?_, ?_, ?_, ?_, ?_, ?_, ?_, fun q q1 q2 => ?_, fun z z1 z2 => ?_, fun z z1 z2 => ?_, fun z z1 z2 => ?_, ?_⟩
  · unfold fu; split; (have := hr (18 + p); omega); exact hr z
  · rw [e 0 (by omega)]; exact h0
  · rw [e 1 (by omega)]; exact h1
  · rw [e 2 (by omega)]; exact h2
  · rw [e 3 (by omega)]; exact h3
  · rw [e 4 (by omega), e 1 (by omega)]; exact h4
  · rw [e 5 (by omega)]; exact h5
  · rw [e 6 (by omega)]; exact h6
  · rw [e 0 (by omega)] at q2
    obtain ⟨g1, g2, g3, g4⟩ := hp0 q q1 q2
    rw [e (10 + q) (by omega), e (14 + q) (by omega), e (18 + q) (by omega)]
    refine ⟨g1, g2, g3, ?_⟩
    by_cases hq : q = p
    · subst hq; rw [fu_s]; exact hx
    · rw [fu_n _ _ _ (by omega)]; exact g4
  · rw [e z (by omega)]; exact hrow z z1 z2
  · rw [e z (by omega)]; exact hwon z z1 z2
  · rw [e z (by omega)]; exact htape z z1 z2
  · exact ms_tab (e 1 (by omega)) (fun z hz => e z (by omega)) h1.2 htab
theorem ms_stake_fu (s : Int → Int) {p : Int} (q x : Int) (hp : 0 ≤ p ∧ p < 4) (h4 : -1 ≤ s 4) (hq : 0 ≤ q) : ms_stake (fu s (22 + p) x) p q = ms_stake s p q := by
  have e : ∀ z, (z < 22 ∨ 26 ≤ z) → fu s (22 + p) x z = s z := fun z hz => fu_n _ _ _ (by omega)
  have e1 : ms_lim (fu s (22 + p) x) = ms_lim s := by
    unfold ms_lim
    rw [e 6 (by omega), e 4 (by omega), e (166 + s 4) (by omega)]
  have e2 : ms_wish (fu s (22 + p) x) p q = ms_wish s p q := by
    unfold ms_wish
    rw [e (10 + p) (by omega), e (14 + p) (by omega), e (18 + p) (by omega), e (26 + 4 * p + q % 4) (by omega)]
  unfold ms_stake ms_most
  rw [e1, e2, e (18 + p) (by omega)]
def sp_of (s : Int → Int) (q x : Int) : Int := if q < 0 ∨ s 0 ≤ q ∨ x < 0 ∨ 5 < x then -1 else if x < 4 then s (10 + 4 * x + q) else if s (22 + q) = 0 ∨ s (22 + q) = s (18 + q) then 0 else if x = 4 then ms_stake s q (s (22 + q)) else ms_odds s q (s (22 + q)) (ms_stake s q (s (22 + q)))
set_option maxHeartbeats 4000000 in
set_option maxRecDepth 100000 in
theorem kX12_of (G : xg_T) (d : Nat) (n : Nat) (tau : Nat → Nat × Nat) (vi vl : Nat → Int → Int) (vr : Nat → Int → Option Nat) (hI : MI n tau vi vr) (q x : Int) (hq : -2147483648 ≤ q ∧ q < 2147483648) (hx : -2147483648 ≤ x ∧ x < 2147483648) : xm G yX12_of cX12_of 5 (some .int) (d + 4) 0 0 [xa_r 31, xa_i q, xa_i x] n tau vi vl vr (xp_i (fun z9 n1 t1 a1 b1 c1 => z9 = sp_of (vi 32) q x ∧ mq (vi 32) (vi 33) (vi 31 3) (vi 31 22) (vi 44) n tau vi vl vr n1 t1 a1 b1 c1)) := by
  refine xm.of (lv := [(0, xa_r 31), (1, xa_i q), (2, xa_i x)]) (by decide) (Nat.le_of_ble_eq_true rfl) rfl (fun K hC hM hRm => ?_)
  obtain ⟨hO, ⟨⟨hr, h0, h1, h2, h3, h4, h5, h6, hp0, hrow, hwon, htape, htab⟩, h60⟩, him, hran, hz1, hz2⟩ := hI
  have hW : ms_W (vi 32) := ⟨hr, h0, h1, h2, h3, h4, h5, h6, hp0, hrow, hwon, htape, htab⟩
  refine vx_aload_n hC 0 rfl eX12_of_0 ?_
  refine vx_iload_n hC 1 rfl eX12_of_1 ?_
  refine vx_callV_i hC (kX12_isPlayer G (d + 1) _ _ _ _ _ hO (vi 32) rfl _ (by omega) (by omega)) ly_X12_140 (ot_31 hO) rfl rfl rfl hRm (by omega) (Nat.le_of_ble_eq_true rfl) rfl eX12_of_2 (fun x1 n9 t9 a9 b9 c9 hx1 => ?_)
  obtain ⟨hx1, rfl, rfl, rfl, rfl, rfl⟩ := hx1
  refine vx_if_eq hC (tgt := 17) (by omega) (by decide) eX12_of_5 (fun c2 => ?_) (fun c2 => ?_)
  · refine vx_iconst hC eX12_of_17 ?_
    exact vx_iret hC hM rfl eX12_of_18 (⟨_, rfl, by unfold sp_of; (try subst_vars); (repeat (first | rw [if_pos (by omega)] | rw [if_neg (by omega)])); all_goals (first | rfl | omega), rfl, rfl, rfl, rfl, rfl, rfl, rfl, rfl, fun k hk => ⟨rfl, rfl⟩⟩)
  · refine vx_iload_n hC 2 rfl eX12_of_8 ?_
    refine vx_iconst hC eX12_of_9 ?_
    refine vx_iconst hC eX12_of_10 ?_
    refine vx_callS_i hC (kX12_in G (d + 2) _ _ _ _ _ _ _ _ (by omega) (by omega) (by omega)) ly_X12_57 rfl hRm (by omega) (Nat.le_of_ble_eq_true rfl) rfl eX12_of_11 (fun x3 n9 t9 a9 b9 c9 hx3 => ?_)
    obtain ⟨hx3, rfl, rfl, rfl, rfl, rfl⟩ := hx3
    refine vx_if_ne hC (tgt := 19) (by omega) (by decide) eX12_of_14 (fun c4 => ?_) (fun c4 => ?_)
    · refine vx_iload_n hC 2 rfl eX12_of_19 ?_
      refine vx_iconst hC eX12_of_20 ?_
      refine vx_icmp_ge hC (tgt := 38) (by omega) (by decide) eX12_of_21 (fun c5 => ?_) (fun c5 => ?_)
      · obtain ⟨g1, g2, g3, g4⟩ := hp0 q (by omega) (by omega)
        refine vx_aload_n hC 0 rfl eX12_of_38 ?_
        refine vx_gr hC 1 (ot_31 hO) lf_X12_9 rfl (or_31_1 hO) eX12_of_39 ?_
        refine vx_bipush hC (by decide) eX12_of_42 ?_
        refine vx_iload_n hC 1 rfl eX12_of_44 ?_
        refine vx_iadd hC eX12_of_45 ?_
        refine vx_iaload hC (ot_32 hO) (by omega) (by omega) eX12_of_46 ?_
        refine vx_top (fun x6 hx6 => ?_)
        refine vx_istore_n hC (lv1 := [(3, xa_i x6), (0, xa_r 31), (1, xa_i q), (2, xa_i x)]) (by decide) rfl eX12_of_47 ?_
        have gs := ms_stake_r hW (p := q) (q := x6) (by omega) (by omega)
        refine vx_aload_n hC 1 rfl eX12_of_48 ?_
        refine vx_iload_n hC 2 rfl eX12_of_49 ?_
        refine vx_callV_i hC (kX12_isOver G (d + 2) _ _ _ _ _ hO (vi 32) rfl _ (by omega) hr) ly_X12_154 (ot_31 hO) rfl rfl rfl hRm (by omega) (Nat.le_of_ble_eq_true rfl) rfl eX12_of_50 (fun x7 n9 t9 a9 b9 c9 hx7 => ?_)
        obtain ⟨hx7, rfl, rfl, rfl, rfl, rfl⟩ := hx7
        refine vx_if_eq hC (tgt := 60) (by omega) (by decide) eX12_of_53 (fun c8 => ?_) (fun c8 => ?_)
        · refine vx_aload_n hC 1 rfl eX12_of_60 ?_
          refine vx_iload_n hC 2 rfl eX12_of_61 ?_
          refine vx_iload_n hC 0 rfl eX12_of_62 ?_
          refine vx_callV_i hC (kX12_stakeOf G d _ _ _ _ _ hO (vi 32) rfl hW q (by omega) _ (by omega)) ly_X12_157 (ot_31 hO) rfl rfl rfl hRm (by omega) (Nat.le_of_ble_eq_true rfl) rfl eX12_of_63 (fun x9 n9 t9 a9 b9 c9 hx9 => ?_)
          obtain ⟨hx9, rfl, rfl, rfl, rfl, rfl⟩ := hx9
          refine vx_istore hC (lv1 := [(4, xa_i x9), (3, xa_i x6), (0, xa_r 31), (1, xa_i q), (2, xa_i x)]) (by decide) rfl eX12_of_66 ?_
          refine vx_iload_n hC 4 rfl eX12_of_68 ?_
          refine vx_iconst hC eX12_of_69 ?_
          refine vx_icmp_eq hC (tgt := 78) (by omega) (by decide) eX12_of_70 (fun c10 => ?_) (fun c10 => ?_)
          · refine vx_iload hC 0 rfl eX12_of_78 ?_
            refine vx_goto hC (tgt := 91) (by decide) eX12_of_80 ?_
            exact vx_iret hC hM rfl eX12_of_91 (⟨_, rfl, by unfold sp_of; (try subst_vars); (repeat (first | rw [if_pos (by omega)] | rw [if_neg (by omega)])); all_goals (first | rfl | omega), rfl, rfl, rfl, rfl, rfl, rfl, rfl, rfl, fun k hk => ⟨rfl, rfl⟩⟩)
          · refine vx_iload hC 0 rfl eX12_of_73 ?_
            refine vx_if_ne hC (tgt := 83) (by omega) (by decide) eX12_of_75 (fun c11 => ?_) (fun c11 => ?_)
            · refine vx_aload_n hC 2 rfl eX12_of_83 ?_
              refine vx_iload_n hC 3 rfl eX12_of_84 ?_
              refine vx_iload_n hC 1 rfl eX12_of_85 ?_
              refine vx_iload hC 0 rfl eX12_of_86 ?_
              refine vx_callV_i hC (kX12_oddsOf G (d + 2) _ _ _ _ _ hO (vi 32) rfl hW q (by omega) x6 (by omega) x9 (by omega)) ly_X12_160 (ot_31 hO) rfl rfl rfl hRm (by omega) (Nat.le_of_ble_eq_true rfl) rfl eX12_of_88 (fun x12 ng13 tg13 ag13 bg13 cg13 hg13 => ?_)
              obtain ⟨hx12, rfl, rfl, rfl, rfl, frg13⟩ := hg13
              have hg13_32 : ag13 32 = vi 32 := (frg13 32 (by omega))
              have hg13_33 : ag13 33 = vi 33 := (frg13 33 (by omega))
              have hg13_31_3 : ag13 31 3 = vi 31 3 := (congrFun (frg13 31 (by omega)) _)
              have hg13_31_22 : ag13 31 22 = vi 31 22 := (congrFun (frg13 31 (by omega)) _)
              have hg13_44 : ag13 44 = vi 44 := (frg13 44 (by omega))
              have frvig13 : ∀ k : Nat, (k < 31 ∨ 44 < k) → ag13 k = vi k := fun k hk => (frg13 k (by omega))
              exact vx_iret hC hM rfl eX12_of_91 (⟨_, rfl, by unfold sp_of; (try subst_vars); (repeat (first | rw [if_pos (by omega)] | rw [if_neg (by omega)])); all_goals (first | rfl | omega), rfl, rfl, rfl, hg13_32, hg13_33, hg13_31_3, hg13_31_22, hg13_44, fun k hk => ⟨frvig13 k hk, rfl⟩⟩)
            · refine vx_iload hC 0 rfl eX12_of_78 ?_
              refine vx_goto hC (tgt := 91) (by decide) eX12_of_80 ?_
              exact vx_iret hC hM rfl eX12_of_91 (⟨_, rfl, by unfold sp_of; (try subst_vars); (repeat (first | rw [if_pos (by omega)] | rw [if_neg (by omega)])); all_goals (first | rfl | omega), rfl, rfl, rfl, rfl, rfl, rfl, rfl, rfl, fun k hk => ⟨rfl, rfl⟩⟩)
        · refine vx_iconst hC eX12_of_56 ?_
          refine vx_goto hC (tgt := 66) (by decide) eX12_of_57 ?_
          refine vx_istore hC (lv1 := [(4, xa_i 0), (3, xa_i x6), (0, xa_r 31), (1, xa_i q), (2, xa_i x)]) (by decide) rfl eX12_of_66 ?_
          refine vx_iload_n hC 4 rfl eX12_of_68 ?_
          refine vx_iconst hC eX12_of_69 ?_
          refine vx_icmp_eq hC (tgt := 78) (by omega) (by decide) eX12_of_70 (fun c14 => ?_) (fun c14 => ?_)
          · refine vx_iload hC 0 rfl eX12_of_78 ?_
            refine vx_goto hC (tgt := 91) (by decide) eX12_of_80 ?_
            exact vx_iret hC hM rfl eX12_of_91 (⟨_, rfl, by unfold sp_of; (try subst_vars); (repeat (first | rw [if_pos (by omega)] | rw [if_neg (by omega)])); all_goals (first | rfl | omega), rfl, rfl, rfl, rfl, rfl, rfl, rfl, rfl, fun k hk => ⟨rfl, rfl⟩⟩)
          · refine vx_iload hC 0 rfl eX12_of_73 ?_
            refine vx_if_ne hC (tgt := 83) (by omega) (by decide) eX12_of_75 (fun c15 => ?_) (fun c15 => ?_)
            · refine vx_aload_n hC 2 rfl eX12_of_83 ?_
              refine vx_iload_n hC 3 rfl eX12_of_84 ?_
              refine vx_iload_n hC 1 rfl eX12_of_85 ?_
              refine vx_iload hC 0 rfl eX12_of_86 ?_
              refine vx_callV_i hC (kX12_oddsOf G (d + 2) _ _ _ _ _ hO (vi 32) rfl hW q (by omega) x6 (by omega) 0 (by omega)) ly_X12_160 (ot_31 hO) rfl rfl rfl hRm (by omega) (Nat.le_of_ble_eq_true rfl) rfl eX12_of_88 (fun x16 ng17 tg17 ag17 bg17 cg17 hg17 => ?_)
              obtain ⟨hx16, rfl, rfl, rfl, rfl, frg17⟩ := hg17
              have hg17_32 : ag17 32 = vi 32 := (frg17 32 (by omega))
              have hg17_33 : ag17 33 = vi 33 := (frg17 33 (by omega))
              have hg17_31_3 : ag17 31 3 = vi 31 3 := (congrFun (frg17 31 (by omega)) _)
              have hg17_31_22 : ag17 31 22 = vi 31 22 := (congrFun (frg17 31 (by omega)) _)
              have hg17_44 : ag17 44 = vi 44 := (frg17 44 (by omega))
              have frvig17 : ∀ k : Nat, (k < 31 ∨ 44 < k) → ag17 k = vi k := fun k hk => (frg17 k (by omega))
              exact vx_iret hC hM rfl eX12_of_91 (⟨_, rfl, by unfold sp_of; (try subst_vars); (repeat (first | rw [if_pos (by omega)] | rw [if_neg (by omega)])); all_goals (first | rfl | omega), rfl, rfl, rfl, hg17_32, hg17_33, hg17_31_3, hg17_31_22, hg17_44, fun k hk => ⟨frvig17 k hk, rfl⟩⟩)
            · refine vx_iload hC 0 rfl eX12_of_78 ?_
              refine vx_goto hC (tgt := 91) (by decide) eX12_of_80 ?_
              exact vx_iret hC hM rfl eX12_of_91 (⟨_, rfl, by unfold sp_of; (try subst_vars); (repeat (first | rw [if_pos (by omega)] | rw [if_neg (by omega)])); all_goals (first | rfl | omega), rfl, rfl, rfl, rfl, rfl, rfl, rfl, rfl, fun k hk => ⟨rfl, rfl⟩⟩)
      · refine vx_aload_n hC 0 rfl eX12_of_24 ?_
        refine vx_gr hC 1 (ot_31 hO) lf_X12_9 rfl (or_31_1 hO) eX12_of_25 ?_
        refine vx_bipush hC (by decide) eX12_of_28 ?_
        refine vx_iconst hC eX12_of_30 ?_
        refine vx_iload_n hC 2 rfl eX12_of_31 ?_
        refine vx_imul hC eX12_of_32 ?_
        refine vx_iadd hC eX12_of_33 ?_
        refine vx_iload_n hC 1 rfl eX12_of_34 ?_
        refine vx_iadd hC eX12_of_35 ?_
        refine vx_iaload hC (ot_32 hO) (by omega) (by omega) eX12_of_36 ?_
        exact vx_iret hC hM rfl eX12_of_37 (⟨_, rfl, by unfold sp_of; (try subst_vars); (repeat (first | rw [if_pos (by omega)] | rw [if_neg (by omega)])); all_goals (first | rfl | omega), rfl, rfl, rfl, rfl, rfl, rfl, rfl, rfl, fun k hk => ⟨rfl, rfl⟩⟩)
    · refine vx_iconst hC eX12_of_17 ?_
      exact vx_iret hC hM rfl eX12_of_18 (⟨_, rfl, by unfold sp_of; (try subst_vars); (repeat (first | rw [if_pos (by omega)] | rw [if_neg (by omega)])); all_goals (first | rfl | omega), rfl, rfl, rfl, rfl, rfl, rfl, rfl, rfl, fun k hk => ⟨rfl, rfl⟩⟩)
abbrev by_T : Type := Int × Int × Int × Int × Int
/-- a throw of the row: purse, made, top, low, back -/
def by_1 (s : Int → Int) (p first k : Int) (z : by_T) : by_T :=
  let u := if s (42 + k) = 1 then z.1 + ms_stake s p z.1 else z.1 - ms_stake s p z.1
  (u, z.2.1 + 1, (if z.2.2.1 < u then u else z.2.2.1), (if u < z.2.2.2.1 then u else z.2.2.2.1), (if u = first then k + 1 else z.2.2.2.2))
def by_run (s : Int → Int) (p first : Int) : Nat → Int → by_T → by_T
  | 0, _, z => z
  | c + 1, k, z => if z.1 = 0 ∨ z.1 = s (18 + p) then z else by_run s p first c (k + 1) (by_1 s p first k z)
def by_all (s : Int → Int) (p : Int) : by_T := by_run s p (s (22 + p)) (s 2).toNat 0 (s (22 + p), 0, s (22 + p), s (22 + p), 0)
def sp_by (s : Int → Int) (q x : Int) : Int := if q < 0 ∨ s 0 ≤ q ∨ x < 0 ∨ 4 < x then -1 else if x = 0 then (by_all s q).1 else if x = 1 then (by_all s q).2.1 else if x = 2 then (by_all s q).2.2.1 else if x = 3 then (by_all s q).2.2.2.1 else (by_all s q).2.2.2.2
theorem fu_fu (f : Int → Int) (z x y : Int) : fu (fu f z x) z y = fu f z y := by funext w; unfold fu; split <;> rfl
theorem fu_self (f : Int → Int) {z x : Int} (h : f z = x) : fu f z x = f := by funext w; unfold fu; split; (next e => rw [e]; exact h.symm); rfl
set_option maxHeartbeats 4000000 in
set_option maxRecDepth 100000 in
theorem kX12_by (G : xg_T) (d : Nat) (n : Nat) (tau : Nat → Nat × Nat) (vi vl : Nat → Int → Int) (vr : Nat → Int → Option Nat) (hI : MI n tau vi vr) (q x : Int) (hq : -2147483648 ≤ q ∧ q < 2147483648) (hx : -2147483648 ≤ x ∧ x < 2147483648) : xm G yX12_by cX12_by 10 (some .int) (d + 5) 0 0 [xa_r 31, xa_i q, xa_i x] n tau vi vl vr (xp_i (fun z9 n1 t1 a1 b1 c1 => z9 = sp_by (vi 32) q x ∧ mq (vi 32) (vi 33) (vi 31 3) (vi 31 22) (vi 44) n tau vi vl vr n1 t1 a1 b1 c1)) := by
  refine xm.of (lv := [(0, xa_r 31), (1, xa_i q), (2, xa_i x)]) (by decide) (Nat.le_of_ble_eq_true rfl) rfl (fun K hC hM hRm => ?_)
  obtain ⟨hO, ⟨⟨hr, h0, h1, h2, h3, h4, h5, h6, hp0, hrow, hwon, htape, htab⟩, h60⟩, him, hran, hz1, hz2⟩ := hI
  have hW : ms_W (vi 32) := ⟨hr, h0, h1, h2, h3, h4, h5, h6, hp0, hrow, hwon, htape, htab⟩
  refine vx_aload_n hC 0 rfl eX12_by_0 ?_
  refine vx_iload_n hC 1 rfl eX12_by_1 ?_
  refine vx_callV_i hC (kX12_isPlayer G (d + 2) _ _ _ _ _ hO (vi 32) rfl _ (by omega) (by omega)) ly_X12_140 (ot_31 hO) rfl rfl rfl hRm (by omega) (Nat.le_of_ble_eq_true rfl) rfl eX12_by_2 (fun x1 n9 t9 a9 b9 c9 hx1 => ?_)
  obtain ⟨hx1, rfl, rfl, rfl, rfl, rfl⟩ := hx1
  refine vx_if_eq hC (tgt := 17) (by omega) (by decide) eX12_by_5 (fun c2 => ?_) (fun c2 => ?_)
  · refine vx_iconst hC eX12_by_17 ?_
    exact vx_iret hC hM rfl eX12_by_18 (⟨_, rfl, by first | (unfold sp_by; (repeat (first | rw [if_pos (by omega)] | rw [if_neg (by omega)])); done) | (unfold sp_by; (repeat (first | rw [if_pos (by omega)] | rw [if_neg (by omega)])); all_goals (rw [hall]); all_goals (first | rfl | (subst_vars; rfl))), rfl, rfl, rfl, (by (first | exact rfl | (rw [rfl]; (try simp only []); rw [fu_fu, fu_self _ (by first | rfl | omega)]))), rfl, rfl, rfl, rfl, fun k hk => ⟨rfl, rfl⟩⟩)
  · refine vx_iload_n hC 2 rfl eX12_by_8 ?_
    refine vx_iconst hC eX12_by_9 ?_
    refine vx_iconst hC eX12_by_10 ?_
    refine vx_callS_i hC (kX12_in G (d + 3) _ _ _ _ _ _ _ _ (by omega) (by omega) (by omega)) ly_X12_57 rfl hRm (by omega) (Nat.le_of_ble_eq_true rfl) rfl eX12_by_11 (fun x3 n9 t9 a9 b9 c9 hx3 => ?_)
    obtain ⟨hx3, rfl, rfl, rfl, rfl, rfl⟩ := hx3
    refine vx_if_ne hC (tgt := 19) (by omega) (by decide) eX12_by_14 (fun c4 => ?_) (fun c4 => ?_)
    · obtain ⟨g1, g2, g3, g4⟩ := hp0 q (by omega) (by omega)
      refine vx_aload_n hC 0 rfl eX12_by_19 ?_
      refine vx_gr hC 1 (ot_31 hO) lf_X12_9 rfl (or_31_1 hO) eX12_by_20 ?_
      refine vx_bipush hC (by decide) eX12_by_23 ?_
      refine vx_iload_n hC 1 rfl eX12_by_25 ?_
      refine vx_iadd hC eX12_by_26 ?_
      refine vx_iaload hC (ot_32 hO) (by omega) (by omega) eX12_by_27 ?_
      refine vx_top (fun x5 hx5 => ?_)
      refine vx_istore_n hC (lv1 := [(3, xa_i x5), (0, xa_r 31), (1, xa_i q), (2, xa_i x)]) (by decide) rfl eX12_by_28 ?_
      refine vx_iconst hC eX12_by_29 ?_
      refine vx_istore hC (lv1 := [(4, xa_i 0), (3, xa_i x5), (0, xa_r 31), (1, xa_i q), (2, xa_i x)]) (by decide) rfl eX12_by_30 ?_
      refine vx_iload_n hC 1 rfl eX12_by_32 ?_
      refine vx_istore hC (lv1 := [(5, xa_i x5), (4, xa_i 0), (3, xa_i x5), (0, xa_r 31), (1, xa_i q), (2, xa_i x)]) (by decide) rfl eX12_by_33 ?_
      refine vx_iload_n hC 2 rfl eX12_by_35 ?_
      refine vx_istore hC (lv1 := [(6, xa_i x5), (5, xa_i x5), (4, xa_i 0), (3, xa_i x5), (0, xa_r 31), (1, xa_i q), (2, xa_i x)]) (by decide) rfl eX12_by_36 ?_
      refine vx_iconst hC eX12_by_38 ?_
      refine vx_istore hC (lv1 := [(7, xa_i 0), (6, xa_i x5), (5, xa_i x5), (4, xa_i 0), (3, xa_i x5), (0, xa_r 31), (1, xa_i q), (2, xa_i x)]) (by decide) rfl eX12_by_39 ?_
      refine vx_iconst hC eX12_by_41 ?_
      refine vx_istore hC (lv1 := [(8, xa_i 0), (7, xa_i 0), (6, xa_i x5), (5, xa_i x5), (4, xa_i 0), (3, xa_i x5), (0, xa_r 31), (1, xa_i q), (2, xa_i x)]) (by decide) rfl eX12_by_42 ?_
      have LP44 : ∀ (j : Nat) (c : Nat) (k : Int) (pu : Int) (made : Int) (top : Int) (low : Int) (back : Int) (m2 : Nat → Int → Int) (hc : k + (c : Int) = vi 32 2 ∧ 0 ≤ k) (hpu : 0 ≤ pu ∧ pu ≤ vi 32 (18 + q)) (hmd : 0 ≤ made ∧ made ≤ k ∧ 0 ≤ back ∧ back ≤ k) (htl : 0 ≤ top ∧ top ≤ 12 ∧ 0 ≤ low ∧ low ≤ 12) (hres : by_run (vi 32) q x5 c k (pu, made, top, low, back) = by_all (vi 32) q) (e1 : m2 32 = fu (vi 32) (22 + q) pu) (e2 : m2 33 = vi 33) (e3 : m2 31 3 = vi 31 3) (e4 : m2 31 22 = vi 31 22) (e5 : m2 44 = vi 44) (fr2 : ∀ q : Nat, q < 31 ∨ 44 < q → m2 q = vi q) (hj : (c : Int) < (j : Int)), xv G K 10 (xk_Q G K (xp_i (fun z9 n1 t1 a1 b1 c1 => z9 = sp_by (vi 32) q x ∧ mq (vi 32) (vi 33) (vi 31 3) (vi 31 22) (vi 44) n tau vi vl vr n1 t1 a1 b1 c1)) 0 0) 0 0 n tau m2 vl vr 44 [(0, xa_r 31), (1, xa_i q), (2, xa_i x), (3, xa_i x5), (4, xa_i made), (5, xa_i top), (6, xa_i low), (7, xa_i back), (8, xa_i k)] [] := by
        intro j
        induction j with
        | zero => intro c k pu made top low back m2 hc hpu hmd htl hres e1 e2 e3 e4 e5 fr2 hj; exfalso; omega
        | succ j ih =>
          intro c k pu made top low back m2 hc hpu hmd htl hres e1 e2 e3 e4 e5 fr2 hj
          refine vx_iload hC 8 rfl eX12_by_44 ?_
          refine vx_aload_n hC 0 rfl eX12_by_46 ?_
          refine vx_gr hC 1 (ot_31 hO) lf_X12_9 rfl (or_31_1 hO) eX12_by_47 ?_
          refine vx_iconst hC eX12_by_50 ?_
          refine vx_iaload hC (ot_32 hO) (by omega) (by omega) eX12_by_51 ?_
          refine vx_eqi (congrFun e1 _) ?_
          refine vx_eqi (y := vi 32 2) (by subst_vars; rw [fu_n _ _ _ (by omega)]) ?_
          refine vx_icmp_ge hC (tgt := 156) (by omega) (by decide) eX12_by_52 (fun c6 => ?_) (fun c6 => ?_)
          · have hall : by_all (vi 32) q = (pu, made, top, low, back) := by rw [← hres]; first | (rw [show c = 0 by omega]; rfl) | (rw [by_run, if_pos (by omega)])
            refine vx_aload_n hC 0 rfl eX12_by_156 ?_
            refine vx_gr hC 1 (ot_31 hO) lf_X12_9 rfl (or_31_1 hO) eX12_by_157 ?_
            refine vx_bipush hC (by decide) eX12_by_160 ?_
            refine vx_iload_n hC 1 rfl eX12_by_162 ?_
            refine vx_iadd hC eX12_by_163 ?_
            refine vx_iaload hC (ot_32 hO) (by omega) (by omega) eX12_by_164 ?_
            refine vx_eqi (congrFun e1 _) ?_
            refine vx_eqi (y := pu) (fu_s _ _ _) ?_
            refine vx_top (fun x7 hx7 => ?_)
            refine vx_istore hC (lv1 := [(8, xa_i x7), (0, xa_r 31), (1, xa_i q), (2, xa_i x), (3, xa_i x5), (4, xa_i made), (5, xa_i top), (6, xa_i low), (7, xa_i back)]) (by decide) rfl eX12_by_165 ?_
            refine vx_aload_n hC 1 rfl eX12_by_167 ?_
            refine vx_gr hC 1 (ot_31 hO) lf_X12_9 rfl (or_31_1 hO) eX12_by_168 ?_
            refine vx_bipush hC (by decide) eX12_by_171 ?_
            refine vx_iload_n hC 2 rfl eX12_by_173 ?_
            refine vx_iadd hC eX12_by_174 ?_
            refine vx_iload_n hC 4 rfl eX12_by_175 ?_
            refine vx_top2 (fun x8 hx8 => ?_)
            refine vx_iastore hC (ot_32 hO) (by omega) (by omega) eX12_by_176 ?_
            refine vx_vi (fun v9 hv9 => ?_)
            obtain ⟨f10, hf10⟩ : ∃ f, f = fu (fu (vi 32) (22 + q) pu) x8 x5 := ⟨_, rfl⟩
            have hv9_32 : v9 32 = f10 := by rw [hv9, hf10, xu_k, e1]
            have hv9_33 : v9 33 = vi 33 := by rw [hv9, xu_c _ _ _ _ (by decide), e2]
            have hv9_31_3 : v9 31 3 = vi 31 3 := by rw [hv9, xu_c _ _ _ _ (by decide), e3]
            have hv9_31_22 : v9 31 22 = vi 31 22 := by rw [hv9, xu_c _ _ _ _ (by decide), e4]
            have hv9_44 : v9 44 = vi 44 := by rw [hv9, xu_c _ _ _ _ (by decide), e5]
            have frv9 : ∀ k : Nat, (k < 31 ∨ 44 < k) → v9 k = vi k := fun k hk => by rw [hv9, xu_c _ _ _ _ (by omega)]; exact fr2 k hk
            refine vx_iload_n hC 3 rfl eX12_by_177 ?_
            rcases (show x = 0 ∨ x = 1 ∨ x = 2 ∨ x = 3 ∨ (¬ x = 0 ∧ ¬ x = 1 ∧ ¬ x = 2 ∧ ¬ x = 3) by omega) with c11 | c11 | c11 | c11 | c11
            · refine vx_tableIn hC (tgt := 208) (by omega) (by omega) (by rw [c11]; rfl) (by decide) eX12_by_178 ?_
              refine vx_iload hC 0 rfl eX12_by_208 ?_
              exact vx_iret hC hM rfl eX12_by_210 (⟨_, rfl, by first | (unfold sp_by; (repeat (first | rw [if_pos (by omega)] | rw [if_neg (by omega)])); done) | (unfold sp_by; (repeat (first | rw [if_pos (by omega)] | rw [if_neg (by omega)])); all_goals (rw [hall]); all_goals (first | rfl | (subst_vars; rfl))), rfl, rfl, rfl, (by (first | exact hv9_32 | (rw [hv9_32]; (try simp only [hx5, hx7, hx8, hf10]); rw [fu_fu, fu_self _ (by first | rfl | omega)]))), hv9_33, hv9_31_3, hv9_31_22, hv9_44, fun k hk => ⟨frv9 k hk, rfl⟩⟩)
            · refine vx_tableIn hC (tgt := 211) (by omega) (by omega) (by rw [c11]; rfl) (by decide) eX12_by_178 ?_
              refine vx_iload hC 5 rfl eX12_by_211 ?_
              exact vx_iret hC hM rfl eX12_by_213 (⟨_, rfl, by first | (unfold sp_by; (repeat (first | rw [if_pos (by omega)] | rw [if_neg (by omega)])); done) | (unfold sp_by; (repeat (first | rw [if_pos (by omega)] | rw [if_neg (by omega)])); all_goals (rw [hall]); all_goals (first | rfl | (subst_vars; rfl))), rfl, rfl, rfl, (by (first | exact hv9_32 | (rw [hv9_32]; (try simp only [hx5, hx7, hx8, hf10]); rw [fu_fu, fu_self _ (by first | rfl | omega)]))), hv9_33, hv9_31_3, hv9_31_22, hv9_44, fun k hk => ⟨frv9 k hk, rfl⟩⟩)
            · refine vx_tableIn hC (tgt := 214) (by omega) (by omega) (by rw [c11]; rfl) (by decide) eX12_by_178 ?_
              refine vx_iload hC 6 rfl eX12_by_214 ?_
              exact vx_iret hC hM rfl eX12_by_216 (⟨_, rfl, by first | (unfold sp_by; (repeat (first | rw [if_pos (by omega)] | rw [if_neg (by omega)])); done) | (unfold sp_by; (repeat (first | rw [if_pos (by omega)] | rw [if_neg (by omega)])); all_goals (rw [hall]); all_goals (first | rfl | (subst_vars; rfl))), rfl, rfl, rfl, (by (first | exact hv9_32 | (rw [hv9_32]; (try simp only [hx5, hx7, hx8, hf10]); rw [fu_fu, fu_self _ (by first | rfl | omega)]))), hv9_33, hv9_31_3, hv9_31_22, hv9_44, fun k hk => ⟨frv9 k hk, rfl⟩⟩)
            · refine vx_tableIn hC (tgt := 217) (by omega) (by omega) (by rw [c11]; rfl) (by decide) eX12_by_178 ?_
              refine vx_iload hC 7 rfl eX12_by_217 ?_
              exact vx_iret hC hM rfl eX12_by_219 (⟨_, rfl, by first | (unfold sp_by; (repeat (first | rw [if_pos (by omega)] | rw [if_neg (by omega)])); done) | (unfold sp_by; (repeat (first | rw [if_pos (by omega)] | rw [if_neg (by omega)])); all_goals (rw [hall]); all_goals (first | rfl | (subst_vars; rfl))), rfl, rfl, rfl, (by (first | exact hv9_32 | (rw [hv9_32]; (try simp only [hx5, hx7, hx8, hf10]); rw [fu_fu, fu_self _ (by first | rfl | omega)]))), hv9_33, hv9_31_3, hv9_31_22, hv9_44, fun k hk => ⟨frv9 k hk, rfl⟩⟩)
            · refine vx_tableOut hC (tgt := 220) (by omega) (by omega) (by decide) eX12_by_178 ?_
              refine vx_iload hC 8 rfl eX12_by_220 ?_
              exact vx_iret hC hM rfl eX12_by_222 (⟨_, rfl, by first | (unfold sp_by; (repeat (first | rw [if_pos (by omega)] | rw [if_neg (by omega)])); done) | (unfold sp_by; (repeat (first | rw [if_pos (by omega)] | rw [if_neg (by omega)])); all_goals (rw [hall]); all_goals (first | rfl | (subst_vars; rfl))), rfl, rfl, rfl, (by (first | exact hv9_32 | (rw [hv9_32]; (try simp only [hx5, hx7, hx8, hf10]); rw [fu_fu, fu_self _ (by first | rfl | omega)]))), hv9_33, hv9_31_3, hv9_31_22, hv9_44, fun k hk => ⟨frv9 k hk, rfl⟩⟩)
          · obtain ⟨c1, rfl⟩ : ∃ c1, c = c1 + 1 := ⟨c - 1, by omega⟩
            refine vx_aload_n hC 0 rfl eX12_by_55 ?_
            refine vx_iload_n hC 1 rfl eX12_by_56 ?_
            refine vx_callV_i hC (kX12_isOver G (d + 3) _ _ _ _ _ hO (fu (vi 32) (22 + q) pu) e1 _ (by omega) (ms_W_purse hW (p := q) (x := pu) (by omega) (by omega)).1) ly_X12_154 (ot_31 hO) rfl rfl rfl hRm (by omega) (Nat.le_of_ble_eq_true rfl) rfl eX12_by_57 (fun x12 n9 t9 a9 b9 c9 hx12 => ?_)
            obtain ⟨hx12, rfl, rfl, rfl, rfl, rfl⟩ := hx12
            rw [fu_s, fu_n _ _ _ (by omega)] at hx12
            refine vx_if_ne hC (tgt := 156) (by omega) (by decide) eX12_by_60 (fun c13 => ?_) (fun c13 => ?_)
            · have hall : by_all (vi 32) q = (pu, made, top, low, back) := by rw [← hres]; first | (rw [show c = 0 by omega]; rfl) | (rw [by_run, if_pos (by omega)])
              refine vx_aload_n hC 0 rfl eX12_by_156 ?_
              refine vx_gr hC 1 (ot_31 hO) lf_X12_9 rfl (or_31_1 hO) eX12_by_157 ?_
              refine vx_bipush hC (by decide) eX12_by_160 ?_
              refine vx_iload_n hC 1 rfl eX12_by_162 ?_
              refine vx_iadd hC eX12_by_163 ?_
              refine vx_iaload hC (ot_32 hO) (by omega) (by omega) eX12_by_164 ?_
              refine vx_eqi (congrFun e1 _) ?_
              refine vx_eqi (y := pu) (fu_s _ _ _) ?_
              refine vx_top (fun x14 hx14 => ?_)
              refine vx_istore hC (lv1 := [(8, xa_i x14), (0, xa_r 31), (1, xa_i q), (2, xa_i x), (3, xa_i x5), (4, xa_i made), (5, xa_i top), (6, xa_i low), (7, xa_i back)]) (by decide) rfl eX12_by_165 ?_
              refine vx_aload_n hC 1 rfl eX12_by_167 ?_
              refine vx_gr hC 1 (ot_31 hO) lf_X12_9 rfl (or_31_1 hO) eX12_by_168 ?_
              refine vx_bipush hC (by decide) eX12_by_171 ?_
              refine vx_iload_n hC 2 rfl eX12_by_173 ?_
              refine vx_iadd hC eX12_by_174 ?_
              refine vx_iload_n hC 4 rfl eX12_by_175 ?_
              refine vx_top2 (fun x15 hx15 => ?_)
              refine vx_iastore hC (ot_32 hO) (by omega) (by omega) eX12_by_176 ?_
              refine vx_vi (fun v16 hv16 => ?_)
              obtain ⟨f17, hf17⟩ : ∃ f, f = fu (fu (vi 32) (22 + q) pu) x15 x5 := ⟨_, rfl⟩
              have hv16_32 : v16 32 = f17 := by rw [hv16, hf17, xu_k, e1]
              have hv16_33 : v16 33 = vi 33 := by rw [hv16, xu_c _ _ _ _ (by decide), e2]
              have hv16_31_3 : v16 31 3 = vi 31 3 := by rw [hv16, xu_c _ _ _ _ (by decide), e3]
              have hv16_31_22 : v16 31 22 = vi 31 22 := by rw [hv16, xu_c _ _ _ _ (by decide), e4]
              have hv16_44 : v16 44 = vi 44 := by rw [hv16, xu_c _ _ _ _ (by decide), e5]
              have frv16 : ∀ k : Nat, (k < 31 ∨ 44 < k) → v16 k = vi k := fun k hk => by rw [hv16, xu_c _ _ _ _ (by omega)]; exact fr2 k hk
              refine vx_iload_n hC 3 rfl eX12_by_177 ?_
              rcases (show x = 0 ∨ x = 1 ∨ x = 2 ∨ x = 3 ∨ (¬ x = 0 ∧ ¬ x = 1 ∧ ¬ x = 2 ∧ ¬ x = 3) by omega) with c18 | c18 | c18 | c18 | c18
              · refine vx_tableIn hC (tgt := 208) (by omega) (by omega) (by rw [c18]; rfl) (by decide) eX12_by_178 ?_
                refine vx_iload hC 0 rfl eX12_by_208 ?_
                exact vx_iret hC hM rfl eX12_by_210 (⟨_, rfl, by first | (unfold sp_by; (repeat (first | rw [if_pos (by omega)] | rw [if_neg (by omega)])); done) | (unfold sp_by; (repeat (first | rw [if_pos (by omega)] | rw [if_neg (by omega)])); all_goals (rw [hall]); all_goals (first | rfl | (subst_vars; rfl))), rfl, rfl, rfl, (by (first | exact hv16_32 | (rw [hv16_32]; (try simp only [hx5, hx14, hx15, hf17]); rw [fu_fu, fu_self _ (by first | rfl | omega)]))), hv16_33, hv16_31_3, hv16_31_22, hv16_44, fun k hk => ⟨frv16 k hk, rfl⟩⟩)
              · refine vx_tableIn hC (tgt := 211) (by omega) (by omega) (by rw [c18]; rfl) (by decide) eX12_by_178 ?_
                refine vx_iload hC 5 rfl eX12_by_211 ?_
                exact vx_iret hC hM rfl eX12_by_213 (⟨_, rfl, by first | (unfold sp_by; (repeat (first | rw [if_pos (by omega)] | rw [if_neg (by omega)])); done) | (unfold sp_by; (repeat (first | rw [if_pos (by omega)] | rw [if_neg (by omega)])); all_goals (rw [hall]); all_goals (first | rfl | (subst_vars; rfl))), rfl, rfl, rfl, (by (first | exact hv16_32 | (rw [hv16_32]; (try simp only [hx5, hx14, hx15, hf17]); rw [fu_fu, fu_self _ (by first | rfl | omega)]))), hv16_33, hv16_31_3, hv16_31_22, hv16_44, fun k hk => ⟨frv16 k hk, rfl⟩⟩)
              · refine vx_tableIn hC (tgt := 214) (by omega) (by omega) (by rw [c18]; rfl) (by decide) eX12_by_178 ?_
                refine vx_iload hC 6 rfl eX12_by_214 ?_
                exact vx_iret hC hM rfl eX12_by_216 (⟨_, rfl, by first | (unfold sp_by; (repeat (first | rw [if_pos (by omega)] | rw [if_neg (by omega)])); done) | (unfold sp_by; (repeat (first | rw [if_pos (by omega)] | rw [if_neg (by omega)])); all_goals (rw [hall]); all_goals (first | rfl | (subst_vars; rfl))), rfl, rfl, rfl, (by (first | exact hv16_32 | (rw [hv16_32]; (try simp only [hx5, hx14, hx15, hf17]); rw [fu_fu, fu_self _ (by first | rfl | omega)]))), hv16_33, hv16_31_3, hv16_31_22, hv16_44, fun k hk => ⟨frv16 k hk, rfl⟩⟩)
              · refine vx_tableIn hC (tgt := 217) (by omega) (by omega) (by rw [c18]; rfl) (by decide) eX12_by_178 ?_
                refine vx_iload hC 7 rfl eX12_by_217 ?_
                exact vx_iret hC hM rfl eX12_by_219 (⟨_, rfl, by first | (unfold sp_by; (repeat (first | rw [if_pos (by omega)] | rw [if_neg (by omega)])); done) | (unfold sp_by; (repeat (first | rw [if_pos (by omega)] | rw [if_neg (by omega)])); all_goals (rw [hall]); all_goals (first | rfl | (subst_vars; rfl))), rfl, rfl, rfl, (by (first | exact hv16_32 | (rw [hv16_32]; (try simp only [hx5, hx14, hx15, hf17]); rw [fu_fu, fu_self _ (by first | rfl | omega)]))), hv16_33, hv16_31_3, hv16_31_22, hv16_44, fun k hk => ⟨frv16 k hk, rfl⟩⟩)
              · refine vx_tableOut hC (tgt := 220) (by omega) (by omega) (by decide) eX12_by_178 ?_
                refine vx_iload hC 8 rfl eX12_by_220 ?_
                exact vx_iret hC hM rfl eX12_by_222 (⟨_, rfl, by first | (unfold sp_by; (repeat (first | rw [if_pos (by omega)] | rw [if_neg (by omega)])); done) | (unfold sp_by; (repeat (first | rw [if_pos (by omega)] | rw [if_neg (by omega)])); all_goals (rw [hall]); all_goals (first | rfl | (subst_vars; rfl))), rfl, rfl, rfl, (by (first | exact hv16_32 | (rw [hv16_32]; (try simp only [hx5, hx14, hx15, hf17]); rw [fu_fu, fu_self _ (by first | rfl | omega)]))), hv16_33, hv16_31_3, hv16_31_22, hv16_44, fun k hk => ⟨frv16 k hk, rfl⟩⟩)
            · have hso := ms_stake_r hW (p := q) (q := pu) (by omega) (by omega)
              have hwk := hwon (42 + k) (by omega) (by omega)
              refine vx_aload_n hC 0 rfl eX12_by_63 ?_
              refine vx_iload_n hC 1 rfl eX12_by_64 ?_
              refine vx_aload_n hC 0 rfl eX12_by_65 ?_
              refine vx_gr hC 1 (ot_31 hO) lf_X12_9 rfl (or_31_1 hO) eX12_by_66 ?_
              refine vx_bipush hC (by decide) eX12_by_69 ?_
              refine vx_iload hC 8 rfl eX12_by_71 ?_
              refine vx_iadd hC eX12_by_73 ?_
              refine vx_iaload hC (ot_32 hO) (by omega) (by omega) eX12_by_74 ?_
              refine vx_eqi (congrFun e1 _) ?_
              refine vx_eqi (y := vi 32 (42 + k)) (by subst_vars; rw [fu_n _ _ _ (by omega)]) ?_
              refine vx_iconst hC eX12_by_75 ?_
              refine vx_icmp_ne hC (tgt := 83) (by omega) (by decide) eX12_by_76 (fun c19 => ?_) (fun c19 => ?_)
              · refine vx_iconst hC eX12_by_83 ?_
                refine vx_callV_v hC (kX12_goes G d _ _ _ _ _ hO (fu (vi 32) (22 + q) pu) e1 (ms_W_purse hW (by omega) (by omega)) q (by rw [fu_n _ _ _ (by omega)]; omega) 0 (by omega)) ly_X12_164 (ot_31 hO) rfl rfl rfl hRm (by omega) (Nat.le_of_ble_eq_true rfl) rfl eX12_by_84 (fun ng21 tg21 ag21 bg21 cg21 hg21 => ?_)
                obtain ⟨qg21_0, rfl, rfl, rfl, rfl, frg21⟩ := hg21
                have qg21_0b : ag21 32 = ms_goes (fu (vi 32) (22 + q) pu) q 0 := by first | exact qg21_0 | rw [qg21_0, e1] | (rw [qg21_0]; exact e1)
                have hg21_33 : ag21 33 = vi 33 := (frg21 33 (by omega)).trans e2
                have hg21_31_3 : ag21 31 3 = vi 31 3 := (congrFun (frg21 31 (by omega)) _).trans e3
                have hg21_31_22 : ag21 31 22 = vi 31 22 := (congrFun (frg21 31 (by omega)) _).trans e4
                have hg21_44 : ag21 44 = vi 44 := (frg21 44 (by omega)).trans e5
                have frvig21 : ∀ k : Nat, (k < 31 ∨ 44 < k) → ag21 k = vi k := fun k hk => (frg21 k (by omega)).trans (fr2 k hk)
                have hgo : ms_goes (fu (vi 32) (22 + q) pu) q 0 = fu (vi 32) (22 + q) (pu - ms_stake (vi 32) q pu) := by
                  unfold ms_goes; rw [fu_fu, fu_s, ms_stake_fu _ _ _ (by omega) (by omega) (by omega)]; first | rw [if_pos (by omega)] | rw [if_neg (by omega)]
                refine vx_iinc hC (lv1 := [(4, xa_i (made + 1)), (0, xa_r 31), (1, xa_i q), (2, xa_i x), (3, xa_i x5), (5, xa_i top), (6, xa_i low), (7, xa_i back), (8, xa_i k)]) 4 rfl (by decide) rfl eX12_by_87 ?_
                refine vx_aload_n hC 1 rfl eX12_by_90 ?_
                refine vx_gr hC 1 (ot_31 hO) lf_X12_9 rfl (or_31_1 hO) eX12_by_91 ?_
                refine vx_bipush hC (by decide) eX12_by_94 ?_
                refine vx_iload_n hC 2 rfl eX12_by_96 ?_
                refine vx_iadd hC eX12_by_97 ?_
                refine vx_iaload hC (ot_32 hO) (by omega) (by omega) eX12_by_98 ?_
                refine vx_eqi (congrFun qg21_0b _) ?_
                refine vx_eqi (by rw [hgo, fu_s]) ?_
                refine vx_top (fun x22 hx22 => ?_)
                refine vx_istore hC (lv1 := [(9, xa_i x22), (4, xa_i (made + 1)), (0, xa_r 31), (1, xa_i q), (2, xa_i x), (3, xa_i x5), (5, xa_i top), (6, xa_i low), (7, xa_i back), (8, xa_i k)]) (by decide) rfl eX12_by_99 ?_
                have hU : x22 = (if vi 32 (42 + k) = 1 then pu + ms_stake (vi 32) q pu else pu - ms_stake (vi 32) q pu) := by rw [hx22]; first | rw [if_pos (by omega)] | rw [if_neg (by omega)]
                have hu9 : 0 ≤ x22 ∧ x22 ≤ vi 32 (18 + q) := by rw [hU]; split <;> omega
                have e32 : ag21 32 = fu (vi 32) (22 + q) x22 := by rw [qg21_0b, hgo, hx22]
                refine vx_iload hC 0 rfl eX12_by_101 ?_
                refine vx_iload hC 6 rfl eX12_by_103 ?_
                have J115_z23 : ∀ z23 : Int, ((top < x22 ∧ z23 = x22) ∨ (x22 ≤ top ∧ z23 = top)) → xv G K 10 (xk_Q G K (xp_i (fun z9 n1 t1 a1 b1 c1 => z9 = sp_by (vi 32) q x ∧ mq (vi 32) (vi 33) (vi 31 3) (vi 31 22) (vi 44) n tau vi vl vr n1 t1 a1 b1 c1)) 0 0) 0 0 n tau ag21 vl vr 115 [(9, xa_i x22), (4, xa_i (made + 1)), (0, xa_r 31), (1, xa_i q), (2, xa_i x), (3, xa_i x5), (5, xa_i top), (6, xa_i low), (7, xa_i back), (8, xa_i k)] [xa_i z23] := by
                  intro z23 hz23
                  refine vx_istore hC (lv1 := [(5, xa_i z23), (9, xa_i x22), (4, xa_i (made + 1)), (0, xa_r 31), (1, xa_i q), (2, xa_i x), (3, xa_i x5), (6, xa_i low), (7, xa_i back), (8, xa_i k)]) (by decide) rfl eX12_by_115 ?_
                  refine vx_iload hC 1 rfl eX12_by_117 ?_
                  refine vx_iload hC 7 rfl eX12_by_119 ?_
                  have J131_z24 : ∀ z24 : Int, ((x22 < low ∧ z24 = x22) ∨ (low ≤ x22 ∧ z24 = low)) → xv G K 10 (xk_Q G K (xp_i (fun z9 n1 t1 a1 b1 c1 => z9 = sp_by (vi 32) q x ∧ mq (vi 32) (vi 33) (vi 31 3) (vi 31 22) (vi 44) n tau vi vl vr n1 t1 a1 b1 c1)) 0 0) 0 0 n tau ag21 vl vr 131 [(5, xa_i z23), (9, xa_i x22), (4, xa_i (made + 1)), (0, xa_r 31), (1, xa_i q), (2, xa_i x), (3, xa_i x5), (6, xa_i low), (7, xa_i back), (8, xa_i k)] [xa_i z24] := by
                    intro z24 hz24
                    refine vx_istore hC (lv1 := [(6, xa_i z24), (5, xa_i z23), (9, xa_i x22), (4, xa_i (made + 1)), (0, xa_r 31), (1, xa_i q), (2, xa_i x), (3, xa_i x5), (7, xa_i back), (8, xa_i k)]) (by decide) rfl eX12_by_131 ?_
                    refine vx_iload hC 2 rfl eX12_by_133 ?_
                    refine vx_iload_n hC 7 rfl eX12_by_135 ?_
                    have J148_z25 : ∀ z25 : Int, ((x22 = x5 ∧ z25 = k + 1) ∨ (¬ x22 = x5 ∧ z25 = back)) → xv G K 10 (xk_Q G K (xp_i (fun z9 n1 t1 a1 b1 c1 => z9 = sp_by (vi 32) q x ∧ mq (vi 32) (vi 33) (vi 31 3) (vi 31 22) (vi 44) n tau vi vl vr n1 t1 a1 b1 c1)) 0 0) 0 0 n tau ag21 vl vr 148 [(6, xa_i z24), (5, xa_i z23), (9, xa_i x22), (4, xa_i (made + 1)), (0, xa_r 31), (1, xa_i q), (2, xa_i x), (3, xa_i x5), (7, xa_i back), (8, xa_i k)] [xa_i z25] := by
                      intro z25 hz25
                      refine vx_istore hC (lv1 := [(7, xa_i z25), (6, xa_i z24), (5, xa_i z23), (9, xa_i x22), (4, xa_i (made + 1)), (0, xa_r 31), (1, xa_i q), (2, xa_i x), (3, xa_i x5), (8, xa_i k)]) (by decide) rfl eX12_by_148 ?_
                      refine vx_iinc hC (lv1 := [(8, xa_i (k + 1)), (7, xa_i z25), (6, xa_i z24), (5, xa_i z23), (9, xa_i x22), (4, xa_i (made + 1)), (0, xa_r 31), (1, xa_i q), (2, xa_i x), (3, xa_i x5)]) 9 rfl (by decide) rfl eX12_by_150 ?_
                      refine vx_goto hC (tgt := 44) (by decide) eX12_by_153 ?_
                      refine vx_lv (lv1 := [(0, xa_r 31), (1, xa_i q), (2, xa_i x), (3, xa_i x5), (4, xa_i (made + 1)), (5, xa_i z23), (6, xa_i z24), (7, xa_i z25), (8, xa_i (k + 1))]) [6, 7, 8, 9, 5, 3, 2, 1, 0] rfl ?_
                      exact ih c1 (k + 1) x22 (made + 1) z23 z24 z25 ag21 (by omega) hu9 (by omega) (by omega) (by rw [← hres, by_run, if_neg (by omega)]; congr 1; unfold by_1; rw [← hU]; refine Prod.ext rfl (Prod.ext rfl (Prod.ext ?_ (Prod.ext ?_ ?_))) <;> dsimp only <;> split <;> omega) e32 hg21_33 hg21_31_3 hg21_31_22 hg21_44 frvig21 (by omega)
                    refine vx_icmp_ne hC (tgt := 146) (by omega) (by decide) eX12_by_136 (fun c26 => ?_) (fun c26 => ?_)
                    · refine vx_iload hC 8 rfl eX12_by_146 ?_
                      exact J148_z25 _ (by omega)
                    · refine vx_iload hC 9 rfl eX12_by_139 ?_
                      refine vx_iconst hC eX12_by_141 ?_
                      refine vx_iadd hC eX12_by_142 ?_
                      refine vx_goto hC (tgt := 148) (by decide) eX12_by_143 ?_
                      exact J148_z25 _ (by omega)
                  refine vx_icmp_ge hC (tgt := 129) (by omega) (by decide) eX12_by_121 (fun c27 => ?_) (fun c27 => ?_)
                  · refine vx_iload hC 7 rfl eX12_by_129 ?_
                    exact J131_z24 _ (by omega)
                  · refine vx_iload hC 1 rfl eX12_by_124 ?_
                    refine vx_goto hC (tgt := 131) (by decide) eX12_by_126 ?_
                    exact J131_z24 _ (by omega)
                refine vx_icmp_le hC (tgt := 113) (by omega) (by decide) eX12_by_105 (fun c28 => ?_) (fun c28 => ?_)
                · refine vx_iload hC 6 rfl eX12_by_113 ?_
                  exact J115_z23 _ (by omega)
                · refine vx_iload hC 0 rfl eX12_by_108 ?_
                  refine vx_goto hC (tgt := 115) (by decide) eX12_by_110 ?_
                  exact J115_z23 _ (by omega)
              · refine vx_iconst hC eX12_by_79 ?_
                refine vx_goto hC (tgt := 84) (by decide) eX12_by_80 ?_
                refine vx_callV_v hC (kX12_goes G d _ _ _ _ _ hO (fu (vi 32) (22 + q) pu) e1 (ms_W_purse hW (by omega) (by omega)) q (by rw [fu_n _ _ _ (by omega)]; omega) 1 (by omega)) ly_X12_164 (ot_31 hO) rfl rfl rfl hRm (by omega) (Nat.le_of_ble_eq_true rfl) rfl eX12_by_84 (fun ng30 tg30 ag30 bg30 cg30 hg30 => ?_)
                obtain ⟨qg30_0, rfl, rfl, rfl, rfl, frg30⟩ := hg30
                have qg30_0b : ag30 32 = ms_goes (fu (vi 32) (22 + q) pu) q 1 := by first | exact qg30_0 | rw [qg30_0, e1] | (rw [qg30_0]; exact e1)
                have hg30_33 : ag30 33 = vi 33 := (frg30 33 (by omega)).trans e2
                have hg30_31_3 : ag30 31 3 = vi 31 3 := (congrFun (frg30 31 (by omega)) _).trans e3
                have hg30_31_22 : ag30 31 22 = vi 31 22 := (congrFun (frg30 31 (by omega)) _).trans e4
                have hg30_44 : ag30 44 = vi 44 := (frg30 44 (by omega)).trans e5
                have frvig30 : ∀ k : Nat, (k < 31 ∨ 44 < k) → ag30 k = vi k := fun k hk => (frg30 k (by omega)).trans (fr2 k hk)
                have hgo : ms_goes (fu (vi 32) (22 + q) pu) q 1 = fu (vi 32) (22 + q) (pu + ms_stake (vi 32) q pu) := by
                  unfold ms_goes; rw [fu_fu, fu_s, ms_stake_fu _ _ _ (by omega) (by omega) (by omega)]; first | rw [if_pos (by omega)] | rw [if_neg (by omega)]
                refine vx_iinc hC (lv1 := [(4, xa_i (made + 1)), (0, xa_r 31), (1, xa_i q), (2, xa_i x), (3, xa_i x5), (5, xa_i top), (6, xa_i low), (7, xa_i back), (8, xa_i k)]) 4 rfl (by decide) rfl eX12_by_87 ?_
                refine vx_aload_n hC 1 rfl eX12_by_90 ?_
                refine vx_gr hC 1 (ot_31 hO) lf_X12_9 rfl (or_31_1 hO) eX12_by_91 ?_
                refine vx_bipush hC (by decide) eX12_by_94 ?_
                refine vx_iload_n hC 2 rfl eX12_by_96 ?_
                refine vx_iadd hC eX12_by_97 ?_
                refine vx_iaload hC (ot_32 hO) (by omega) (by omega) eX12_by_98 ?_
                refine vx_eqi (congrFun qg30_0b _) ?_
                refine vx_eqi (by rw [hgo, fu_s]) ?_
                refine vx_top (fun x31 hx31 => ?_)
                refine vx_istore hC (lv1 := [(9, xa_i x31), (4, xa_i (made + 1)), (0, xa_r 31), (1, xa_i q), (2, xa_i x), (3, xa_i x5), (5, xa_i top), (6, xa_i low), (7, xa_i back), (8, xa_i k)]) (by decide) rfl eX12_by_99 ?_
                have hU : x31 = (if vi 32 (42 + k) = 1 then pu + ms_stake (vi 32) q pu else pu - ms_stake (vi 32) q pu) := by rw [hx31]; first | rw [if_pos (by omega)] | rw [if_neg (by omega)]
                have hu9 : 0 ≤ x31 ∧ x31 ≤ vi 32 (18 + q) := by rw [hU]; split <;> omega
                have e32 : ag30 32 = fu (vi 32) (22 + q) x31 := by rw [qg30_0b, hgo, hx31]
                refine vx_iload hC 0 rfl eX12_by_101 ?_
                refine vx_iload hC 6 rfl eX12_by_103 ?_
                have J115_z32 : ∀ z32 : Int, ((top < x31 ∧ z32 = x31) ∨ (x31 ≤ top ∧ z32 = top)) → xv G K 10 (xk_Q G K (xp_i (fun z9 n1 t1 a1 b1 c1 => z9 = sp_by (vi 32) q x ∧ mq (vi 32) (vi 33) (vi 31 3) (vi 31 22) (vi 44) n tau vi vl vr n1 t1 a1 b1 c1)) 0 0) 0 0 n tau ag30 vl vr 115 [(9, xa_i x31), (4, xa_i (made + 1)), (0, xa_r 31), (1, xa_i q), (2, xa_i x), (3, xa_i x5), (5, xa_i top), (6, xa_i low), (7, xa_i back), (8, xa_i k)] [xa_i z32] := by
                  intro z32 hz32
                  refine vx_istore hC (lv1 := [(5, xa_i z32), (9, xa_i x31), (4, xa_i (made + 1)), (0, xa_r 31), (1, xa_i q), (2, xa_i x), (3, xa_i x5), (6, xa_i low), (7, xa_i back), (8, xa_i k)]) (by decide) rfl eX12_by_115 ?_
                  refine vx_iload hC 1 rfl eX12_by_117 ?_
                  refine vx_iload hC 7 rfl eX12_by_119 ?_
                  have J131_z33 : ∀ z33 : Int, ((x31 < low ∧ z33 = x31) ∨ (low ≤ x31 ∧ z33 = low)) → xv G K 10 (xk_Q G K (xp_i (fun z9 n1 t1 a1 b1 c1 => z9 = sp_by (vi 32) q x ∧ mq (vi 32) (vi 33) (vi 31 3) (vi 31 22) (vi 44) n tau vi vl vr n1 t1 a1 b1 c1)) 0 0) 0 0 n tau ag30 vl vr 131 [(5, xa_i z32), (9, xa_i x31), (4, xa_i (made + 1)), (0, xa_r 31), (1, xa_i q), (2, xa_i x), (3, xa_i x5), (6, xa_i low), (7, xa_i back), (8, xa_i k)] [xa_i z33] := by
                    intro z33 hz33
                    refine vx_istore hC (lv1 := [(6, xa_i z33), (5, xa_i z32), (9, xa_i x31), (4, xa_i (made + 1)), (0, xa_r 31), (1, xa_i q), (2, xa_i x), (3, xa_i x5), (7, xa_i back), (8, xa_i k)]) (by decide) rfl eX12_by_131 ?_
                    refine vx_iload hC 2 rfl eX12_by_133 ?_
                    refine vx_iload_n hC 7 rfl eX12_by_135 ?_
                    have J148_z34 : ∀ z34 : Int, ((x31 = x5 ∧ z34 = k + 1) ∨ (¬ x31 = x5 ∧ z34 = back)) → xv G K 10 (xk_Q G K (xp_i (fun z9 n1 t1 a1 b1 c1 => z9 = sp_by (vi 32) q x ∧ mq (vi 32) (vi 33) (vi 31 3) (vi 31 22) (vi 44) n tau vi vl vr n1 t1 a1 b1 c1)) 0 0) 0 0 n tau ag30 vl vr 148 [(6, xa_i z33), (5, xa_i z32), (9, xa_i x31), (4, xa_i (made + 1)), (0, xa_r 31), (1, xa_i q), (2, xa_i x), (3, xa_i x5), (7, xa_i back), (8, xa_i k)] [xa_i z34] := by
                      intro z34 hz34
                      refine vx_istore hC (lv1 := [(7, xa_i z34), (6, xa_i z33), (5, xa_i z32), (9, xa_i x31), (4, xa_i (made + 1)), (0, xa_r 31), (1, xa_i q), (2, xa_i x), (3, xa_i x5), (8, xa_i k)]) (by decide) rfl eX12_by_148 ?_
                      refine vx_iinc hC (lv1 := [(8, xa_i (k + 1)), (7, xa_i z34), (6, xa_i z33), (5, xa_i z32), (9, xa_i x31), (4, xa_i (made + 1)), (0, xa_r 31), (1, xa_i q), (2, xa_i x), (3, xa_i x5)]) 9 rfl (by decide) rfl eX12_by_150 ?_
                      refine vx_goto hC (tgt := 44) (by decide) eX12_by_153 ?_
                      refine vx_lv (lv1 := [(0, xa_r 31), (1, xa_i q), (2, xa_i x), (3, xa_i x5), (4, xa_i (made + 1)), (5, xa_i z32), (6, xa_i z33), (7, xa_i z34), (8, xa_i (k + 1))]) [6, 7, 8, 9, 5, 3, 2, 1, 0] rfl ?_
                      exact ih c1 (k + 1) x31 (made + 1) z32 z33 z34 ag30 (by omega) hu9 (by omega) (by omega) (by rw [← hres, by_run, if_neg (by omega)]; congr 1; unfold by_1; rw [← hU]; refine Prod.ext rfl (Prod.ext rfl (Prod.ext ?_ (Prod.ext ?_ ?_))) <;> dsimp only <;> split <;> omega) e32 hg30_33 hg30_31_3 hg30_31_22 hg30_44 frvig30 (by omega)
                    refine vx_icmp_ne hC (tgt := 146) (by omega) (by decide) eX12_by_136 (fun c35 => ?_) (fun c35 => ?_)
                    · refine vx_iload hC 8 rfl eX12_by_146 ?_
                      exact J148_z34 _ (by omega)
                    · refine vx_iload hC 9 rfl eX12_by_139 ?_
                      refine vx_iconst hC eX12_by_141 ?_
                      refine vx_iadd hC eX12_by_142 ?_
                      refine vx_goto hC (tgt := 148) (by decide) eX12_by_143 ?_
                      exact J148_z34 _ (by omega)
                  refine vx_icmp_ge hC (tgt := 129) (by omega) (by decide) eX12_by_121 (fun c36 => ?_) (fun c36 => ?_)
                  · refine vx_iload hC 7 rfl eX12_by_129 ?_
                    exact J131_z33 _ (by omega)
                  · refine vx_iload hC 1 rfl eX12_by_124 ?_
                    refine vx_goto hC (tgt := 131) (by decide) eX12_by_126 ?_
                    exact J131_z33 _ (by omega)
                refine vx_icmp_le hC (tgt := 113) (by omega) (by decide) eX12_by_105 (fun c37 => ?_) (fun c37 => ?_)
                · refine vx_iload hC 6 rfl eX12_by_113 ?_
                  exact J115_z32 _ (by omega)
                · refine vx_iload hC 0 rfl eX12_by_108 ?_
                  refine vx_goto hC (tgt := 115) (by decide) eX12_by_110 ?_
                  exact J115_z32 _ (by omega)
      refine vx_lv (lv1 := [(0, xa_r 31), (1, xa_i q), (2, xa_i x), (3, xa_i x5), (4, xa_i 0), (5, xa_i x5), (6, xa_i x5), (7, xa_i 0), (8, xa_i 0)]) [6, 7, 8, 5, 4, 3, 2, 1, 0] rfl ?_
      exact LP44 25 (vi 32 2).toNat 0 x5 0 x5 x5 0 vi (by omega) (by omega) (by omega) (by omega) (by unfold by_all; rw [hx5]) (by rw [hx5, fu_self _ rfl]) rfl rfl rfl rfl (fun _ _ => rfl) (by omega)
    · refine vx_iconst hC eX12_by_17 ?_
      exact vx_iret hC hM rfl eX12_by_18 (⟨_, rfl, by first | (unfold sp_by; (repeat (first | rw [if_pos (by omega)] | rw [if_neg (by omega)])); done) | (unfold sp_by; (repeat (first | rw [if_pos (by omega)] | rw [if_neg (by omega)])); all_goals (rw [hall]); all_goals (first | rfl | (subst_vars; rfl))), rfl, rfl, rfl, (by (first | exact rfl | (rw [rfl]; (try simp only []); rw [fu_fu, fu_self _ (by first | rfl | omega)]))), rfl, rfl, rfl, rfl, fun k hk => ⟨rfl, rfl⟩⟩)
