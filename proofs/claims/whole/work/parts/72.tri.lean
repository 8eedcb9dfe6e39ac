def t3_l (k x : Int) : List Int → (Int → Int) → Int → Int
  | [], N => N
  | d :: r, N => t3_l k x r (ad N (k + d) x)
theorem t3_l6 (N : Int → Int) (k x : Int) : t3_l k x [-12, -13, 12, -1, 13, 1] N = t3_6 N k x := rfl
theorem t3_T_in {sm z x : Int} {N : Int → Int} (h : ¬ t3_ov sm z) : t3_T sm (ad N z x) = ad (t3_T sm N) z x := by
  funext k
  unfold t3_T ad fu
  by_cases e : k = z
  · subst e; rw [if_neg h, if_pos rfl, if_pos rfl]; show N k + x = (if t3_ov sm k then 0 else N k) + x; rw [if_neg h]
  · rw [if_neg e, if_neg e]
theorem t3_T_ov {sm z x : Int} {N : Int → Int} (h : t3_ov sm z) : t3_T sm (ad N z x) = t3_T sm N := by
  funext k
  unfold t3_T ad fu
  by_cases e : k = z
  · subst e; rw [if_pos h, if_pos h]
  · rw [if_neg e]
theorem t3_o_no {sm w z x : Int} {N : Int → Int} (h : ¬ t3_is sm w z) : t3_o sm w (ad N z x) = t3_o sm w N := by
  funext k
  unfold t3_o ad fu
  by_cases e : k = z
  · subst e; rw [if_neg h, if_neg h]
  · rw [if_neg e]
theorem t3_o_is {sm w z x : Int} {N : Int → Int} (h : t3_is sm w z) : t3_o sm w (ad N z x) = ad (t3_o sm w N) z x := by
  funext k
  unfold t3_o ad fu
  by_cases e : k = z
  · subst e; rw [if_pos h, if_pos rfl, if_pos rfl]; show N k + x = (if t3_is sm w k then N k else 0) + x; rw [if_pos h]
  · rw [if_neg e, if_neg e]
/-- the three who are out, and the row of those who are not -/
def t3_R (sm : Int) (O : Int → Int) (N : Int → Int) (x o : Int → Int) : Prop := ag 169 x (t3_T sm N) ∧ ∀ w, 0 ≤ w → w < 3 → o w = O w + sq (t3_o sm w N) 0 169
theorem t3_R_in {sm z v : Int} {O N x o : Int → Int} (h : t3_R sm O N x o) (hz : ¬ t3_ov sm z) : t3_R sm O (ad N z v) (fu x z (x z + v)) o := by
  refine ⟨?_, fun w w1 w2 => ?_⟩
  · rw [t3_T_in hz]
    intro k k1 k2
    unfold ad fu
    have := h.1 k k1 k2
    by_cases e : k = z
    · rw [if_pos e, if_pos e, ← e, this]
    · rw [if_neg e, if_neg e]; exact this
  · rw [t3_o_no (fun q => hz (by unfold t3_is at q; unfold t3_ov; omega))]; exact h.2 w w1 w2
theorem t3_R_ov {sm g z v : Int} {O N x o : Int → Int} (h : t3_R sm O N x o) (hz : 0 ≤ z ∧ z < 169) (hg : t3_is sm g z) (hu : ∀ w, 0 ≤ w → w < 3 → ¬ w = g → ¬ t3_is sm w z) : t3_R sm O (ad N z v) x (fu o g (o g + v)) := by
  refine ⟨?_, fun w w1 w2 => ?_⟩
  · rw [t3_T_ov (by unfold t3_is at hg; unfold t3_ov; omega)]; exact h.1
  · by_cases e : w = g
    · rw [e, fu_s, t3_o_is hg, sq_ad 169 0 hz.1 (by omega), h.2 g (by omega) (by omega)]; omega
    · rw [fu_n _ _ _ e, t3_o_no (hu w w1 w2 e)]; exact h.2 w w1 w2
theorem t3_skip {T : Int → Int} : ∀ (d c : Nat) (k : Int) (N : Int → Int), (∀ z, k ≤ z → z < k + (d : Int) → T z = 0) → t3_in T (d + c) k N = t3_in T c (k + (d : Int)) N
  | 0, c, k, N, _ => by rw [Nat.zero_add, show k + ((0 : Nat) : Int) = k by omega]
  | d + 1, c, k, N, h => by
    rw [show d + 1 + c = (d + c) + 1 by omega, t3_in, h k (by omega) (by omega), t3_6z, t3_skip d c (k + 1) N (fun z z1 z2 => h z (by omega) (by omega)), show k + 1 + (d : Int) = k + ((d + 1 : Nat) : Int) by omega]
def tr2 (kn kx : Nat) : Prop := (kn = 22 ∧ kx = 23) ∨ (kn = 23 ∧ kx = 22)
theorem tr2_t {kn kx n : Nat} {tau : Nat → Nat × Nat} {vr : Nat → Int → Option Nat} (h : tr2 kn kx) (hO : xo n tau vr) : (kn < n ∧ tau kn = (15, 169)) ∧ (kx < n ∧ tau kx = (15, 169)) := by
  rcases h with ⟨rfl, rfl⟩ | ⟨rfl, rfl⟩
  · exact ⟨ot_22 hO, ot_23 hO⟩
  · exact ⟨ot_23 hO, ot_22 hO⟩
set_option maxHeartbeats 4000000 in
set_option maxRecDepth 100000 in
theorem kX2_giveAPenny (G : xg_T) (d : Nat) (n : Nat) (tau : Nat → Nat × Nat) (vi vl : Nat → Int → Int) (vr : Nat → Int → Option Nat) (hO : xo n tau vr) (kn kx : Nat) (hkk : tr2 kn kx) (hkn : vr 15 8 = some kn) (hkx : vr 15 9 = some kx) (a b sm : Int) (hab : 1 ≤ a ∧ 1 ≤ b ∧ a + b < sm ∧ sm ≤ 12) (T O N : Int → Int) (hT : ag 169 (vl kn) T) (hR : t3_R sm O N (vl kx) (vl 25)) : xm G yX2_giveAPenny cX2_giveAPenny 8 none (d + 1) 0 0 [xa_r 15, xa_i a, xa_i b, xa_i sm] n tau vi vl vr (xp_v (fun n1 t1 a1 b1 c1 => (t3_R sm O (t3_6 N (a * 13 + b) (T (a * 13 + b))) (b1 kx) (b1 25)) ∧ xs_F (fun k => ¬ k = 24 ∧ ¬ k = 25 ∧ ¬ k = kx) n tau vi vl vr n1 t1 a1 b1 c1)) := by
  refine xm.of (lv := [(0, xa_r 15), (1, xa_i a), (2, xa_i b), (3, xa_i sm)]) (by decide) (Nat.le_of_ble_eq_true rfl) rfl (fun K hC hM hRm => ?_)
  have htt := tr2_t hkk hO
  have hne : (kn = 22 ∧ kx = 23) ∨ (kn = 23 ∧ kx = 22) := hkk
  refine vx_aload_n hC 0 rfl eX2_giveAPenny_0 ?_
  refine vx_gr hC 8 (ot_15 hO) lf_X2_31 rfl hkn eX2_giveAPenny_1 ?_
  refine vx_iload_n hC 1 rfl eX2_giveAPenny_4 ?_
  refine vx_bipush hC (by decide) eX2_giveAPenny_5 ?_
  refine vx_imul hC eX2_giveAPenny_7 ?_
  refine vx_iload_n hC 2 rfl eX2_giveAPenny_8 ?_
  refine vx_iadd hC eX2_giveAPenny_9 ?_
  refine vx_laload hC htt.1 (by omega) (by omega) eX2_giveAPenny_10 ?_
  refine vx_eql (hT _ (by omega) (by omega)) ?_
  refine vx_topl (fun x1 hx1 => ?_)
  refine vx_lstore hC (lv1 := [(4, xa_l x1), (0, xa_r 15), (1, xa_i a), (2, xa_i b), (3, xa_i sm)]) (by decide) rfl eX2_giveAPenny_11 ?_
  refine vx_iconst hC eX2_giveAPenny_13 ?_
  refine vx_istore hC (lv1 := [(6, xa_i 0), (4, xa_l x1), (0, xa_r 15), (1, xa_i a), (2, xa_i b), (3, xa_i sm)]) (by decide) rfl eX2_giveAPenny_14 ?_
  have LP16 : ∀ (j : Nat) (ii : Int) (Nw : Int → Int) (m1 : Nat → Int → Int) (m2 : Nat → Int → Int) (hii : 0 ≤ ii ∧ ii ≤ 6) (hrest : t3_l (a * 13 + b) x1 (([-12, -13, 12, -1, 13, 1] : List Int).drop ii.toNat) Nw = t3_6 N (a * 13 + b) x1) (hR2 : t3_R sm O Nw (m2 kx) (m2 25)) (fi : ∀ k : Nat, (¬ k = 24 ∧ ¬ k = 25 ∧ ¬ k = kx) → m1 k = vi k) (fl : ∀ k : Nat, (¬ k = 24 ∧ ¬ k = 25 ∧ ¬ k = kx) → m2 k = vl k) (hj : 6 - ii < (j : Int)), xv G K 8 (xk_Q G K (xp_v (fun n1 t1 a1 b1 c1 => (t3_R sm O (t3_6 N (a * 13 + b) (T (a * 13 + b))) (b1 kx) (b1 25)) ∧ xs_F (fun k => ¬ k = 24 ∧ ¬ k = 25 ∧ ¬ k = kx) n tau vi vl vr n1 t1 a1 b1 c1)) 0 0) 0 0 n tau m1 m2 vr 16 [(6, xa_i ii), (4, xa_l x1), (0, xa_r 15), (1, xa_i a), (2, xa_i b), (3, xa_i sm)] [] := by
    intro j
    induction j with
    | zero => intro ii Nw m1 m2 hii hrest hR2 fi fl hj; exfalso; omega
    | succ j ih =>
      intro ii Nw m1 m2 hii hrest hR2 fi fl hj
      refine vx_iload hC 0 rfl eX2_giveAPenny_16 ?_
      refine vx_bipush hC (by decide) eX2_giveAPenny_18 ?_
      refine vx_icmp_ge hC (tgt := 139) (by omega) (by decide) eX2_giveAPenny_20 (fun c2 => ?_) (fun c2 => ?_)
      · exact vx_vret hC hM eX2_giveAPenny_139 (⟨rfl, (by have h9 := hrest; rw [show ii = 6 by omega, hx1] at h9; exact (show t3_6 N (a * 13 + b) (T (a * 13 + b)) = Nw from h9.symm) ▸ hR2), rfl, rfl, rfl, fun k hk => ⟨fi k hk, fl k hk⟩⟩)
      · rcases (show ii = 0 ∨ ii = 1 ∨ ii = 2 ∨ ii = 3 ∨ ii = 4 ∨ ii = 5 by omega) with rfl | rfl | rfl | rfl | rfl | rfl
        · refine vx_givers hC wd_779 eX2_giveAPenny_23 ?_
          refine vx_iload hC 0 rfl eX2_giveAPenny_26 ?_
          refine vx_giver hC (by omega) eX2_giveAPenny_28 ?_
          refine vx_eqi (y := 0) (by decide) ?_
          refine vx_istore hC (lv1 := [(7, xa_i 0), (6, xa_i 0), (4, xa_l x1), (0, xa_r 15), (1, xa_i a), (2, xa_i b), (3, xa_i sm)]) (by decide) rfl eX2_giveAPenny_29 ?_
          refine vx_aload_n hC 3 rfl eX2_giveAPenny_31 ?_
          refine vx_gr hC 10 (ot_15 hO) lf_X2_37 rfl (or_15_10 hO) eX2_giveAPenny_32 ?_
          refine vx_iconst hC eX2_giveAPenny_35 ?_
          refine vx_iload_n hC 4 rfl eX2_giveAPenny_36 ?_
          refine vx_iastore hC (ot_24 hO) (by omega) (by omega) eX2_giveAPenny_37 ?_
          refine vx_vi (fun v3 hv3 => ?_)
          obtain ⟨f4, hf4⟩ : ∃ f, f = fu (m1 24) 0 a := ⟨_, rfl⟩
          have hv3_24 : v3 24 = f4 := by rw [hv3, hf4, xu_k]
          have frv3 : ∀ k : Nat, (¬ k = 24 ∧ ¬ k = 25 ∧ ¬ k = kx) → v3 k = vi k := fun k hk => by rw [hv3, xu_c _ _ _ _ (by omega)]; exact fi k hk
          refine vx_aload_n hC 3 rfl eX2_giveAPenny_38 ?_
          refine vx_gr hC 10 (ot_15 hO) lf_X2_37 rfl (or_15_10 hO) eX2_giveAPenny_39 ?_
          refine vx_iconst hC eX2_giveAPenny_42 ?_
          refine vx_iload_n hC 5 rfl eX2_giveAPenny_43 ?_
          refine vx_iastore hC (ot_24 hO) (by omega) (by omega) eX2_giveAPenny_44 ?_
          refine vx_vi (fun v5 hv5 => ?_)
          obtain ⟨f6, hf6⟩ : ∃ f, f = fu (f4) 1 b := ⟨_, rfl⟩
          have hv5_24 : v5 24 = f6 := by rw [hv5, hf6, xu_k, hv3_24]
          have frv5 : ∀ k : Nat, (¬ k = 24 ∧ ¬ k = 25 ∧ ¬ k = kx) → v5 k = vi k := fun k hk => by rw [hv5, xu_c _ _ _ _ (by omega)]; exact frv3 k hk
          refine vx_aload_n hC 3 rfl eX2_giveAPenny_45 ?_
          refine vx_gr hC 10 (ot_15 hO) lf_X2_37 rfl (or_15_10 hO) eX2_giveAPenny_46 ?_
          refine vx_iconst hC eX2_giveAPenny_49 ?_
          refine vx_iload_n hC 6 rfl eX2_giveAPenny_50 ?_
          refine vx_iload_n hC 4 rfl eX2_giveAPenny_51 ?_
          refine vx_isub hC eX2_giveAPenny_52 ?_
          refine vx_iload_n hC 5 rfl eX2_giveAPenny_53 ?_
          refine vx_isub hC eX2_giveAPenny_54 ?_
          refine vx_top (fun x7 hx7 => ?_)
          refine vx_iastore hC (ot_24 hO) (by omega) (by omega) eX2_giveAPenny_55 ?_
          refine vx_vi (fun v8 hv8 => ?_)
          obtain ⟨f9, hf9⟩ : ∃ f, f = fu (f6) 2 x7 := ⟨_, rfl⟩
          have hv8_24 : v8 24 = f9 := by rw [hv8, hf9, xu_k, hv5_24]
          have frv8 : ∀ k : Nat, (¬ k = 24 ∧ ¬ k = 25 ∧ ¬ k = kx) → v8 k = vi k := fun k hk => by rw [hv8, xu_c _ _ _ _ (by omega)]; exact frv5 k hk
          refine vx_aload_n hC 3 rfl eX2_giveAPenny_56 ?_
          refine vx_gr hC 10 (ot_15 hO) lf_X2_37 rfl (or_15_10 hO) eX2_giveAPenny_57 ?_
          refine vx_iload hC 0 rfl eX2_giveAPenny_60 ?_
          refine vx_dup2 hC rfl rfl eX2_giveAPenny_62 ?_
          refine vx_iaload hC (ot_24 hO) (by omega) (by omega) eX2_giveAPenny_63 ?_
          refine vx_eqi (congrFun hv8_24 _) ?_
          refine vx_eqi (y := a) (by simp [hf9, hf6, hf4, fu_if] <;> omega) ?_
          refine vx_iconst hC eX2_giveAPenny_64 ?_
          refine vx_isub hC eX2_giveAPenny_65 ?_
          refine vx_top (fun x10 hx10 => ?_)
          refine vx_iastore hC (ot_24 hO) (by omega) (by omega) eX2_giveAPenny_66 ?_
          refine vx_vi (fun v11 hv11 => ?_)
          obtain ⟨f12, hf12⟩ : ∃ f, f = fu (f9) 0 x10 := ⟨_, rfl⟩
          have hv11_24 : v11 24 = f12 := by rw [hv11, hf12, xu_k, hv8_24]
          have frv11 : ∀ k : Nat, (¬ k = 24 ∧ ¬ k = 25 ∧ ¬ k = kx) → v11 k = vi k := fun k hk => by rw [hv11, xu_c _ _ _ _ (by omega)]; exact frv8 k hk
          refine vx_aload_n hC 3 rfl eX2_giveAPenny_67 ?_
          refine vx_gr hC 10 (ot_15 hO) lf_X2_37 rfl (or_15_10 hO) eX2_giveAPenny_68 ?_
          refine vx_takers hC wd_781 eX2_giveAPenny_71 ?_
          refine vx_iload hC 1 rfl eX2_giveAPenny_74 ?_
          refine vx_taker hC (by omega) eX2_giveAPenny_76 ?_
          refine vx_eqi (y := 1) (by decide) ?_
          refine vx_dup2 hC rfl rfl eX2_giveAPenny_77 ?_
          refine vx_iaload hC (ot_24 hO) (by omega) (by omega) eX2_giveAPenny_78 ?_
          refine vx_eqi (congrFun hv11_24 _) ?_
          refine vx_eqi (y := b) (by simp [hf12, hf9, hf6, hf4, fu_if] <;> omega) ?_
          refine vx_iconst hC eX2_giveAPenny_79 ?_
          refine vx_iadd hC eX2_giveAPenny_80 ?_
          refine vx_top (fun x13 hx13 => ?_)
          refine vx_iastore hC (ot_24 hO) (by omega) (by omega) eX2_giveAPenny_81 ?_
          refine vx_vi (fun v14 hv14 => ?_)
          obtain ⟨f15, hf15⟩ : ∃ f, f = fu (f12) 1 x13 := ⟨_, rfl⟩
          have hv14_24 : v14 24 = f15 := by rw [hv14, hf15, xu_k, hv11_24]
          have frv14 : ∀ k : Nat, (¬ k = 24 ∧ ¬ k = 25 ∧ ¬ k = kx) → v14 k = vi k := fun k hk => by rw [hv14, xu_c _ _ _ _ (by omega)]; exact frv11 k hk
          refine vx_aload_n hC 3 rfl eX2_giveAPenny_82 ?_
          refine vx_gr hC 10 (ot_15 hO) lf_X2_37 rfl (or_15_10 hO) eX2_giveAPenny_83 ?_
          refine vx_iload hC 0 rfl eX2_giveAPenny_86 ?_
          refine vx_iaload hC (ot_24 hO) (by omega) (by omega) eX2_giveAPenny_88 ?_
          refine vx_eqi (congrFun hv14_24 _) ?_
          refine vx_eqi (y := (a - 1)) (by simp [hf15, hf12, hf9, hf6, hf4, fu_if] <;> omega) ?_
          refine vx_if_ne hC (tgt := 107) (by omega) (by decide) eX2_giveAPenny_89 (fun c16 => ?_) (fun c16 => ?_)
          · refine vx_aload_n hC 3 rfl eX2_giveAPenny_107 ?_
            refine vx_gr hC 9 (ot_15 hO) lf_X2_34 rfl hkx eX2_giveAPenny_108 ?_
            refine vx_aload_n hC 3 rfl eX2_giveAPenny_111 ?_
            refine vx_gr hC 10 (ot_15 hO) lf_X2_37 rfl (or_15_10 hO) eX2_giveAPenny_112 ?_
            refine vx_iconst hC eX2_giveAPenny_115 ?_
            refine vx_iaload hC (ot_24 hO) (by omega) (by omega) eX2_giveAPenny_116 ?_
            refine vx_eqi (congrFun hv14_24 _) ?_
            refine vx_eqi (y := (a - 1)) (by simp [hf15, hf12, hf9, hf6, hf4, fu_if] <;> omega) ?_
            refine vx_bipush hC (by decide) eX2_giveAPenny_117 ?_
            refine vx_imul hC eX2_giveAPenny_119 ?_
            refine vx_aload_n hC 3 rfl eX2_giveAPenny_120 ?_
            refine vx_gr hC 10 (ot_15 hO) lf_X2_37 rfl (or_15_10 hO) eX2_giveAPenny_121 ?_
            refine vx_iconst hC eX2_giveAPenny_124 ?_
            refine vx_iaload hC (ot_24 hO) (by omega) (by omega) eX2_giveAPenny_125 ?_
            refine vx_eqi (congrFun hv14_24 _) ?_
            refine vx_eqi (y := (b + 1)) (by simp [hf15, hf12, hf9, hf6, hf4, fu_if] <;> omega) ?_
            refine vx_iadd hC eX2_giveAPenny_126 ?_
            refine vx_dup2 hC rfl rfl eX2_giveAPenny_127 ?_
            refine vx_laload hC htt.2 (by omega) (by omega) eX2_giveAPenny_128 ?_
            refine vx_lload hC 2 rfl eX2_giveAPenny_129 ?_
            refine vx_ladd hC eX2_giveAPenny_131 ?_
            refine vx_topl (fun x17 hx17 => ?_)
            refine vx_top2 (fun x18 hx18 => ?_)
            refine vx_lastore hC htt.2 (by omega) (by omega) eX2_giveAPenny_132 ?_
            refine vx_vl (fun v19 hv19 => ?_)
            obtain ⟨f20, hf20⟩ : ∃ f, f = fu (m2 kx) x18 x17 := ⟨_, rfl⟩
            have hv19_kx : v19 kx = f20 := by rw [hv19, hf20, xu_k]
            have hv19_25 : v19 25 = m2 25 := by rw [hv19, xu_c _ _ _ _ (by omega)]
            have frv19 : ∀ k : Nat, (¬ k = 24 ∧ ¬ k = 25 ∧ ¬ k = kx) → v19 k = vl k := fun k hk => by rw [hv19, xu_c _ _ _ _ (by omega)]; exact fl k hk
            have hHR : t3_R sm O (ad Nw ((a * 13 + b) + -12) x1) (v19 kx) (v19 25) := by rw [hv19_kx, hv19_25, hf20, show x18 = (a * 13 + b) + -12 by omega, show x17 = m2 kx ((a * 13 + b) + -12) + x1 by simp only [hx1, hx7, hx10, hx13, hx17]; congr 1; congr 1; omega]; exact t3_R_in hR2 (by unfold t3_ov; omega)
            refine vx_iinc hC (lv1 := [(6, xa_i (0 + 1)), (7, xa_i 0), (4, xa_l x1), (0, xa_r 15), (1, xa_i a), (2, xa_i b), (3, xa_i sm)]) 1 rfl (by decide) rfl eX2_giveAPenny_133 ?_
            refine vx_goto hC (tgt := 16) (by decide) eX2_giveAPenny_136 ?_
            refine vx_lv (lv1 := [(6, xa_i (0 + 1)), (4, xa_l x1), (0, xa_r 15), (1, xa_i a), (2, xa_i b), (3, xa_i sm)]) [0, 2, 3, 4, 5, 6] rfl ?_
            exact ih (0 + 1) (ad Nw ((a * 13 + b) + -12) x1) v14 v19 (by omega) hrest hHR frv14 frv19 (by omega)
          · refine vx_aload_n hC 3 rfl eX2_giveAPenny_92 ?_
            refine vx_gr hC 11 (ot_15 hO) lf_X2_40 rfl (or_15_11 hO) eX2_giveAPenny_93 ?_
            refine vx_iload hC 0 rfl eX2_giveAPenny_96 ?_
            refine vx_dup2 hC rfl rfl eX2_giveAPenny_98 ?_
            refine vx_laload hC (ot_25 hO) (by omega) (by omega) eX2_giveAPenny_99 ?_
            refine vx_lload hC 2 rfl eX2_giveAPenny_100 ?_
            refine vx_ladd hC eX2_giveAPenny_102 ?_
            refine vx_topl (fun x21 hx21 => ?_)
            refine vx_lastore hC (ot_25 hO) (by omega) (by omega) eX2_giveAPenny_103 ?_
            refine vx_vl (fun v22 hv22 => ?_)
            have hv22_kx : v22 kx = m2 kx := by rw [hv22, xu_c _ _ _ _ (by omega)]
            obtain ⟨f23, hf23⟩ : ∃ f, f = fu (m2 25) 0 x21 := ⟨_, rfl⟩
            have hv22_25 : v22 25 = f23 := by rw [hv22, hf23, xu_k]
            have frv22 : ∀ k : Nat, (¬ k = 24 ∧ ¬ k = 25 ∧ ¬ k = kx) → v22 k = vl k := fun k hk => by rw [hv22, xu_c _ _ _ _ (by omega)]; exact fl k hk
            have hHR : t3_R sm O (ad Nw ((a * 13 + b) + -12) x1) (v22 kx) (v22 25) := by rw [hv22_kx, hv22_25, hf23, show x21 = m2 25 0 + x1 by simp only [hx1, hx7, hx10, hx13, hx21]]; exact t3_R_ov hR2 (by omega) (by unfold t3_is; omega) (fun w w1 w2 w3 => by unfold t3_is; omega)
            refine vx_goto hC (tgt := 133) (by decide) eX2_giveAPenny_104 ?_
            refine vx_iinc hC (lv1 := [(6, xa_i (0 + 1)), (7, xa_i 0), (4, xa_l x1), (0, xa_r 15), (1, xa_i a), (2, xa_i b), (3, xa_i sm)]) 1 rfl (by decide) rfl eX2_giveAPenny_133 ?_
            refine vx_goto hC (tgt := 16) (by decide) eX2_giveAPenny_136 ?_
            refine vx_lv (lv1 := [(6, xa_i (0 + 1)), (4, xa_l x1), (0, xa_r 15), (1, xa_i a), (2, xa_i b), (3, xa_i sm)]) [0, 2, 3, 4, 5, 6] rfl ?_
            exact ih (0 + 1) (ad Nw ((a * 13 + b) + -12) x1) v14 v22 (by omega) hrest hHR frv14 frv22 (by omega)
        · refine vx_givers hC wd_779 eX2_giveAPenny_23 ?_
          refine vx_iload hC 0 rfl eX2_giveAPenny_26 ?_
          refine vx_giver hC (by omega) eX2_giveAPenny_28 ?_
          refine vx_eqi (y := 0) (by decide) ?_
          refine vx_istore hC (lv1 := [(7, xa_i 0), (6, xa_i 1), (4, xa_l x1), (0, xa_r 15), (1, xa_i a), (2, xa_i b), (3, xa_i sm)]) (by decide) rfl eX2_giveAPenny_29 ?_
          refine vx_aload_n hC 3 rfl eX2_giveAPenny_31 ?_
          refine vx_gr hC 10 (ot_15 hO) lf_X2_37 rfl (or_15_10 hO) eX2_giveAPenny_32 ?_
          refine vx_iconst hC eX2_giveAPenny_35 ?_
          refine vx_iload_n hC 4 rfl eX2_giveAPenny_36 ?_
          refine vx_iastore hC (ot_24 hO) (by omega) (by omega) eX2_giveAPenny_37 ?_
          refine vx_vi (fun v24 hv24 => ?_)
          obtain ⟨f25, hf25⟩ : ∃ f, f = fu (m1 24) 0 a := ⟨_, rfl⟩
          have hv24_24 : v24 24 = f25 := by rw [hv24, hf25, xu_k]
          have frv24 : ∀ k : Nat, (¬ k = 24 ∧ ¬ k = 25 ∧ ¬ k = kx) → v24 k = vi k := fun k hk => by rw [hv24, xu_c _ _ _ _ (by omega)]; exact fi k hk
          refine vx_aload_n hC 3 rfl eX2_giveAPenny_38 ?_
          refine vx_gr hC 10 (ot_15 hO) lf_X2_37 rfl (or_15_10 hO) eX2_giveAPenny_39 ?_
          refine vx_iconst hC eX2_giveAPenny_42 ?_
          refine vx_iload_n hC 5 rfl eX2_giveAPenny_43 ?_
          refine vx_iastore hC (ot_24 hO) (by omega) (by omega) eX2_giveAPenny_44 ?_
          refine vx_vi (fun v26 hv26 => ?_)
          obtain ⟨f27, hf27⟩ : ∃ f, f = fu (f25) 1 b := ⟨_, rfl⟩
          have hv26_24 : v26 24 = f27 := by rw [hv26, hf27, xu_k, hv24_24]
          have frv26 : ∀ k : Nat, (¬ k = 24 ∧ ¬ k = 25 ∧ ¬ k = kx) → v26 k = vi k := fun k hk => by rw [hv26, xu_c _ _ _ _ (by omega)]; exact frv24 k hk
          refine vx_aload_n hC 3 rfl eX2_giveAPenny_45 ?_
          refine vx_gr hC 10 (ot_15 hO) lf_X2_37 rfl (or_15_10 hO) eX2_giveAPenny_46 ?_
          refine vx_iconst hC eX2_giveAPenny_49 ?_
          refine vx_iload_n hC 6 rfl eX2_giveAPenny_50 ?_
          refine vx_iload_n hC 4 rfl eX2_giveAPenny_51 ?_
          refine vx_isub hC eX2_giveAPenny_52 ?_
          refine vx_iload_n hC 5 rfl eX2_giveAPenny_53 ?_
          refine vx_isub hC eX2_giveAPenny_54 ?_
          refine vx_top (fun x28 hx28 => ?_)
          refine vx_iastore hC (ot_24 hO) (by omega) (by omega) eX2_giveAPenny_55 ?_
          refine vx_vi (fun v29 hv29 => ?_)
          obtain ⟨f30, hf30⟩ : ∃ f, f = fu (f27) 2 x28 := ⟨_, rfl⟩
          have hv29_24 : v29 24 = f30 := by rw [hv29, hf30, xu_k, hv26_24]
          have frv29 : ∀ k : Nat, (¬ k = 24 ∧ ¬ k = 25 ∧ ¬ k = kx) → v29 k = vi k := fun k hk => by rw [hv29, xu_c _ _ _ _ (by omega)]; exact frv26 k hk
          refine vx_aload_n hC 3 rfl eX2_giveAPenny_56 ?_
          refine vx_gr hC 10 (ot_15 hO) lf_X2_37 rfl (or_15_10 hO) eX2_giveAPenny_57 ?_
          refine vx_iload hC 0 rfl eX2_giveAPenny_60 ?_
          refine vx_dup2 hC rfl rfl eX2_giveAPenny_62 ?_
          refine vx_iaload hC (ot_24 hO) (by omega) (by omega) eX2_giveAPenny_63 ?_
          refine vx_eqi (congrFun hv29_24 _) ?_
          refine vx_eqi (y := a) (by simp [hf30, hf27, hf25, fu_if] <;> omega) ?_
          refine vx_iconst hC eX2_giveAPenny_64 ?_
          refine vx_isub hC eX2_giveAPenny_65 ?_
          refine vx_top (fun x31 hx31 => ?_)
          refine vx_iastore hC (ot_24 hO) (by omega) (by omega) eX2_giveAPenny_66 ?_
          refine vx_vi (fun v32 hv32 => ?_)
          obtain ⟨f33, hf33⟩ : ∃ f, f = fu (f30) 0 x31 := ⟨_, rfl⟩
          have hv32_24 : v32 24 = f33 := by rw [hv32, hf33, xu_k, hv29_24]
          have frv32 : ∀ k : Nat, (¬ k = 24 ∧ ¬ k = 25 ∧ ¬ k = kx) → v32 k = vi k := fun k hk => by rw [hv32, xu_c _ _ _ _ (by omega)]; exact frv29 k hk
          refine vx_aload_n hC 3 rfl eX2_giveAPenny_67 ?_
          refine vx_gr hC 10 (ot_15 hO) lf_X2_37 rfl (or_15_10 hO) eX2_giveAPenny_68 ?_
          refine vx_takers hC wd_781 eX2_giveAPenny_71 ?_
          refine vx_iload hC 1 rfl eX2_giveAPenny_74 ?_
          refine vx_taker hC (by omega) eX2_giveAPenny_76 ?_
          refine vx_eqi (y := 2) (by decide) ?_
          refine vx_dup2 hC rfl rfl eX2_giveAPenny_77 ?_
          refine vx_iaload hC (ot_24 hO) (by omega) (by omega) eX2_giveAPenny_78 ?_
          refine vx_eqi (congrFun hv32_24 _) ?_
          refine vx_eqi (y := (sm - a - b)) (by simp [hf33, hf30, hf27, hf25, fu_if] <;> omega) ?_
          refine vx_iconst hC eX2_giveAPenny_79 ?_
          refine vx_iadd hC eX2_giveAPenny_80 ?_
          refine vx_top (fun x34 hx34 => ?_)
          refine vx_iastore hC (ot_24 hO) (by omega) (by omega) eX2_giveAPenny_81 ?_
          refine vx_vi (fun v35 hv35 => ?_)
          obtain ⟨f36, hf36⟩ : ∃ f, f = fu (f33) 2 x34 := ⟨_, rfl⟩
          have hv35_24 : v35 24 = f36 := by rw [hv35, hf36, xu_k, hv32_24]
          have frv35 : ∀ k : Nat, (¬ k = 24 ∧ ¬ k = 25 ∧ ¬ k = kx) → v35 k = vi k := fun k hk => by rw [hv35, xu_c _ _ _ _ (by omega)]; exact frv32 k hk
          refine vx_aload_n hC 3 rfl eX2_giveAPenny_82 ?_
          refine vx_gr hC 10 (ot_15 hO) lf_X2_37 rfl (or_15_10 hO) eX2_giveAPenny_83 ?_
          refine vx_iload hC 0 rfl eX2_giveAPenny_86 ?_
          refine vx_iaload hC (ot_24 hO) (by omega) (by omega) eX2_giveAPenny_88 ?_
          refine vx_eqi (congrFun hv35_24 _) ?_
          refine vx_eqi (y := (a - 1)) (by simp [hf36, hf33, hf30, hf27, hf25, fu_if] <;> omega) ?_
          refine vx_if_ne hC (tgt := 107) (by omega) (by decide) eX2_giveAPenny_89 (fun c37 => ?_) (fun c37 => ?_)
          · refine vx_aload_n hC 3 rfl eX2_giveAPenny_107 ?_
            refine vx_gr hC 9 (ot_15 hO) lf_X2_34 rfl hkx eX2_giveAPenny_108 ?_
            refine vx_aload_n hC 3 rfl eX2_giveAPenny_111 ?_
            refine vx_gr hC 10 (ot_15 hO) lf_X2_37 rfl (or_15_10 hO) eX2_giveAPenny_112 ?_
            refine vx_iconst hC eX2_giveAPenny_115 ?_
            refine vx_iaload hC (ot_24 hO) (by omega) (by omega) eX2_giveAPenny_116 ?_
            refine vx_eqi (congrFun hv35_24 _) ?_
            refine vx_eqi (y := (a - 1)) (by simp [hf36, hf33, hf30, hf27, hf25, fu_if] <;> omega) ?_
            refine vx_bipush hC (by decide) eX2_giveAPenny_117 ?_
            refine vx_imul hC eX2_giveAPenny_119 ?_
            refine vx_aload_n hC 3 rfl eX2_giveAPenny_120 ?_
            refine vx_gr hC 10 (ot_15 hO) lf_X2_37 rfl (or_15_10 hO) eX2_giveAPenny_121 ?_
            refine vx_iconst hC eX2_giveAPenny_124 ?_
            refine vx_iaload hC (ot_24 hO) (by omega) (by omega) eX2_giveAPenny_125 ?_
            refine vx_eqi (congrFun hv35_24 _) ?_
            refine vx_eqi (y := b) (by simp [hf36, hf33, hf30, hf27, hf25, fu_if] <;> omega) ?_
            refine vx_iadd hC eX2_giveAPenny_126 ?_
            refine vx_dup2 hC rfl rfl eX2_giveAPenny_127 ?_
            refine vx_laload hC htt.2 (by omega) (by omega) eX2_giveAPenny_128 ?_
            refine vx_lload hC 2 rfl eX2_giveAPenny_129 ?_
            refine vx_ladd hC eX2_giveAPenny_131 ?_
            refine vx_topl (fun x38 hx38 => ?_)
            refine vx_top2 (fun x39 hx39 => ?_)
            refine vx_lastore hC htt.2 (by omega) (by omega) eX2_giveAPenny_132 ?_
            refine vx_vl (fun v40 hv40 => ?_)
            obtain ⟨f41, hf41⟩ : ∃ f, f = fu (m2 kx) x39 x38 := ⟨_, rfl⟩
            have hv40_kx : v40 kx = f41 := by rw [hv40, hf41, xu_k]
            have hv40_25 : v40 25 = m2 25 := by rw [hv40, xu_c _ _ _ _ (by omega)]
            have frv40 : ∀ k : Nat, (¬ k = 24 ∧ ¬ k = 25 ∧ ¬ k = kx) → v40 k = vl k := fun k hk => by rw [hv40, xu_c _ _ _ _ (by omega)]; exact fl k hk
            have hHR : t3_R sm O (ad Nw ((a * 13 + b) + -13) x1) (v40 kx) (v40 25) := by rw [hv40_kx, hv40_25, hf41, show x39 = (a * 13 + b) + -13 by omega, show x38 = m2 kx ((a * 13 + b) + -13) + x1 by simp only [hx1, hx28, hx31, hx34, hx38]; congr 1; congr 1; omega]; exact t3_R_in hR2 (by unfold t3_ov; omega)
            refine vx_iinc hC (lv1 := [(6, xa_i (1 + 1)), (7, xa_i 0), (4, xa_l x1), (0, xa_r 15), (1, xa_i a), (2, xa_i b), (3, xa_i sm)]) 1 rfl (by decide) rfl eX2_giveAPenny_133 ?_
            refine vx_goto hC (tgt := 16) (by decide) eX2_giveAPenny_136 ?_
            refine vx_lv (lv1 := [(6, xa_i (1 + 1)), (4, xa_l x1), (0, xa_r 15), (1, xa_i a), (2, xa_i b), (3, xa_i sm)]) [0, 2, 3, 4, 5, 6] rfl ?_
            exact ih (1 + 1) (ad Nw ((a * 13 + b) + -13) x1) v35 v40 (by omega) hrest hHR frv35 frv40 (by omega)
          · refine vx_aload_n hC 3 rfl eX2_giveAPenny_92 ?_
            refine vx_gr hC 11 (ot_15 hO) lf_X2_40 rfl (or_15_11 hO) eX2_giveAPenny_93 ?_
            refine vx_iload hC 0 rfl eX2_giveAPenny_96 ?_
            refine vx_dup2 hC rfl rfl eX2_giveAPenny_98 ?_
            refine vx_laload hC (ot_25 hO) (by omega) (by omega) eX2_giveAPenny_99 ?_
            refine vx_lload hC 2 rfl eX2_giveAPenny_100 ?_
            refine vx_ladd hC eX2_giveAPenny_102 ?_
            refine vx_topl (fun x42 hx42 => ?_)
            refine vx_lastore hC (ot_25 hO) (by omega) (by omega) eX2_giveAPenny_103 ?_
            refine vx_vl (fun v43 hv43 => ?_)
            have hv43_kx : v43 kx = m2 kx := by rw [hv43, xu_c _ _ _ _ (by omega)]
            obtain ⟨f44, hf44⟩ : ∃ f, f = fu (m2 25) 0 x42 := ⟨_, rfl⟩
            have hv43_25 : v43 25 = f44 := by rw [hv43, hf44, xu_k]
            have frv43 : ∀ k : Nat, (¬ k = 24 ∧ ¬ k = 25 ∧ ¬ k = kx) → v43 k = vl k := fun k hk => by rw [hv43, xu_c _ _ _ _ (by omega)]; exact fl k hk
            have hHR : t3_R sm O (ad Nw ((a * 13 + b) + -13) x1) (v43 kx) (v43 25) := by rw [hv43_kx, hv43_25, hf44, show x42 = m2 25 0 + x1 by simp only [hx1, hx28, hx31, hx34, hx42]]; exact t3_R_ov hR2 (by omega) (by unfold t3_is; omega) (fun w w1 w2 w3 => by unfold t3_is; omega)
            refine vx_goto hC (tgt := 133) (by decide) eX2_giveAPenny_104 ?_
            refine vx_iinc hC (lv1 := [(6, xa_i (1 + 1)), (7, xa_i 0), (4, xa_l x1), (0, xa_r 15), (1, xa_i a), (2, xa_i b), (3, xa_i sm)]) 1 rfl (by decide) rfl eX2_giveAPenny_133 ?_
            refine vx_goto hC (tgt := 16) (by decide) eX2_giveAPenny_136 ?_
            refine vx_lv (lv1 := [(6, xa_i (1 + 1)), (4, xa_l x1), (0, xa_r 15), (1, xa_i a), (2, xa_i b), (3, xa_i sm)]) [0, 2, 3, 4, 5, 6] rfl ?_
            exact ih (1 + 1) (ad Nw ((a * 13 + b) + -13) x1) v35 v43 (by omega) hrest hHR frv35 frv43 (by omega)
        · refine vx_givers hC wd_779 eX2_giveAPenny_23 ?_
          refine vx_iload hC 0 rfl eX2_giveAPenny_26 ?_
          refine vx_giver hC (by omega) eX2_giveAPenny_28 ?_
          refine vx_eqi (y := 1) (by decide) ?_
          refine vx_istore hC (lv1 := [(7, xa_i 1), (6, xa_i 2), (4, xa_l x1), (0, xa_r 15), (1, xa_i a), (2, xa_i b), (3, xa_i sm)]) (by decide) rfl eX2_giveAPenny_29 ?_
          refine vx_aload_n hC 3 rfl eX2_giveAPenny_31 ?_
          refine vx_gr hC 10 (ot_15 hO) lf_X2_37 rfl (or_15_10 hO) eX2_giveAPenny_32 ?_
          refine vx_iconst hC eX2_giveAPenny_35 ?_
          refine vx_iload_n hC 4 rfl eX2_giveAPenny_36 ?_
          refine vx_iastore hC (ot_24 hO) (by omega) (by omega) eX2_giveAPenny_37 ?_
          refine vx_vi (fun v45 hv45 => ?_)
          obtain ⟨f46, hf46⟩ : ∃ f, f = fu (m1 24) 0 a := ⟨_, rfl⟩
          have hv45_24 : v45 24 = f46 := by rw [hv45, hf46, xu_k]
          have frv45 : ∀ k : Nat, (¬ k = 24 ∧ ¬ k = 25 ∧ ¬ k = kx) → v45 k = vi k := fun k hk => by rw [hv45, xu_c _ _ _ _ (by omega)]; exact fi k hk
          refine vx_aload_n hC 3 rfl eX2_giveAPenny_38 ?_
          refine vx_gr hC 10 (ot_15 hO) lf_X2_37 rfl (or_15_10 hO) eX2_giveAPenny_39 ?_
          refine vx_iconst hC eX2_giveAPenny_42 ?_
          refine vx_iload_n hC 5 rfl eX2_giveAPenny_43 ?_
          refine vx_iastore hC (ot_24 hO) (by omega) (by omega) eX2_giveAPenny_44 ?_
          refine vx_vi (fun v47 hv47 => ?_)
          obtain ⟨f48, hf48⟩ : ∃ f, f = fu (f46) 1 b := ⟨_, rfl⟩
          have hv47_24 : v47 24 = f48 := by rw [hv47, hf48, xu_k, hv45_24]
          have frv47 : ∀ k : Nat, (¬ k = 24 ∧ ¬ k = 25 ∧ ¬ k = kx) → v47 k = vi k := fun k hk => by rw [hv47, xu_c _ _ _ _ (by omega)]; exact frv45 k hk
          refine vx_aload_n hC 3 rfl eX2_giveAPenny_45 ?_
          refine vx_gr hC 10 (ot_15 hO) lf_X2_37 rfl (or_15_10 hO) eX2_giveAPenny_46 ?_
          refine vx_iconst hC eX2_giveAPenny_49 ?_
          refine vx_iload_n hC 6 rfl eX2_giveAPenny_50 ?_
          refine vx_iload_n hC 4 rfl eX2_giveAPenny_51 ?_
          refine vx_isub hC eX2_giveAPenny_52 ?_
          refine vx_iload_n hC 5 rfl eX2_giveAPenny_53 ?_
          refine vx_isub hC eX2_giveAPenny_54 ?_
          refine vx_top (fun x49 hx49 => ?_)
          refine vx_iastore hC (ot_24 hO) (by omega) (by omega) eX2_giveAPenny_55 ?_
          refine vx_vi (fun v50 hv50 => ?_)
          obtain ⟨f51, hf51⟩ : ∃ f, f = fu (f48) 2 x49 := ⟨_, rfl⟩
          have hv50_24 : v50 24 = f51 := by rw [hv50, hf51, xu_k, hv47_24]
          have frv50 : ∀ k : Nat, (¬ k = 24 ∧ ¬ k = 25 ∧ ¬ k = kx) → v50 k = vi k := fun k hk => by rw [hv50, xu_c _ _ _ _ (by omega)]; exact frv47 k hk
          refine vx_aload_n hC 3 rfl eX2_giveAPenny_56 ?_
          refine vx_gr hC 10 (ot_15 hO) lf_X2_37 rfl (or_15_10 hO) eX2_giveAPenny_57 ?_
          refine vx_iload hC 0 rfl eX2_giveAPenny_60 ?_
          refine vx_dup2 hC rfl rfl eX2_giveAPenny_62 ?_
          refine vx_iaload hC (ot_24 hO) (by omega) (by omega) eX2_giveAPenny_63 ?_
          refine vx_eqi (congrFun hv50_24 _) ?_
          refine vx_eqi (y := b) (by simp [hf51, hf48, hf46, fu_if] <;> omega) ?_
          refine vx_iconst hC eX2_giveAPenny_64 ?_
          refine vx_isub hC eX2_giveAPenny_65 ?_
          refine vx_top (fun x52 hx52 => ?_)
          refine vx_iastore hC (ot_24 hO) (by omega) (by omega) eX2_giveAPenny_66 ?_
          refine vx_vi (fun v53 hv53 => ?_)
          obtain ⟨f54, hf54⟩ : ∃ f, f = fu (f51) 1 x52 := ⟨_, rfl⟩
          have hv53_24 : v53 24 = f54 := by rw [hv53, hf54, xu_k, hv50_24]
          have frv53 : ∀ k : Nat, (¬ k = 24 ∧ ¬ k = 25 ∧ ¬ k = kx) → v53 k = vi k := fun k hk => by rw [hv53, xu_c _ _ _ _ (by omega)]; exact frv50 k hk
          refine vx_aload_n hC 3 rfl eX2_giveAPenny_67 ?_
          refine vx_gr hC 10 (ot_15 hO) lf_X2_37 rfl (or_15_10 hO) eX2_giveAPenny_68 ?_
          refine vx_takers hC wd_781 eX2_giveAPenny_71 ?_
          refine vx_iload hC 1 rfl eX2_giveAPenny_74 ?_
          refine vx_taker hC (by omega) eX2_giveAPenny_76 ?_
          refine vx_eqi (y := 0) (by decide) ?_
          refine vx_dup2 hC rfl rfl eX2_giveAPenny_77 ?_
          refine vx_iaload hC (ot_24 hO) (by omega) (by omega) eX2_giveAPenny_78 ?_
          refine vx_eqi (congrFun hv53_24 _) ?_
          refine vx_eqi (y := a) (by simp [hf54, hf51, hf48, hf46, fu_if] <;> omega) ?_
          refine vx_iconst hC eX2_giveAPenny_79 ?_
          refine vx_iadd hC eX2_giveAPenny_80 ?_
          refine vx_top (fun x55 hx55 => ?_)
          refine vx_iastore hC (ot_24 hO) (by omega) (by omega) eX2_giveAPenny_81 ?_
          refine vx_vi (fun v56 hv56 => ?_)
          obtain ⟨f57, hf57⟩ : ∃ f, f = fu (f54) 0 x55 := ⟨_, rfl⟩
          have hv56_24 : v56 24 = f57 := by rw [hv56, hf57, xu_k, hv53_24]
          have frv56 : ∀ k : Nat, (¬ k = 24 ∧ ¬ k = 25 ∧ ¬ k = kx) → v56 k = vi k := fun k hk => by rw [hv56, xu_c _ _ _ _ (by omega)]; exact frv53 k hk
          refine vx_aload_n hC 3 rfl eX2_giveAPenny_82 ?_
          refine vx_gr hC 10 (ot_15 hO) lf_X2_37 rfl (or_15_10 hO) eX2_giveAPenny_83 ?_
          refine vx_iload hC 0 rfl eX2_giveAPenny_86 ?_
          refine vx_iaload hC (ot_24 hO) (by omega) (by omega) eX2_giveAPenny_88 ?_
          refine vx_eqi (congrFun hv56_24 _) ?_
          refine vx_eqi (y := (b - 1)) (by simp [hf57, hf54, hf51, hf48, hf46, fu_if] <;> omega) ?_
          refine vx_if_ne hC (tgt := 107) (by omega) (by decide) eX2_giveAPenny_89 (fun c58 => ?_) (fun c58 => ?_)
          · refine vx_aload_n hC 3 rfl eX2_giveAPenny_107 ?_
            refine vx_gr hC 9 (ot_15 hO) lf_X2_34 rfl hkx eX2_giveAPenny_108 ?_
            refine vx_aload_n hC 3 rfl eX2_giveAPenny_111 ?_
            refine vx_gr hC 10 (ot_15 hO) lf_X2_37 rfl (or_15_10 hO) eX2_giveAPenny_112 ?_
            refine vx_iconst hC eX2_giveAPenny_115 ?_
            refine vx_iaload hC (ot_24 hO) (by omega) (by omega) eX2_giveAPenny_116 ?_
            refine vx_eqi (congrFun hv56_24 _) ?_
            refine vx_eqi (y := (a + 1)) (by simp [hf57, hf54, hf51, hf48, hf46, fu_if] <;> omega) ?_
            refine vx_bipush hC (by decide) eX2_giveAPenny_117 ?_
            refine vx_imul hC eX2_giveAPenny_119 ?_
            refine vx_aload_n hC 3 rfl eX2_giveAPenny_120 ?_
            refine vx_gr hC 10 (ot_15 hO) lf_X2_37 rfl (or_15_10 hO) eX2_giveAPenny_121 ?_
            refine vx_iconst hC eX2_giveAPenny_124 ?_
            refine vx_iaload hC (ot_24 hO) (by omega) (by omega) eX2_giveAPenny_125 ?_
            refine vx_eqi (congrFun hv56_24 _) ?_
            refine vx_eqi (y := (b - 1)) (by simp [hf57, hf54, hf51, hf48, hf46, fu_if] <;> omega) ?_
            refine vx_iadd hC eX2_giveAPenny_126 ?_
            refine vx_dup2 hC rfl rfl eX2_giveAPenny_127 ?_
            refine vx_laload hC htt.2 (by omega) (by omega) eX2_giveAPenny_128 ?_
            refine vx_lload hC 2 rfl eX2_giveAPenny_129 ?_
            refine vx_ladd hC eX2_giveAPenny_131 ?_
            refine vx_topl (fun x59 hx59 => ?_)
            refine vx_top2 (fun x60 hx60 => ?_)
            refine vx_lastore hC htt.2 (by omega) (by omega) eX2_giveAPenny_132 ?_
            refine vx_vl (fun v61 hv61 => ?_)
            obtain ⟨f62, hf62⟩ : ∃ f, f = fu (m2 kx) x60 x59 := ⟨_, rfl⟩
            have hv61_kx : v61 kx = f62 := by rw [hv61, hf62, xu_k]
            have hv61_25 : v61 25 = m2 25 := by rw [hv61, xu_c _ _ _ _ (by omega)]
            have frv61 : ∀ k : Nat, (¬ k = 24 ∧ ¬ k = 25 ∧ ¬ k = kx) → v61 k = vl k := fun k hk => by rw [hv61, xu_c _ _ _ _ (by omega)]; exact fl k hk
            have hHR : t3_R sm O (ad Nw ((a * 13 + b) + 12) x1) (v61 kx) (v61 25) := by rw [hv61_kx, hv61_25, hf62, show x60 = (a * 13 + b) + 12 by omega, show x59 = m2 kx ((a * 13 + b) + 12) + x1 by simp only [hx1, hx49, hx52, hx55, hx59]; congr 1; congr 1; omega]; exact t3_R_in hR2 (by unfold t3_ov; omega)
            refine vx_iinc hC (lv1 := [(6, xa_i (2 + 1)), (7, xa_i 1), (4, xa_l x1), (0, xa_r 15), (1, xa_i a), (2, xa_i b), (3, xa_i sm)]) 1 rfl (by decide) rfl eX2_giveAPenny_133 ?_
            refine vx_goto hC (tgt := 16) (by decide) eX2_giveAPenny_136 ?_
            refine vx_lv (lv1 := [(6, xa_i (2 + 1)), (4, xa_l x1), (0, xa_r 15), (1, xa_i a), (2, xa_i b), (3, xa_i sm)]) [0, 2, 3, 4, 5, 6] rfl ?_
            exact ih (2 + 1) (ad Nw ((a * 13 + b) + 12) x1) v56 v61 (by omega) hrest hHR frv56 frv61 (by omega)
          · refine vx_aload_n hC 3 rfl eX2_giveAPenny_92 ?_
            refine vx_gr hC 11 (ot_15 hO) lf_X2_40 rfl (or_15_11 hO) eX2_giveAPenny_93 ?_
            refine vx_iload hC 0 rfl eX2_giveAPenny_96 ?_
            refine vx_dup2 hC rfl rfl eX2_giveAPenny_98 ?_
            refine vx_laload hC (ot_25 hO) (by omega) (by omega) eX2_giveAPenny_99 ?_
            refine vx_lload hC 2 rfl eX2_giveAPenny_100 ?_
            refine vx_ladd hC eX2_giveAPenny_102 ?_
            refine vx_topl (fun x63 hx63 => ?_)
            refine vx_lastore hC (ot_25 hO) (by omega) (by omega) eX2_giveAPenny_103 ?_
            refine vx_vl (fun v64 hv64 => ?_)
            have hv64_kx : v64 kx = m2 kx := by rw [hv64, xu_c _ _ _ _ (by omega)]
            obtain ⟨f65, hf65⟩ : ∃ f, f = fu (m2 25) 1 x63 := ⟨_, rfl⟩
            have hv64_25 : v64 25 = f65 := by rw [hv64, hf65, xu_k]
            have frv64 : ∀ k : Nat, (¬ k = 24 ∧ ¬ k = 25 ∧ ¬ k = kx) → v64 k = vl k := fun k hk => by rw [hv64, xu_c _ _ _ _ (by omega)]; exact fl k hk
            have hHR : t3_R sm O (ad Nw ((a * 13 + b) + 12) x1) (v64 kx) (v64 25) := by rw [hv64_kx, hv64_25, hf65, show x63 = m2 25 1 + x1 by simp only [hx1, hx49, hx52, hx55, hx63]]; exact t3_R_ov hR2 (by omega) (by unfold t3_is; omega) (fun w w1 w2 w3 => by unfold t3_is; omega)
            refine vx_goto hC (tgt := 133) (by decide) eX2_giveAPenny_104 ?_
            refine vx_iinc hC (lv1 := [(6, xa_i (2 + 1)), (7, xa_i 1), (4, xa_l x1), (0, xa_r 15), (1, xa_i a), (2, xa_i b), (3, xa_i sm)]) 1 rfl (by decide) rfl eX2_giveAPenny_133 ?_
            refine vx_goto hC (tgt := 16) (by decide) eX2_giveAPenny_136 ?_
            refine vx_lv (lv1 := [(6, xa_i (2 + 1)), (4, xa_l x1), (0, xa_r 15), (1, xa_i a), (2, xa_i b), (3, xa_i sm)]) [0, 2, 3, 4, 5, 6] rfl ?_
            exact ih (2 + 1) (ad Nw ((a * 13 + b) + 12) x1) v56 v64 (by omega) hrest hHR frv56 frv64 (by omega)
        · refine vx_givers hC wd_779 eX2_giveAPenny_23 ?_
          refine vx_iload hC 0 rfl eX2_giveAPenny_26 ?_
          refine vx_giver hC (by omega) eX2_giveAPenny_28 ?_
          refine vx_eqi (y := 1) (by decide) ?_
          refine vx_istore hC (lv1 := [(7, xa_i 1), (6, xa_i 3), (4, xa_l x1), (0, xa_r 15), (1, xa_i a), (2, xa_i b), (3, xa_i sm)]) (by decide) rfl eX2_giveAPenny_29 ?_
          refine vx_aload_n hC 3 rfl eX2_giveAPenny_31 ?_
          refine vx_gr hC 10 (ot_15 hO) lf_X2_37 rfl (or_15_10 hO) eX2_giveAPenny_32 ?_
          refine vx_iconst hC eX2_giveAPenny_35 ?_
          refine vx_iload_n hC 4 rfl eX2_giveAPenny_36 ?_
          refine vx_iastore hC (ot_24 hO) (by omega) (by omega) eX2_giveAPenny_37 ?_
          refine vx_vi (fun v66 hv66 => ?_)
          obtain ⟨f67, hf67⟩ : ∃ f, f = fu (m1 24) 0 a := ⟨_, rfl⟩
          have hv66_24 : v66 24 = f67 := by rw [hv66, hf67, xu_k]
          have frv66 : ∀ k : Nat, (¬ k = 24 ∧ ¬ k = 25 ∧ ¬ k = kx) → v66 k = vi k := fun k hk => by rw [hv66, xu_c _ _ _ _ (by omega)]; exact fi k hk
          refine vx_aload_n hC 3 rfl eX2_giveAPenny_38 ?_
          refine vx_gr hC 10 (ot_15 hO) lf_X2_37 rfl (or_15_10 hO) eX2_giveAPenny_39 ?_
          refine vx_iconst hC eX2_giveAPenny_42 ?_
          refine vx_iload_n hC 5 rfl eX2_giveAPenny_43 ?_
          refine vx_iastore hC (ot_24 hO) (by omega) (by omega) eX2_giveAPenny_44 ?_
          refine vx_vi (fun v68 hv68 => ?_)
          obtain ⟨f69, hf69⟩ : ∃ f, f = fu (f67) 1 b := ⟨_, rfl⟩
          have hv68_24 : v68 24 = f69 := by rw [hv68, hf69, xu_k, hv66_24]
          have frv68 : ∀ k : Nat, (¬ k = 24 ∧ ¬ k = 25 ∧ ¬ k = kx) → v68 k = vi k := fun k hk => by rw [hv68, xu_c _ _ _ _ (by omega)]; exact frv66 k hk
          refine vx_aload_n hC 3 rfl eX2_giveAPenny_45 ?_
          refine vx_gr hC 10 (ot_15 hO) lf_X2_37 rfl (or_15_10 hO) eX2_giveAPenny_46 ?_
          refine vx_iconst hC eX2_giveAPenny_49 ?_
          refine vx_iload_n hC 6 rfl eX2_giveAPenny_50 ?_
          refine vx_iload_n hC 4 rfl eX2_giveAPenny_51 ?_
          refine vx_isub hC eX2_giveAPenny_52 ?_
          refine vx_iload_n hC 5 rfl eX2_giveAPenny_53 ?_
          refine vx_isub hC eX2_giveAPenny_54 ?_
          refine vx_top (fun x70 hx70 => ?_)
          refine vx_iastore hC (ot_24 hO) (by omega) (by omega) eX2_giveAPenny_55 ?_
          refine vx_vi (fun v71 hv71 => ?_)
          obtain ⟨f72, hf72⟩ : ∃ f, f = fu (f69) 2 x70 := ⟨_, rfl⟩
          have hv71_24 : v71 24 = f72 := by rw [hv71, hf72, xu_k, hv68_24]
          have frv71 : ∀ k : Nat, (¬ k = 24 ∧ ¬ k = 25 ∧ ¬ k = kx) → v71 k = vi k := fun k hk => by rw [hv71, xu_c _ _ _ _ (by omega)]; exact frv68 k hk
          refine vx_aload_n hC 3 rfl eX2_giveAPenny_56 ?_
          refine vx_gr hC 10 (ot_15 hO) lf_X2_37 rfl (or_15_10 hO) eX2_giveAPenny_57 ?_
          refine vx_iload hC 0 rfl eX2_giveAPenny_60 ?_
          refine vx_dup2 hC rfl rfl eX2_giveAPenny_62 ?_
          refine vx_iaload hC (ot_24 hO) (by omega) (by omega) eX2_giveAPenny_63 ?_
          refine vx_eqi (congrFun hv71_24 _) ?_
          refine vx_eqi (y := b) (by simp [hf72, hf69, hf67, fu_if] <;> omega) ?_
          refine vx_iconst hC eX2_giveAPenny_64 ?_
          refine vx_isub hC eX2_giveAPenny_65 ?_
          refine vx_top (fun x73 hx73 => ?_)
          refine vx_iastore hC (ot_24 hO) (by omega) (by omega) eX2_giveAPenny_66 ?_
          refine vx_vi (fun v74 hv74 => ?_)
          obtain ⟨f75, hf75⟩ : ∃ f, f = fu (f72) 1 x73 := ⟨_, rfl⟩
          have hv74_24 : v74 24 = f75 := by rw [hv74, hf75, xu_k, hv71_24]
          have frv74 : ∀ k : Nat, (¬ k = 24 ∧ ¬ k = 25 ∧ ¬ k = kx) → v74 k = vi k := fun k hk => by rw [hv74, xu_c _ _ _ _ (by omega)]; exact frv71 k hk
          refine vx_aload_n hC 3 rfl eX2_giveAPenny_67 ?_
          refine vx_gr hC 10 (ot_15 hO) lf_X2_37 rfl (or_15_10 hO) eX2_giveAPenny_68 ?_
          refine vx_takers hC wd_781 eX2_giveAPenny_71 ?_
          refine vx_iload hC 1 rfl eX2_giveAPenny_74 ?_
          refine vx_taker hC (by omega) eX2_giveAPenny_76 ?_
          refine vx_eqi (y := 2) (by decide) ?_
          refine vx_dup2 hC rfl rfl eX2_giveAPenny_77 ?_
          refine vx_iaload hC (ot_24 hO) (by omega) (by omega) eX2_giveAPenny_78 ?_
          refine vx_eqi (congrFun hv74_24 _) ?_
          refine vx_eqi (y := (sm - a - b)) (by simp [hf75, hf72, hf69, hf67, fu_if] <;> omega) ?_
          refine vx_iconst hC eX2_giveAPenny_79 ?_
          refine vx_iadd hC eX2_giveAPenny_80 ?_
          refine vx_top (fun x76 hx76 => ?_)
          refine vx_iastore hC (ot_24 hO) (by omega) (by omega) eX2_giveAPenny_81 ?_
          refine vx_vi (fun v77 hv77 => ?_)
          obtain ⟨f78, hf78⟩ : ∃ f, f = fu (f75) 2 x76 := ⟨_, rfl⟩
          have hv77_24 : v77 24 = f78 := by rw [hv77, hf78, xu_k, hv74_24]
          have frv77 : ∀ k : Nat, (¬ k = 24 ∧ ¬ k = 25 ∧ ¬ k = kx) → v77 k = vi k := fun k hk => by rw [hv77, xu_c _ _ _ _ (by omega)]; exact frv74 k hk
          refine vx_aload_n hC 3 rfl eX2_giveAPenny_82 ?_
          refine vx_gr hC 10 (ot_15 hO) lf_X2_37 rfl (or_15_10 hO) eX2_giveAPenny_83 ?_
          refine vx_iload hC 0 rfl eX2_giveAPenny_86 ?_
          refine vx_iaload hC (ot_24 hO) (by omega) (by omega) eX2_giveAPenny_88 ?_
          refine vx_eqi (congrFun hv77_24 _) ?_
          refine vx_eqi (y := (b - 1)) (by simp [hf78, hf75, hf72, hf69, hf67, fu_if] <;> omega) ?_
          refine vx_if_ne hC (tgt := 107) (by omega) (by decide) eX2_giveAPenny_89 (fun c79 => ?_) (fun c79 => ?_)
          · refine vx_aload_n hC 3 rfl eX2_giveAPenny_107 ?_
            refine vx_gr hC 9 (ot_15 hO) lf_X2_34 rfl hkx eX2_giveAPenny_108 ?_
            refine vx_aload_n hC 3 rfl eX2_giveAPenny_111 ?_
            refine vx_gr hC 10 (ot_15 hO) lf_X2_37 rfl (or_15_10 hO) eX2_giveAPenny_112 ?_
            refine vx_iconst hC eX2_giveAPenny_115 ?_
            refine vx_iaload hC (ot_24 hO) (by omega) (by omega) eX2_giveAPenny_116 ?_
            refine vx_eqi (congrFun hv77_24 _) ?_
            refine vx_eqi (y := a) (by simp [hf78, hf75, hf72, hf69, hf67, fu_if] <;> omega) ?_
            refine vx_bipush hC (by decide) eX2_giveAPenny_117 ?_
            refine vx_imul hC eX2_giveAPenny_119 ?_
            refine vx_aload_n hC 3 rfl eX2_giveAPenny_120 ?_
            refine vx_gr hC 10 (ot_15 hO) lf_X2_37 rfl (or_15_10 hO) eX2_giveAPenny_121 ?_
            refine vx_iconst hC eX2_giveAPenny_124 ?_
            refine vx_iaload hC (ot_24 hO) (by omega) (by omega) eX2_giveAPenny_125 ?_
            refine vx_eqi (congrFun hv77_24 _) ?_
            refine vx_eqi (y := (b - 1)) (by simp [hf78, hf75, hf72, hf69, hf67, fu_if] <;> omega) ?_
            refine vx_iadd hC eX2_giveAPenny_126 ?_
            refine vx_dup2 hC rfl rfl eX2_giveAPenny_127 ?_
            refine vx_laload hC htt.2 (by omega) (by omega) eX2_giveAPenny_128 ?_
            refine vx_lload hC 2 rfl eX2_giveAPenny_129 ?_
            refine vx_ladd hC eX2_giveAPenny_131 ?_
            refine vx_topl (fun x80 hx80 => ?_)
            refine vx_top2 (fun x81 hx81 => ?_)
            refine vx_lastore hC htt.2 (by omega) (by omega) eX2_giveAPenny_132 ?_
            refine vx_vl (fun v82 hv82 => ?_)
            obtain ⟨f83, hf83⟩ : ∃ f, f = fu (m2 kx) x81 x80 := ⟨_, rfl⟩
            have hv82_kx : v82 kx = f83 := by rw [hv82, hf83, xu_k]
            have hv82_25 : v82 25 = m2 25 := by rw [hv82, xu_c _ _ _ _ (by omega)]
            have frv82 : ∀ k : Nat, (¬ k = 24 ∧ ¬ k = 25 ∧ ¬ k = kx) → v82 k = vl k := fun k hk => by rw [hv82, xu_c _ _ _ _ (by omega)]; exact fl k hk
            have hHR : t3_R sm O (ad Nw ((a * 13 + b) + -1) x1) (v82 kx) (v82 25) := by rw [hv82_kx, hv82_25, hf83, show x81 = (a * 13 + b) + -1 by omega, show x80 = m2 kx ((a * 13 + b) + -1) + x1 by simp only [hx1, hx70, hx73, hx76, hx80]; congr 1; congr 1; omega]; exact t3_R_in hR2 (by unfold t3_ov; omega)
            refine vx_iinc hC (lv1 := [(6, xa_i (3 + 1)), (7, xa_i 1), (4, xa_l x1), (0, xa_r 15), (1, xa_i a), (2, xa_i b), (3, xa_i sm)]) 1 rfl (by decide) rfl eX2_giveAPenny_133 ?_
            refine vx_goto hC (tgt := 16) (by decide) eX2_giveAPenny_136 ?_
            refine vx_lv (lv1 := [(6, xa_i (3 + 1)), (4, xa_l x1), (0, xa_r 15), (1, xa_i a), (2, xa_i b), (3, xa_i sm)]) [0, 2, 3, 4, 5, 6] rfl ?_
            exact ih (3 + 1) (ad Nw ((a * 13 + b) + -1) x1) v77 v82 (by omega) hrest hHR frv77 frv82 (by omega)
          · refine vx_aload_n hC 3 rfl eX2_giveAPenny_92 ?_
            refine vx_gr hC 11 (ot_15 hO) lf_X2_40 rfl (or_15_11 hO) eX2_giveAPenny_93 ?_
            refine vx_iload hC 0 rfl eX2_giveAPenny_96 ?_
            refine vx_dup2 hC rfl rfl eX2_giveAPenny_98 ?_
            refine vx_laload hC (ot_25 hO) (by omega) (by omega) eX2_giveAPenny_99 ?_
            refine vx_lload hC 2 rfl eX2_giveAPenny_100 ?_
            refine vx_ladd hC eX2_giveAPenny_102 ?_
            refine vx_topl (fun x84 hx84 => ?_)
            refine vx_lastore hC (ot_25 hO) (by omega) (by omega) eX2_giveAPenny_103 ?_
            refine vx_vl (fun v85 hv85 => ?_)
            have hv85_kx : v85 kx = m2 kx := by rw [hv85, xu_c _ _ _ _ (by omega)]
            obtain ⟨f86, hf86⟩ : ∃ f, f = fu (m2 25) 1 x84 := ⟨_, rfl⟩
            have hv85_25 : v85 25 = f86 := by rw [hv85, hf86, xu_k]
            have frv85 : ∀ k : Nat, (¬ k = 24 ∧ ¬ k = 25 ∧ ¬ k = kx) → v85 k = vl k := fun k hk => by rw [hv85, xu_c _ _ _ _ (by omega)]; exact fl k hk
            have hHR : t3_R sm O (ad Nw ((a * 13 + b) + -1) x1) (v85 kx) (v85 25) := by rw [hv85_kx, hv85_25, hf86, show x84 = m2 25 1 + x1 by simp only [hx1, hx70, hx73, hx76, hx84]]; exact t3_R_ov hR2 (by omega) (by unfold t3_is; omega) (fun w w1 w2 w3 => by unfold t3_is; omega)
            refine vx_goto hC (tgt := 133) (by decide) eX2_giveAPenny_104 ?_
            refine vx_iinc hC (lv1 := [(6, xa_i (3 + 1)), (7, xa_i 1), (4, xa_l x1), (0, xa_r 15), (1, xa_i a), (2, xa_i b), (3, xa_i sm)]) 1 rfl (by decide) rfl eX2_giveAPenny_133 ?_
            refine vx_goto hC (tgt := 16) (by decide) eX2_giveAPenny_136 ?_
            refine vx_lv (lv1 := [(6, xa_i (3 + 1)), (4, xa_l x1), (0, xa_r 15), (1, xa_i a), (2, xa_i b), (3, xa_i sm)]) [0, 2, 3, 4, 5, 6] rfl ?_
            exact ih (3 + 1) (ad Nw ((a * 13 + b) + -1) x1) v77 v85 (by omega) hrest hHR frv77 frv85 (by omega)
        · refine vx_givers hC wd_779 eX2_giveAPenny_23 ?_
          refine vx_iload hC 0 rfl eX2_giveAPenny_26 ?_
          refine vx_giver hC (by omega) eX2_giveAPenny_28 ?_
          refine vx_eqi (y := 2) (by decide) ?_
          refine vx_istore hC (lv1 := [(7, xa_i 2), (6, xa_i 4), (4, xa_l x1), (0, xa_r 15), (1, xa_i a), (2, xa_i b), (3, xa_i sm)]) (by decide) rfl eX2_giveAPenny_29 ?_
          refine vx_aload_n hC 3 rfl eX2_giveAPenny_31 ?_
          refine vx_gr hC 10 (ot_15 hO) lf_X2_37 rfl (or_15_10 hO) eX2_giveAPenny_32 ?_
          refine vx_iconst hC eX2_giveAPenny_35 ?_
          refine vx_iload_n hC 4 rfl eX2_giveAPenny_36 ?_
          refine vx_iastore hC (ot_24 hO) (by omega) (by omega) eX2_giveAPenny_37 ?_
          refine vx_vi (fun v87 hv87 => ?_)
          obtain ⟨f88, hf88⟩ : ∃ f, f = fu (m1 24) 0 a := ⟨_, rfl⟩
          have hv87_24 : v87 24 = f88 := by rw [hv87, hf88, xu_k]
          have frv87 : ∀ k : Nat, (¬ k = 24 ∧ ¬ k = 25 ∧ ¬ k = kx) → v87 k = vi k := fun k hk => by rw [hv87, xu_c _ _ _ _ (by omega)]; exact fi k hk
          refine vx_aload_n hC 3 rfl eX2_giveAPenny_38 ?_
          refine vx_gr hC 10 (ot_15 hO) lf_X2_37 rfl (or_15_10 hO) eX2_giveAPenny_39 ?_
          refine vx_iconst hC eX2_giveAPenny_42 ?_
          refine vx_iload_n hC 5 rfl eX2_giveAPenny_43 ?_
          refine vx_iastore hC (ot_24 hO) (by omega) (by omega) eX2_giveAPenny_44 ?_
          refine vx_vi (fun v89 hv89 => ?_)
          obtain ⟨f90, hf90⟩ : ∃ f, f = fu (f88) 1 b := ⟨_, rfl⟩
          have hv89_24 : v89 24 = f90 := by rw [hv89, hf90, xu_k, hv87_24]
          have frv89 : ∀ k : Nat, (¬ k = 24 ∧ ¬ k = 25 ∧ ¬ k = kx) → v89 k = vi k := fun k hk => by rw [hv89, xu_c _ _ _ _ (by omega)]; exact frv87 k hk
          refine vx_aload_n hC 3 rfl eX2_giveAPenny_45 ?_
          refine vx_gr hC 10 (ot_15 hO) lf_X2_37 rfl (or_15_10 hO) eX2_giveAPenny_46 ?_
          refine vx_iconst hC eX2_giveAPenny_49 ?_
          refine vx_iload_n hC 6 rfl eX2_giveAPenny_50 ?_
          refine vx_iload_n hC 4 rfl eX2_giveAPenny_51 ?_
          refine vx_isub hC eX2_giveAPenny_52 ?_
          refine vx_iload_n hC 5 rfl eX2_giveAPenny_53 ?_
          refine vx_isub hC eX2_giveAPenny_54 ?_
          refine vx_top (fun x91 hx91 => ?_)
          refine vx_iastore hC (ot_24 hO) (by omega) (by omega) eX2_giveAPenny_55 ?_
          refine vx_vi (fun v92 hv92 => ?_)
          obtain ⟨f93, hf93⟩ : ∃ f, f = fu (f90) 2 x91 := ⟨_, rfl⟩
          have hv92_24 : v92 24 = f93 := by rw [hv92, hf93, xu_k, hv89_24]
          have frv92 : ∀ k : Nat, (¬ k = 24 ∧ ¬ k = 25 ∧ ¬ k = kx) → v92 k = vi k := fun k hk => by rw [hv92, xu_c _ _ _ _ (by omega)]; exact frv89 k hk
          refine vx_aload_n hC 3 rfl eX2_giveAPenny_56 ?_
          refine vx_gr hC 10 (ot_15 hO) lf_X2_37 rfl (or_15_10 hO) eX2_giveAPenny_57 ?_
          refine vx_iload hC 0 rfl eX2_giveAPenny_60 ?_
          refine vx_dup2 hC rfl rfl eX2_giveAPenny_62 ?_
          refine vx_iaload hC (ot_24 hO) (by omega) (by omega) eX2_giveAPenny_63 ?_
          refine vx_eqi (congrFun hv92_24 _) ?_
          refine vx_eqi (y := (sm - a - b)) (by simp [hf93, hf90, hf88, fu_if] <;> omega) ?_
          refine vx_iconst hC eX2_giveAPenny_64 ?_
          refine vx_isub hC eX2_giveAPenny_65 ?_
          refine vx_top (fun x94 hx94 => ?_)
          refine vx_iastore hC (ot_24 hO) (by omega) (by omega) eX2_giveAPenny_66 ?_
          refine vx_vi (fun v95 hv95 => ?_)
          obtain ⟨f96, hf96⟩ : ∃ f, f = fu (f93) 2 x94 := ⟨_, rfl⟩
          have hv95_24 : v95 24 = f96 := by rw [hv95, hf96, xu_k, hv92_24]
          have frv95 : ∀ k : Nat, (¬ k = 24 ∧ ¬ k = 25 ∧ ¬ k = kx) → v95 k = vi k := fun k hk => by rw [hv95, xu_c _ _ _ _ (by omega)]; exact frv92 k hk
          refine vx_aload_n hC 3 rfl eX2_giveAPenny_67 ?_
          refine vx_gr hC 10 (ot_15 hO) lf_X2_37 rfl (or_15_10 hO) eX2_giveAPenny_68 ?_
          refine vx_takers hC wd_781 eX2_giveAPenny_71 ?_
          refine vx_iload hC 1 rfl eX2_giveAPenny_74 ?_
          refine vx_taker hC (by omega) eX2_giveAPenny_76 ?_
          refine vx_eqi (y := 0) (by decide) ?_
          refine vx_dup2 hC rfl rfl eX2_giveAPenny_77 ?_
          refine vx_iaload hC (ot_24 hO) (by omega) (by omega) eX2_giveAPenny_78 ?_
          refine vx_eqi (congrFun hv95_24 _) ?_
          refine vx_eqi (y := a) (by simp [hf96, hf93, hf90, hf88, fu_if] <;> omega) ?_
          refine vx_iconst hC eX2_giveAPenny_79 ?_
          refine vx_iadd hC eX2_giveAPenny_80 ?_
          refine vx_top (fun x97 hx97 => ?_)
          refine vx_iastore hC (ot_24 hO) (by omega) (by omega) eX2_giveAPenny_81 ?_
          refine vx_vi (fun v98 hv98 => ?_)
          obtain ⟨f99, hf99⟩ : ∃ f, f = fu (f96) 0 x97 := ⟨_, rfl⟩
          have hv98_24 : v98 24 = f99 := by rw [hv98, hf99, xu_k, hv95_24]
          have frv98 : ∀ k : Nat, (¬ k = 24 ∧ ¬ k = 25 ∧ ¬ k = kx) → v98 k = vi k := fun k hk => by rw [hv98, xu_c _ _ _ _ (by omega)]; exact frv95 k hk
          refine vx_aload_n hC 3 rfl eX2_giveAPenny_82 ?_
          refine vx_gr hC 10 (ot_15 hO) lf_X2_37 rfl (or_15_10 hO) eX2_giveAPenny_83 ?_
          refine vx_iload hC 0 rfl eX2_giveAPenny_86 ?_
          refine vx_iaload hC (ot_24 hO) (by omega) (by omega) eX2_giveAPenny_88 ?_
          refine vx_eqi (congrFun hv98_24 _) ?_
          refine vx_eqi (y := ((sm - a - b) - 1)) (by simp [hf99, hf96, hf93, hf90, hf88, fu_if] <;> omega) ?_
          refine vx_if_ne hC (tgt := 107) (by omega) (by decide) eX2_giveAPenny_89 (fun c100 => ?_) (fun c100 => ?_)
          · refine vx_aload_n hC 3 rfl eX2_giveAPenny_107 ?_
            refine vx_gr hC 9 (ot_15 hO) lf_X2_34 rfl hkx eX2_giveAPenny_108 ?_
            refine vx_aload_n hC 3 rfl eX2_giveAPenny_111 ?_
            refine vx_gr hC 10 (ot_15 hO) lf_X2_37 rfl (or_15_10 hO) eX2_giveAPenny_112 ?_
            refine vx_iconst hC eX2_giveAPenny_115 ?_
            refine vx_iaload hC (ot_24 hO) (by omega) (by omega) eX2_giveAPenny_116 ?_
            refine vx_eqi (congrFun hv98_24 _) ?_
            refine vx_eqi (y := (a + 1)) (by simp [hf99, hf96, hf93, hf90, hf88, fu_if] <;> omega) ?_
            refine vx_bipush hC (by decide) eX2_giveAPenny_117 ?_
            refine vx_imul hC eX2_giveAPenny_119 ?_
            refine vx_aload_n hC 3 rfl eX2_giveAPenny_120 ?_
            refine vx_gr hC 10 (ot_15 hO) lf_X2_37 rfl (or_15_10 hO) eX2_giveAPenny_121 ?_
            refine vx_iconst hC eX2_giveAPenny_124 ?_
            refine vx_iaload hC (ot_24 hO) (by omega) (by omega) eX2_giveAPenny_125 ?_
            refine vx_eqi (congrFun hv98_24 _) ?_
            refine vx_eqi (y := b) (by simp [hf99, hf96, hf93, hf90, hf88, fu_if] <;> omega) ?_
            refine vx_iadd hC eX2_giveAPenny_126 ?_
            refine vx_dup2 hC rfl rfl eX2_giveAPenny_127 ?_
            refine vx_laload hC htt.2 (by omega) (by omega) eX2_giveAPenny_128 ?_
            refine vx_lload hC 2 rfl eX2_giveAPenny_129 ?_
            refine vx_ladd hC eX2_giveAPenny_131 ?_
            refine vx_topl (fun x101 hx101 => ?_)
            refine vx_top2 (fun x102 hx102 => ?_)
            refine vx_lastore hC htt.2 (by omega) (by omega) eX2_giveAPenny_132 ?_
            refine vx_vl (fun v103 hv103 => ?_)
            obtain ⟨f104, hf104⟩ : ∃ f, f = fu (m2 kx) x102 x101 := ⟨_, rfl⟩
            have hv103_kx : v103 kx = f104 := by rw [hv103, hf104, xu_k]
            have hv103_25 : v103 25 = m2 25 := by rw [hv103, xu_c _ _ _ _ (by omega)]
            have frv103 : ∀ k : Nat, (¬ k = 24 ∧ ¬ k = 25 ∧ ¬ k = kx) → v103 k = vl k := fun k hk => by rw [hv103, xu_c _ _ _ _ (by omega)]; exact fl k hk
            have hHR : t3_R sm O (ad Nw ((a * 13 + b) + 13) x1) (v103 kx) (v103 25) := by rw [hv103_kx, hv103_25, hf104, show x102 = (a * 13 + b) + 13 by omega, show x101 = m2 kx ((a * 13 + b) + 13) + x1 by simp only [hx1, hx91, hx94, hx97, hx101]; congr 1; congr 1; omega]; exact t3_R_in hR2 (by unfold t3_ov; omega)
            refine vx_iinc hC (lv1 := [(6, xa_i (4 + 1)), (7, xa_i 2), (4, xa_l x1), (0, xa_r 15), (1, xa_i a), (2, xa_i b), (3, xa_i sm)]) 1 rfl (by decide) rfl eX2_giveAPenny_133 ?_
            refine vx_goto hC (tgt := 16) (by decide) eX2_giveAPenny_136 ?_
            refine vx_lv (lv1 := [(6, xa_i (4 + 1)), (4, xa_l x1), (0, xa_r 15), (1, xa_i a), (2, xa_i b), (3, xa_i sm)]) [0, 2, 3, 4, 5, 6] rfl ?_
            exact ih (4 + 1) (ad Nw ((a * 13 + b) + 13) x1) v98 v103 (by omega) hrest hHR frv98 frv103 (by omega)
          · refine vx_aload_n hC 3 rfl eX2_giveAPenny_92 ?_
            refine vx_gr hC 11 (ot_15 hO) lf_X2_40 rfl (or_15_11 hO) eX2_giveAPenny_93 ?_
            refine vx_iload hC 0 rfl eX2_giveAPenny_96 ?_
            refine vx_dup2 hC rfl rfl eX2_giveAPenny_98 ?_
            refine vx_laload hC (ot_25 hO) (by omega) (by omega) eX2_giveAPenny_99 ?_
            refine vx_lload hC 2 rfl eX2_giveAPenny_100 ?_
            refine vx_ladd hC eX2_giveAPenny_102 ?_
            refine vx_topl (fun x105 hx105 => ?_)
            refine vx_lastore hC (ot_25 hO) (by omega) (by omega) eX2_giveAPenny_103 ?_
            refine vx_vl (fun v106 hv106 => ?_)
            have hv106_kx : v106 kx = m2 kx := by rw [hv106, xu_c _ _ _ _ (by omega)]
            obtain ⟨f107, hf107⟩ : ∃ f, f = fu (m2 25) 2 x105 := ⟨_, rfl⟩
            have hv106_25 : v106 25 = f107 := by rw [hv106, hf107, xu_k]
            have frv106 : ∀ k : Nat, (¬ k = 24 ∧ ¬ k = 25 ∧ ¬ k = kx) → v106 k = vl k := fun k hk => by rw [hv106, xu_c _ _ _ _ (by omega)]; exact fl k hk
            have hHR : t3_R sm O (ad Nw ((a * 13 + b) + 13) x1) (v106 kx) (v106 25) := by rw [hv106_kx, hv106_25, hf107, show x105 = m2 25 2 + x1 by simp only [hx1, hx91, hx94, hx97, hx105]]; exact t3_R_ov hR2 (by omega) (by unfold t3_is; omega) (fun w w1 w2 w3 => by unfold t3_is; omega)
            refine vx_goto hC (tgt := 133) (by decide) eX2_giveAPenny_104 ?_
            refine vx_iinc hC (lv1 := [(6, xa_i (4 + 1)), (7, xa_i 2), (4, xa_l x1), (0, xa_r 15), (1, xa_i a), (2, xa_i b), (3, xa_i sm)]) 1 rfl (by decide) rfl eX2_giveAPenny_133 ?_
            refine vx_goto hC (tgt := 16) (by decide) eX2_giveAPenny_136 ?_
            refine vx_lv (lv1 := [(6, xa_i (4 + 1)), (4, xa_l x1), (0, xa_r 15), (1, xa_i a), (2, xa_i b), (3, xa_i sm)]) [0, 2, 3, 4, 5, 6] rfl ?_
            exact ih (4 + 1) (ad Nw ((a * 13 + b) + 13) x1) v98 v106 (by omega) hrest hHR frv98 frv106 (by omega)
        · refine vx_givers hC wd_779 eX2_giveAPenny_23 ?_
          refine vx_iload hC 0 rfl eX2_giveAPenny_26 ?_
          refine vx_giver hC (by omega) eX2_giveAPenny_28 ?_
          refine vx_eqi (y := 2) (by decide) ?_
          refine vx_istore hC (lv1 := [(7, xa_i 2), (6, xa_i 5), (4, xa_l x1), (0, xa_r 15), (1, xa_i a), (2, xa_i b), (3, xa_i sm)]) (by decide) rfl eX2_giveAPenny_29 ?_
          refine vx_aload_n hC 3 rfl eX2_giveAPenny_31 ?_
          refine vx_gr hC 10 (ot_15 hO) lf_X2_37 rfl (or_15_10 hO) eX2_giveAPenny_32 ?_
          refine vx_iconst hC eX2_giveAPenny_35 ?_
          refine vx_iload_n hC 4 rfl eX2_giveAPenny_36 ?_
          refine vx_iastore hC (ot_24 hO) (by omega) (by omega) eX2_giveAPenny_37 ?_
          refine vx_vi (fun v108 hv108 => ?_)
          obtain ⟨f109, hf109⟩ : ∃ f, f = fu (m1 24) 0 a := ⟨_, rfl⟩
          have hv108_24 : v108 24 = f109 := by rw [hv108, hf109, xu_k]
          have frv108 : ∀ k : Nat, (¬ k = 24 ∧ ¬ k = 25 ∧ ¬ k = kx) → v108 k = vi k := fun k hk => by rw [hv108, xu_c _ _ _ _ (by omega)]; exact fi k hk
          refine vx_aload_n hC 3 rfl eX2_giveAPenny_38 ?_
          refine vx_gr hC 10 (ot_15 hO) lf_X2_37 rfl (or_15_10 hO) eX2_giveAPenny_39 ?_
          refine vx_iconst hC eX2_giveAPenny_42 ?_
          refine vx_iload_n hC 5 rfl eX2_giveAPenny_43 ?_
          refine vx_iastore hC (ot_24 hO) (by omega) (by omega) eX2_giveAPenny_44 ?_
          refine vx_vi (fun v110 hv110 => ?_)
          obtain ⟨f111, hf111⟩ : ∃ f, f = fu (f109) 1 b := ⟨_, rfl⟩
          have hv110_24 : v110 24 = f111 := by rw [hv110, hf111, xu_k, hv108_24]
          have frv110 : ∀ k : Nat, (¬ k = 24 ∧ ¬ k = 25 ∧ ¬ k = kx) → v110 k = vi k := fun k hk => by rw [hv110, xu_c _ _ _ _ (by omega)]; exact frv108 k hk
          refine vx_aload_n hC 3 rfl eX2_giveAPenny_45 ?_
          refine vx_gr hC 10 (ot_15 hO) lf_X2_37 rfl (or_15_10 hO) eX2_giveAPenny_46 ?_
          refine vx_iconst hC eX2_giveAPenny_49 ?_
          refine vx_iload_n hC 6 rfl eX2_giveAPenny_50 ?_
          refine vx_iload_n hC 4 rfl eX2_giveAPenny_51 ?_
          refine vx_isub hC eX2_giveAPenny_52 ?_
          refine vx_iload_n hC 5 rfl eX2_giveAPenny_53 ?_
          refine vx_isub hC eX2_giveAPenny_54 ?_
          refine vx_top (fun x112 hx112 => ?_)
          refine vx_iastore hC (ot_24 hO) (by omega) (by omega) eX2_giveAPenny_55 ?_
          refine vx_vi (fun v113 hv113 => ?_)
          obtain ⟨f114, hf114⟩ : ∃ f, f = fu (f111) 2 x112 := ⟨_, rfl⟩
          have hv113_24 : v113 24 = f114 := by rw [hv113, hf114, xu_k, hv110_24]
          have frv113 : ∀ k : Nat, (¬ k = 24 ∧ ¬ k = 25 ∧ ¬ k = kx) → v113 k = vi k := fun k hk => by rw [hv113, xu_c _ _ _ _ (by omega)]; exact frv110 k hk
          refine vx_aload_n hC 3 rfl eX2_giveAPenny_56 ?_
          refine vx_gr hC 10 (ot_15 hO) lf_X2_37 rfl (or_15_10 hO) eX2_giveAPenny_57 ?_
          refine vx_iload hC 0 rfl eX2_giveAPenny_60 ?_
          refine vx_dup2 hC rfl rfl eX2_giveAPenny_62 ?_
          refine vx_iaload hC (ot_24 hO) (by omega) (by omega) eX2_giveAPenny_63 ?_
          refine vx_eqi (congrFun hv113_24 _) ?_
          refine vx_eqi (y := (sm - a - b)) (by simp [hf114, hf111, hf109, fu_if] <;> omega) ?_
          refine vx_iconst hC eX2_giveAPenny_64 ?_
          refine vx_isub hC eX2_giveAPenny_65 ?_
          refine vx_top (fun x115 hx115 => ?_)
          refine vx_iastore hC (ot_24 hO) (by omega) (by omega) eX2_giveAPenny_66 ?_
          refine vx_vi (fun v116 hv116 => ?_)
          obtain ⟨f117, hf117⟩ : ∃ f, f = fu (f114) 2 x115 := ⟨_, rfl⟩
          have hv116_24 : v116 24 = f117 := by rw [hv116, hf117, xu_k, hv113_24]
          have frv116 : ∀ k : Nat, (¬ k = 24 ∧ ¬ k = 25 ∧ ¬ k = kx) → v116 k = vi k := fun k hk => by rw [hv116, xu_c _ _ _ _ (by omega)]; exact frv113 k hk
          refine vx_aload_n hC 3 rfl eX2_giveAPenny_67 ?_
          refine vx_gr hC 10 (ot_15 hO) lf_X2_37 rfl (or_15_10 hO) eX2_giveAPenny_68 ?_
          refine vx_takers hC wd_781 eX2_giveAPenny_71 ?_
          refine vx_iload hC 1 rfl eX2_giveAPenny_74 ?_
          refine vx_taker hC (by omega) eX2_giveAPenny_76 ?_
          refine vx_eqi (y := 1) (by decide) ?_
          refine vx_dup2 hC rfl rfl eX2_giveAPenny_77 ?_
          refine vx_iaload hC (ot_24 hO) (by omega) (by omega) eX2_giveAPenny_78 ?_
          refine vx_eqi (congrFun hv116_24 _) ?_
          refine vx_eqi (y := b) (by simp [hf117, hf114, hf111, hf109, fu_if] <;> omega) ?_
          refine vx_iconst hC eX2_giveAPenny_79 ?_
          refine vx_iadd hC eX2_giveAPenny_80 ?_
          refine vx_top (fun x118 hx118 => ?_)
          refine vx_iastore hC (ot_24 hO) (by omega) (by omega) eX2_giveAPenny_81 ?_
          refine vx_vi (fun v119 hv119 => ?_)
          obtain ⟨f120, hf120⟩ : ∃ f, f = fu (f117) 1 x118 := ⟨_, rfl⟩
          have hv119_24 : v119 24 = f120 := by rw [hv119, hf120, xu_k, hv116_24]
          have frv119 : ∀ k : Nat, (¬ k = 24 ∧ ¬ k = 25 ∧ ¬ k = kx) → v119 k = vi k := fun k hk => by rw [hv119, xu_c _ _ _ _ (by omega)]; exact frv116 k hk
          refine vx_aload_n hC 3 rfl eX2_giveAPenny_82 ?_
          refine vx_gr hC 10 (ot_15 hO) lf_X2_37 rfl (or_15_10 hO) eX2_giveAPenny_83 ?_
          refine vx_iload hC 0 rfl eX2_giveAPenny_86 ?_
          refine vx_iaload hC (ot_24 hO) (by omega) (by omega) eX2_giveAPenny_88 ?_
          refine vx_eqi (congrFun hv119_24 _) ?_
          refine vx_eqi (y := ((sm - a - b) - 1)) (by simp [hf120, hf117, hf114, hf111, hf109, fu_if] <;> omega) ?_
          refine vx_if_ne hC (tgt := 107) (by omega) (by decide) eX2_giveAPenny_89 (fun c121 => ?_) (fun c121 => ?_)
          · refine vx_aload_n hC 3 rfl eX2_giveAPenny_107 ?_
            refine vx_gr hC 9 (ot_15 hO) lf_X2_34 rfl hkx eX2_giveAPenny_108 ?_
            refine vx_aload_n hC 3 rfl eX2_giveAPenny_111 ?_
            refine vx_gr hC 10 (ot_15 hO) lf_X2_37 rfl (or_15_10 hO) eX2_giveAPenny_112 ?_
            refine vx_iconst hC eX2_giveAPenny_115 ?_
            refine vx_iaload hC (ot_24 hO) (by omega) (by omega) eX2_giveAPenny_116 ?_
            refine vx_eqi (congrFun hv119_24 _) ?_
            refine vx_eqi (y := a) (by simp [hf120, hf117, hf114, hf111, hf109, fu_if] <;> omega) ?_
            refine vx_bipush hC (by decide) eX2_giveAPenny_117 ?_
            refine vx_imul hC eX2_giveAPenny_119 ?_
            refine vx_aload_n hC 3 rfl eX2_giveAPenny_120 ?_
            refine vx_gr hC 10 (ot_15 hO) lf_X2_37 rfl (or_15_10 hO) eX2_giveAPenny_121 ?_
            refine vx_iconst hC eX2_giveAPenny_124 ?_
            refine vx_iaload hC (ot_24 hO) (by omega) (by omega) eX2_giveAPenny_125 ?_
            refine vx_eqi (congrFun hv119_24 _) ?_
            refine vx_eqi (y := (b + 1)) (by simp [hf120, hf117, hf114, hf111, hf109, fu_if] <;> omega) ?_
            refine vx_iadd hC eX2_giveAPenny_126 ?_
            refine vx_dup2 hC rfl rfl eX2_giveAPenny_127 ?_
            refine vx_laload hC htt.2 (by omega) (by omega) eX2_giveAPenny_128 ?_
            refine vx_lload hC 2 rfl eX2_giveAPenny_129 ?_
            refine vx_ladd hC eX2_giveAPenny_131 ?_
            refine vx_topl (fun x122 hx122 => ?_)
            refine vx_top2 (fun x123 hx123 => ?_)
            refine vx_lastore hC htt.2 (by omega) (by omega) eX2_giveAPenny_132 ?_
            refine vx_vl (fun v124 hv124 => ?_)
            obtain ⟨f125, hf125⟩ : ∃ f, f = fu (m2 kx) x123 x122 := ⟨_, rfl⟩
            have hv124_kx : v124 kx = f125 := by rw [hv124, hf125, xu_k]
            have hv124_25 : v124 25 = m2 25 := by rw [hv124, xu_c _ _ _ _ (by omega)]
            have frv124 : ∀ k : Nat, (¬ k = 24 ∧ ¬ k = 25 ∧ ¬ k = kx) → v124 k = vl k := fun k hk => by rw [hv124, xu_c _ _ _ _ (by omega)]; exact fl k hk
            have hHR : t3_R sm O (ad Nw ((a * 13 + b) + 1) x1) (v124 kx) (v124 25) := by rw [hv124_kx, hv124_25, hf125, show x123 = (a * 13 + b) + 1 by omega, show x122 = m2 kx ((a * 13 + b) + 1) + x1 by simp only [hx1, hx112, hx115, hx118, hx122]; congr 1; congr 1; omega]; exact t3_R_in hR2 (by unfold t3_ov; omega)
            refine vx_iinc hC (lv1 := [(6, xa_i (5 + 1)), (7, xa_i 2), (4, xa_l x1), (0, xa_r 15), (1, xa_i a), (2, xa_i b), (3, xa_i sm)]) 1 rfl (by decide) rfl eX2_giveAPenny_133 ?_
            refine vx_goto hC (tgt := 16) (by decide) eX2_giveAPenny_136 ?_
            refine vx_lv (lv1 := [(6, xa_i (5 + 1)), (4, xa_l x1), (0, xa_r 15), (1, xa_i a), (2, xa_i b), (3, xa_i sm)]) [0, 2, 3, 4, 5, 6] rfl ?_
            exact ih (5 + 1) (ad Nw ((a * 13 + b) + 1) x1) v119 v124 (by omega) hrest hHR frv119 frv124 (by omega)
          · refine vx_aload_n hC 3 rfl eX2_giveAPenny_92 ?_
            refine vx_gr hC 11 (ot_15 hO) lf_X2_40 rfl (or_15_11 hO) eX2_giveAPenny_93 ?_
            refine vx_iload hC 0 rfl eX2_giveAPenny_96 ?_
            refine vx_dup2 hC rfl rfl eX2_giveAPenny_98 ?_
            refine vx_laload hC (ot_25 hO) (by omega) (by omega) eX2_giveAPenny_99 ?_
            refine vx_lload hC 2 rfl eX2_giveAPenny_100 ?_
            refine vx_ladd hC eX2_giveAPenny_102 ?_
            refine vx_topl (fun x126 hx126 => ?_)
            refine vx_lastore hC (ot_25 hO) (by omega) (by omega) eX2_giveAPenny_103 ?_
            refine vx_vl (fun v127 hv127 => ?_)
            have hv127_kx : v127 kx = m2 kx := by rw [hv127, xu_c _ _ _ _ (by omega)]
            obtain ⟨f128, hf128⟩ : ∃ f, f = fu (m2 25) 2 x126 := ⟨_, rfl⟩
            have hv127_25 : v127 25 = f128 := by rw [hv127, hf128, xu_k]
            have frv127 : ∀ k : Nat, (¬ k = 24 ∧ ¬ k = 25 ∧ ¬ k = kx) → v127 k = vl k := fun k hk => by rw [hv127, xu_c _ _ _ _ (by omega)]; exact fl k hk
            have hHR : t3_R sm O (ad Nw ((a * 13 + b) + 1) x1) (v127 kx) (v127 25) := by rw [hv127_kx, hv127_25, hf128, show x126 = m2 25 2 + x1 by simp only [hx1, hx112, hx115, hx118, hx126]]; exact t3_R_ov hR2 (by omega) (by unfold t3_is; omega) (fun w w1 w2 w3 => by unfold t3_is; omega)
            refine vx_goto hC (tgt := 133) (by decide) eX2_giveAPenny_104 ?_
            refine vx_iinc hC (lv1 := [(6, xa_i (5 + 1)), (7, xa_i 2), (4, xa_l x1), (0, xa_r 15), (1, xa_i a), (2, xa_i b), (3, xa_i sm)]) 1 rfl (by decide) rfl eX2_giveAPenny_133 ?_
            refine vx_goto hC (tgt := 16) (by decide) eX2_giveAPenny_136 ?_
            refine vx_lv (lv1 := [(6, xa_i (5 + 1)), (4, xa_l x1), (0, xa_r 15), (1, xa_i a), (2, xa_i b), (3, xa_i sm)]) [0, 2, 3, 4, 5, 6] rfl ?_
            exact ih (5 + 1) (ad Nw ((a * 13 + b) + 1) x1) v119 v127 (by omega) hrest hHR frv119 frv127 (by omega)
  exact LP16 7 0 N vi vl (by omega) rfl hR (fun _ _ => rfl) (fun _ _ => rfl) (by omega)
