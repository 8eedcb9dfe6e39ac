theorem sk_in_cg {o : Int} {f g : Int → Int} : ∀ (c : Nat) (k : Int) (N : Int → Int), (∀ z, k ≤ z → z < k + (c : Int) → f z = g z) → sk_in o f c k N = sk_in o g c k N
  | 0, _, _, _ => rfl
  | c + 1, k, N, h => by rw [sk_in, sk_in, h k (by omega) (by omega)]; exact sk_in_cg c (k + 1) _ (fun z z1 z2 => h z (by omega) (by omega))
set_option maxHeartbeats 4000000 in
set_option maxRecDepth 100000 in
theorem kX2_streaks (G : xg_T) (d : Nat) (n : Nat) (tau : Nat → Nat × Nat) (vi vl : Nat → Int → Int) (vr : Nat → Int → Option Nat) (hO : xo n tau vr) (o r m : Int) (ho : 0 ≤ o ∧ o ≤ 10) (hr : 1 ≤ r ∧ r ≤ 6) (hm : 0 ≤ m ∧ m ≤ 15) : xm G yX2_streaks cX2_streaks 8 (some .long) (d + 2) 0 0 [xa_r 15, xa_i o, xa_i r, xa_i m] n tau vi vl vr (xp_l (fun z9 n1 t1 a1 b1 c1 => (z9 = sk_n o r m.toNat sk_0 r) ∧ (b1 15 2 = (10 : Int) ^ m.toNat) ∧ xs_F (fun k => ¬ k = 15 ∧ ¬ k = 16 ∧ ¬ k = 17) n tau vi vl vr n1 t1 a1 b1 c1)) := by
  refine xm.of (lv := [(0, xa_r 15), (1, xa_i o), (2, xa_i r), (3, xa_i m)]) (by decide) (Nat.le_of_ble_eq_true rfl) rfl (fun K hC hM hRm => ?_)
  refine vx_aload_n hC 0 rfl eX2_streaks_0 ?_
  refine vx_gr hC 0 (ot_15 hO) lf_X2_11 rfl (or_15_0 hO) eX2_streaks_1 ?_
  refine vx_lconst hC 0 (by decide) eX2_streaks_4 ?_
  refine vx_callS_v hC (kJ7_fill_d0a16 G d _ _ _ _ _ 16 13 (ot_16 hO) (by omega) 0) ly_X2_58 rfl hRm (by omega) (Nat.le_of_ble_eq_true rfl) rfl eX2_streaks_5 (fun ng2 tg2 ag2 bg2 cg2 hg2 => ?_)
  obtain ⟨qg2_0, rfl, rfl, rfl, frg2⟩ := hg2
  have hg2_17 : bg2 17 = vl 17 := (frg2 17 (by omega)).2
  have hg2_15_2 : bg2 15 2 = vl 15 2 := (congrFun (frg2 15 (by omega)).2 _)
  have frvig2 : ∀ k : Nat, (¬ k = 15 ∧ ¬ k = 16 ∧ ¬ k = 17) → ag2 k = vi k := fun k hk => (frg2 k (by omega)).1
  have frvlg2 : ∀ k : Nat, (¬ k = 15 ∧ ¬ k = 16 ∧ ¬ k = 17) → bg2 k = vl k := fun k hk => (frg2 k (by omega)).2
  refine vx_aload_n hC 0 rfl eX2_streaks_8 ?_
  refine vx_gr hC 0 (ot_15 hO) lf_X2_11 rfl (or_15_0 hO) eX2_streaks_9 ?_
  refine vx_iconst hC eX2_streaks_12 ?_
  refine vx_lconst hC 1 (by decide) eX2_streaks_13 ?_
  refine vx_lastore hC (ot_16 hO) (by omega) (by omega) eX2_streaks_14 ?_
  refine vx_vl (fun v3 hv3 => ?_)
  obtain ⟨f4, hf4⟩ : ∃ f, f = fu (fz0) 0 1 := ⟨_, rfl⟩
  have hv3_16 : ag 13 (v3 16) f4 := by rw [hv3, xu_k, hf4]; exact ag_fu qg2_0
  have hv3_17 : v3 17 = vl 17 := by rw [hv3, xu_c _ _ _ _ (by decide), hg2_17]
  have hv3_15_2 : v3 15 2 = vl 15 2 := by rw [hv3, xu_c _ _ _ _ (by decide), hg2_15_2]
  have frv3 : ∀ k : Nat, (¬ k = 15 ∧ ¬ k = 16 ∧ ¬ k = 17) → v3 k = vl k := fun k hk => by rw [hv3, xu_c _ _ _ _ (by omega)]; exact frvlg2 k hk
  have aS : ag 13 (v3 16) sk_0 := by rw [show sk_0 = f4 from by rw [hf4]; funext z; unfold sk_0 fu fz0; rfl]; exact hv3_16
  refine vx_aload_n hC 0 rfl eX2_streaks_15 ?_
  refine vx_lconst hC 1 (by decide) eX2_streaks_16 ?_
  refine vx_pl hC 2 (ot_15 hO) lp_X2_70 rfl (Or.inl rfl) rfl eX2_streaks_17 ?_
  refine vx_vl (fun v5 hv5 => ?_)
  have hv5_16 : ag 13 (v5 16) (sk_0) := by rw [hv5, xu_c _ _ _ _ (by decide)]; exact aS
  have hv5_17 : v5 17 = vl 17 := by rw [hv5, xu_c _ _ _ _ (by decide), hv3_17]
  have hv5_15_2 : v5 15 2 = 1 := by rw [hv5, xu_k, fu_s]
  have frv5 : ∀ k : Nat, (¬ k = 15 ∧ ¬ k = 16 ∧ ¬ k = 17) → v5 k = vl k := fun k hk => by rw [hv5, xu_c _ _ _ _ (by omega)]; exact frv3 k hk
  refine vx_lconst hC 0 (by decide) eX2_streaks_20 ?_
  refine vx_lstore hC (lv1 := [(4, xa_l 0), (0, xa_r 15), (1, xa_i o), (2, xa_i r), (3, xa_i m)]) (by decide) rfl eX2_streaks_21 ?_
  refine vx_iconst hC eX2_streaks_23 ?_
  refine vx_istore hC (lv1 := [(6, xa_i 0), (4, xa_l 0), (0, xa_r 15), (1, xa_i o), (2, xa_i r), (3, xa_i m)]) (by decide) rfl eX2_streaks_24 ?_
  have LP26 : ∀ (j : Nat) (cc : Nat) (tt : Nat) (F : Int → Int) (H : Int → Int) (su : Int) (m3 : Nat → Int → Int) (m2 : Nat → Int → Int) (hcc : (tt : Int) + (cc : Int) = m) (hres : sk_n o r cc F = sk_n o r m.toNat sk_0) (hH : ∀ k, 0 ≤ k → k < r → H k = F k) (hsu : su = F r) (aH : ag 13 (m2 16) H) (eW : m2 15 2 = (10 : Int) ^ tt) (fi : ∀ k : Nat, (¬ k = 15 ∧ ¬ k = 16 ∧ ¬ k = 17) → m3 k = vi k) (fl : ∀ k : Nat, (¬ k = 15 ∧ ¬ k = 16 ∧ ¬ k = 17) → m2 k = vl k) (hj : (cc : Int) < (j : Int)), xv G K 8 (xk_Q G K (xp_l (fun z9 n1 t1 a1 b1 c1 => (z9 = sk_n o r m.toNat sk_0 r) ∧ (b1 15 2 = (10 : Int) ^ m.toNat) ∧ xs_F (fun k => ¬ k = 15 ∧ ¬ k = 16 ∧ ¬ k = 17) n tau vi vl vr n1 t1 a1 b1 c1)) 0 0) 0 0 n tau m3 m2 vr 26 [(6, xa_i (tt : Int)), (4, xa_l su), (0, xa_r 15), (1, xa_i o), (2, xa_i r), (3, xa_i m)] [] := by
    intro j
    induction j with
    | zero => intro cc tt F H su m3 m2 hcc hres hH hsu aH eW fi fl hj; exfalso; omega
    | succ j ihA =>
      intro cc tt F H su m3 m2 hcc hres hH hsu aH eW fi fl hj
      refine vx_iload hC 0 rfl eX2_streaks_26 ?_
      refine vx_iload_n hC 5 rfl eX2_streaks_28 ?_
      refine vx_icmp_ge hC (tgt := 147) (by omega) (by decide) eX2_streaks_29 (fun c6 => ?_) (fun c6 => ?_)
      · refine vx_lload hC 1 rfl eX2_streaks_147 ?_
        exact vx_lret hC hM eX2_streaks_149 (⟨_, rfl, (by rw [hsu, ← hres, show cc = 0 by omega, sk_n]), (by rw [show m.toNat = tt by omega]; exact eW), rfl, rfl, rfl, fun k hk => ⟨fi k hk, fl k hk⟩⟩)
      · obtain ⟨cc1, rfl⟩ : ∃ cc1, cc = cc1 + 1 := ⟨cc - 1, by omega⟩
        refine vx_aload_n hC 2 rfl eX2_streaks_32 ?_
        refine vx_gr hC 1 (ot_15 hO) lf_X2_15 rfl (or_15_1 hO) eX2_streaks_33 ?_
        refine vx_lconst hC 0 (by decide) eX2_streaks_36 ?_
        refine vx_callS_v hC (kJ7_fill_d0a16 G d _ _ _ _ _ 17 13 (ot_17 hO) (by omega) 0) ly_X2_58 rfl hRm (by omega) (Nat.le_of_ble_eq_true rfl) rfl eX2_streaks_37 (fun ng8 tg8 ag8 bg8 cg8 hg8 => ?_)
        obtain ⟨qg8_0, rfl, rfl, rfl, frg8⟩ := hg8
        have hg8_16 : ag 13 (bg8 16) (H) := by rw [(frg8 16 (by omega)).2]; exact aH
        have hg8_15_2 : bg8 15 2 = (10 : Int) ^ tt := (congrFun (frg8 15 (by omega)).2 _).trans eW
        have frvig8 : ∀ k : Nat, (¬ k = 15 ∧ ¬ k = 16 ∧ ¬ k = 17) → ag8 k = vi k := fun k hk => (frg8 k (by omega)).1.trans (fi k hk)
        have frvlg8 : ∀ k : Nat, (¬ k = 15 ∧ ¬ k = 16 ∧ ¬ k = 17) → bg8 k = vl k := fun k hk => (frg8 k (by omega)).2.trans (fl k hk)
        refine vx_iconst hC eX2_streaks_40 ?_
        refine vx_istore hC (lv1 := [(7, xa_i 0), (6, xa_i (tt : Int)), (4, xa_l su), (0, xa_r 15), (1, xa_i o), (2, xa_i r), (3, xa_i m)]) (by decide) rfl eX2_streaks_41 ?_
        have LP43 : ∀ (j : Nat) (cq9 : Nat) (k5 : Int) (N : Int → Int) (m5 : Nat → Int → Int) (hcq : k5 + (cq9 : Int) = r ∧ 0 ≤ k5) (hin : sk_in o H cq9 k5 N = sk_in o H r.toNat 0 fz0) (aN : ag 13 (m5 17) N) (aH5 : ag 13 (m5 16) H) (eW5 : m5 15 2 = (10 : Int) ^ tt) (fl5 : ∀ k : Nat, (¬ k = 15 ∧ ¬ k = 16 ∧ ¬ k = 17) → m5 k = vl k) (hj : (cq9 : Int) < (j : Int)), xv G K 8 (xk_Q G K (xp_l (fun z9 n1 t1 a1 b1 c1 => (z9 = sk_n o r m.toNat sk_0 r) ∧ (b1 15 2 = (10 : Int) ^ m.toNat) ∧ xs_F (fun k => ¬ k = 15 ∧ ¬ k = 16 ∧ ¬ k = 17) n tau vi vl vr n1 t1 a1 b1 c1)) 0 0) 0 0 n tau ag8 m5 vr 43 [(7, xa_i k5), (6, xa_i (tt : Int)), (4, xa_l su), (0, xa_r 15), (1, xa_i o), (2, xa_i r), (3, xa_i m)] [] := by
          intro j
          induction j with
          | zero => intro cq9 k5 N m5 hcq hin aN aH5 eW5 fl5 hj; exfalso; omega
          | succ j ihB =>
            intro cq9 k5 N m5 hcq hin aN aH5 eW5 fl5 hj
            refine vx_iload hC 0 rfl eX2_streaks_43 ?_
            refine vx_iload_n hC 5 rfl eX2_streaks_45 ?_
            refine vx_icmp_ge hC (tgt := 99) (by omega) (by decide) eX2_streaks_46 (fun c9 => ?_) (fun c9 => ?_)
            · have hN9 : N = sk_in o F r.toNat 0 fz0 := by rw [← sk_in_cg (f := H) r.toNat 0 fz0 (fun z z1 z2 => hH z z1 (by omega)), ← hin, show cq9 = 0 by omega, sk_in]
              refine vx_lload hC 2 rfl eX2_streaks_99 ?_
              refine vx_ldc2 hC (10) wd_694 eX2_streaks_101 ?_
              refine vx_lmul hC eX2_streaks_104 ?_
              refine vx_aload_n hC 3 rfl eX2_streaks_105 ?_
              refine vx_gr hC 1 (ot_15 hO) lf_X2_15 rfl (or_15_1 hO) eX2_streaks_106 ?_
              refine vx_iload_n hC 5 rfl eX2_streaks_109 ?_
              refine vx_laload hC (ot_17 hO) (by omega) (by omega) eX2_streaks_110 ?_
              refine vx_eql (aN _ (by omega) (by omega)) ?_
              refine vx_ladd hC eX2_streaks_111 ?_
              refine vx_topl (fun x10 hx10 => ?_)
              refine vx_lstore hC (lv1 := [(4, xa_l x10), (7, xa_i k5), (6, xa_i (tt : Int)), (0, xa_r 15), (1, xa_i o), (2, xa_i r), (3, xa_i m)]) (by decide) rfl eX2_streaks_112 ?_
              refine vx_aload_n hC 3 rfl eX2_streaks_114 ?_
              refine vx_dup hC rfl eX2_streaks_115 ?_
              refine vx_gl hC 2 (ot_15 hO) lf_X2_70 rfl eX2_streaks_116 ?_
              refine vx_eql eW5 ?_
              refine vx_ldc2 hC (10) wd_694 eX2_streaks_119 ?_
              refine vx_lmul hC eX2_streaks_122 ?_
              refine vx_topl (fun x11 hx11 => ?_)
              refine vx_pl hC 2 (ot_15 hO) lp_X2_70 rfl (Or.inl rfl) rfl eX2_streaks_123 ?_
              refine vx_vl (fun v12 hv12 => ?_)
              have hv12_16 : ag 13 (v12 16) (H) := by rw [hv12, xu_c _ _ _ _ (by decide)]; exact aH5
              have hv12_17 : ag 13 (v12 17) (N) := by rw [hv12, xu_c _ _ _ _ (by decide)]; exact aN
              have hv12_15_2 : v12 15 2 = x11 := by rw [hv12, xu_k, fu_s]
              have frv12 : ∀ k : Nat, (¬ k = 15 ∧ ¬ k = 16 ∧ ¬ k = 17) → v12 k = vl k := fun k hk => by rw [hv12, xu_c _ _ _ _ (by omega)]; exact fl5 k hk
              refine vx_aload_n hC 3 rfl eX2_streaks_126 ?_
              refine vx_gr hC 1 (ot_15 hO) lf_X2_15 rfl (or_15_1 hO) eX2_streaks_127 ?_
              refine vx_iconst hC eX2_streaks_130 ?_
              refine vx_aload_n hC 3 rfl eX2_streaks_131 ?_
              refine vx_gr hC 0 (ot_15 hO) lf_X2_11 rfl (or_15_0 hO) eX2_streaks_132 ?_
              refine vx_iconst hC eX2_streaks_135 ?_
              refine vx_bipush hC (by decide) eX2_streaks_136 ?_
              refine vx_copyJ hC (ot_17 hO) (ot_16 hO) (by decide) (by omega) ly_X2_83 hRm (by omega) (Nat.le_of_ble_eq_true rfl) eX2_streaks_138 ?_
              refine vx_vl (fun v13 hv13 => ?_)
              have whv13_16 : v13 16 = xcp (v12 17) (v12 16) 0 0 13 := by rw [hv13]; exact if_pos rfl
              have hv13_16 : ag 13 (v13 16) (N) := by rw [whv13_16]; exact xcp_ag hv12_17
              have whv13_17 : v13 17 = v12 17 := by rw [hv13]; exact if_neg (by decide)
              have hv13_17 : ag 13 (v13 17) (N) := by rw [whv13_17]; exact hv12_17
              have whv13_15_2 : v13 15 = v12 15 := by rw [hv13]; exact if_neg (by decide)
              have hv13_15_2 : v13 15 2 = x11 := by rw [whv13_15_2]; exact hv12_15_2
              have frv13 : ∀ k : Nat, (¬ k = 15 ∧ ¬ k = 16 ∧ ¬ k = 17) → v13 k = vl k := fun k hk => by rw [hv13]; show (if k = 16 then _ else _) = _; rw [if_neg (by omega)]; exact frv12 k hk
              refine vx_iinc hC (lv1 := [(6, xa_i ((tt : Int) + 1)), (4, xa_l x10), (7, xa_i k5), (0, xa_r 15), (1, xa_i o), (2, xa_i r), (3, xa_i m)]) 2 rfl (by decide) rfl eX2_streaks_141 ?_
              refine vx_goto hC (tgt := 26) (by decide) eX2_streaks_144 ?_
              refine vx_lv (lv1 := [(6, xa_i ((tt : Int) + 1)), (4, xa_l x10), (0, xa_r 15), (1, xa_i o), (2, xa_i r), (3, xa_i m)]) [0, 1, 3, 4, 5, 6] rfl ?_
              exact ihA cc1 (tt + 1) (sk_1 o r F) N x10 ag8 v13 (by omega) (by rw [← hres, sk_n]) (fun k k1 k2 => by rw [hN9]; unfold sk_1 ad; rw [fu_n _ _ _ (by omega)]) (by rw [hx10, hsu]; unfold sk_1 ad; rw [fu_s, ← hN9]; omega) hv13_16 (by rw [hv13_15_2, hx11, Int.pow_succ]) frvig8 frv13 (by omega)
            · obtain ⟨cq1, rfl⟩ : ∃ cq1, cq9 = cq1 + 1 := ⟨cq9 - 1, by omega⟩
              refine vx_aload_n hC 3 rfl eX2_streaks_49 ?_
              refine vx_gr hC 1 (ot_15 hO) lf_X2_15 rfl (or_15_1 hO) eX2_streaks_50 ?_
              refine vx_iconst hC eX2_streaks_53 ?_
              refine vx_dup2 hC rfl rfl eX2_streaks_54 ?_
              refine vx_laload hC (ot_17 hO) (by omega) (by omega) eX2_streaks_55 ?_
              refine vx_eql (aN _ (by omega) (by omega)) ?_
              refine vx_aload_n hC 3 rfl eX2_streaks_56 ?_
              refine vx_gr hC 0 (ot_15 hO) lf_X2_11 rfl (or_15_0 hO) eX2_streaks_57 ?_
              refine vx_iload hC 0 rfl eX2_streaks_60 ?_
              refine vx_laload hC (ot_16 hO) (by omega) (by omega) eX2_streaks_62 ?_
              refine vx_eql (aH5 _ (by omega) (by omega)) ?_
              refine vx_iload_n hC 4 rfl eX2_streaks_63 ?_
              refine vx_i2l hC (by omega) eX2_streaks_64 ?_
              refine vx_lmul hC eX2_streaks_65 ?_
              refine vx_ladd hC eX2_streaks_66 ?_
              refine vx_topl (fun x14 hx14 => ?_)
              refine vx_lastore hC (ot_17 hO) (by omega) (by omega) eX2_streaks_67 ?_
              refine vx_vl (fun v15 hv15 => ?_)
              have hv15_16 : ag 13 (v15 16) (H) := by rw [hv15, xu_c _ _ _ _ (by decide)]; exact aH5
              obtain ⟨f16, hf16⟩ : ∃ f, f = fu (N) 0 x14 := ⟨_, rfl⟩
              have hv15_17 : ag 13 (v15 17) f16 := by rw [hv15, xu_k, hf16]; exact ag_fu aN
              have hv15_15_2 : v15 15 2 = (10 : Int) ^ tt := by rw [hv15, xu_c _ _ _ _ (by decide), eW5]
              have frv15 : ∀ k : Nat, (¬ k = 15 ∧ ¬ k = 16 ∧ ¬ k = 17) → v15 k = vl k := fun k hk => by rw [hv15, xu_c _ _ _ _ (by omega)]; exact fl5 k hk
              have hG1 : f16 = ad N 0 (o * H k5) := by rw [hf16]; exact ad_eq (by first | rfl | assumption) (by simp only [hx14]; rw [Int.mul_comm (H k5) o])
              refine vx_aload_n hC 3 rfl eX2_streaks_68 ?_
              refine vx_gr hC 1 (ot_15 hO) lf_X2_15 rfl (or_15_1 hO) eX2_streaks_69 ?_
              refine vx_iload hC 0 rfl eX2_streaks_72 ?_
              refine vx_iconst hC eX2_streaks_74 ?_
              refine vx_iadd hC eX2_streaks_75 ?_
              refine vx_dup2 hC rfl rfl eX2_streaks_76 ?_
              refine vx_laload hC (ot_17 hO) (by omega) (by omega) eX2_streaks_77 ?_
              refine vx_eql (hv15_17 _ (by omega) (by omega)) ?_
              refine vx_aload_n hC 3 rfl eX2_streaks_78 ?_
              refine vx_gr hC 0 (ot_15 hO) lf_X2_11 rfl (or_15_0 hO) eX2_streaks_79 ?_
              refine vx_iload hC 0 rfl eX2_streaks_82 ?_
              refine vx_laload hC (ot_16 hO) (by omega) (by omega) eX2_streaks_84 ?_
              refine vx_eql (hv15_16 _ (by omega) (by omega)) ?_
              refine vx_bipush hC (by decide) eX2_streaks_85 ?_
              refine vx_iload_n hC 4 rfl eX2_streaks_87 ?_
              refine vx_isub hC eX2_streaks_88 ?_
              refine vx_i2l hC (by omega) eX2_streaks_89 ?_
              refine vx_lmul hC eX2_streaks_90 ?_
              refine vx_ladd hC eX2_streaks_91 ?_
              refine vx_topl (fun x17 hx17 => ?_)
              refine vx_top2 (fun x18 hx18 => ?_)
              refine vx_lastore hC (ot_17 hO) (by omega) (by omega) eX2_streaks_92 ?_
              refine vx_vl (fun v19 hv19 => ?_)
              have hv19_16 : ag 13 (v19 16) (H) := by rw [hv19, xu_c _ _ _ _ (by decide)]; exact hv15_16
              obtain ⟨f20, hf20⟩ : ∃ f, f = fu (f16) x18 x17 := ⟨_, rfl⟩
              have hv19_17 : ag 13 (v19 17) f20 := by rw [hv19, xu_k, hf20]; exact ag_fu hv15_17
              have hv19_15_2 : v19 15 2 = (10 : Int) ^ tt := by rw [hv19, xu_c _ _ _ _ (by decide), hv15_15_2]
              have frv19 : ∀ k : Nat, (¬ k = 15 ∧ ¬ k = 16 ∧ ¬ k = 17) → v19 k = vl k := fun k hk => by rw [hv19, xu_c _ _ _ _ (by omega)]; exact frv15 k hk
              have hG2 : f20 = ad (ad N 0 (o * H k5)) (k5 + 1) ((10 - o) * H k5) := by rw [hf20, ← hG1]; exact ad_eq (by simp only [hx14, hx17, hx18]) (by simp only [hx14, hx17, hx18]; rw [Int.mul_comm (H k5) (10 - o)])
              refine vx_iinc hC (lv1 := [(7, xa_i (k5 + 1)), (6, xa_i (tt : Int)), (4, xa_l su), (0, xa_r 15), (1, xa_i o), (2, xa_i r), (3, xa_i m)]) 0 rfl (by decide) rfl eX2_streaks_93 ?_
              refine vx_goto hC (tgt := 43) (by decide) eX2_streaks_96 ?_
              exact ihB cq1 (k5 + 1) f20 v19 (by omega) (by rw [← hin, sk_in, hG2]) hv19_17 hv19_16 hv19_15_2 frv19 (by omega)
        exact LP43 8 r.toNat 0 fz0 bg8 (by omega) rfl qg8_0 hg8_16 hg8_15_2 frvlg8 (by omega)
  exact LP26 16 m.toNat 0 sk_0 sk_0 0 ag2 v5 (by omega) rfl (fun _ _ _ => rfl) (by unfold sk_0; rw [if_neg (by omega)]) hv5_16 hv5_15_2 frvig2 frv5 (by omega)
set_option maxHeartbeats 4000000 in
set_option maxRecDepth 100000 in
theorem kX11_streak (G : xg_T) (d : Nat) (n : Nat) (tau : Nat → Nat × Nat) (vi vl : Nat → Int → Int) (vr : Nat → Int → Option Nat) (hO : xo n tau vr) (s im : Int → Int) (has ran : Int) (bod : Int → Int) (hR : RCl s im has ran bod n tau vi vr) (hV : ms_V s) (o r m pt : Int) (ho : -2147483648 ≤ o ∧ o < 2147483648) (hr0 : -2147483648 ≤ r ∧ r < 2147483648) (hm : -2147483648 ≤ m ∧ m < 2147483648) (hpt : -2147483648 ≤ pt ∧ pt < 2147483648) : xm G yX11_streak cX11_streak 7 (some .long) (d + 3) 0 0 [xa_r 0, xa_i o, xa_i r, xa_i m, xa_i pt] n tau vi vl vr (xp_l (fun z9 n1 t1 a1 b1 c1 => z9 = sp_streak o r m pt ∧ cq (s) (im) (has) (ran) (bod) n tau vi vl n1 t1 a1 b1 c1)) := by
  refine xm.of (lv := [(0, xa_r 0), (1, xa_i o), (2, xa_i r), (3, xa_i m), (4, xa_i pt)]) (by decide) (Nat.le_of_ble_eq_true rfl) rfl (fun K hC hM hRm => ?_)
  refine vx_iload_n hC 1 rfl eX11_streak_0 ?_
  refine vx_if_lt hC (tgt := 36) (by omega) (by decide) eX11_streak_1 (fun c1 => ?_) (fun c1 => ?_)
  · refine vx_ldc2 hC (-9223372036854775808) wd_680 eX11_streak_36 ?_
    exact vx_lret hC hM eX11_streak_39 (⟨_, rfl, by unfold sp_streak; first | (rw [if_pos (by omega)]; simp only []; done) | (rw [if_neg (by omega)]; rfl), cq_ro hO hR (fun k hk => rfl) (fun k hk => rfl)⟩)
  · refine vx_iload_n hC 1 rfl eX11_streak_4 ?_
    refine vx_bipush hC (by decide) eX11_streak_5 ?_
    refine vx_icmp_gt hC (tgt := 36) (by omega) (by decide) eX11_streak_7 (fun c2 => ?_) (fun c2 => ?_)
    · refine vx_ldc2 hC (-9223372036854775808) wd_680 eX11_streak_36 ?_
      exact vx_lret hC hM eX11_streak_39 (⟨_, rfl, by unfold sp_streak; first | (rw [if_pos (by omega)]; simp only []; done) | (rw [if_neg (by omega)]; rfl), cq_ro hO hR (fun k hk => rfl) (fun k hk => rfl)⟩)
    · refine vx_iload_n hC 2 rfl eX11_streak_10 ?_
      refine vx_iconst hC eX11_streak_11 ?_
      refine vx_icmp_lt hC (tgt := 36) (by omega) (by decide) eX11_streak_12 (fun c3 => ?_) (fun c3 => ?_)
      · refine vx_ldc2 hC (-9223372036854775808) wd_680 eX11_streak_36 ?_
        exact vx_lret hC hM eX11_streak_39 (⟨_, rfl, by unfold sp_streak; first | (rw [if_pos (by omega)]; simp only []; done) | (rw [if_neg (by omega)]; rfl), cq_ro hO hR (fun k hk => rfl) (fun k hk => rfl)⟩)
      · refine vx_iload_n hC 2 rfl eX11_streak_15 ?_
        refine vx_bipush hC (by decide) eX11_streak_16 ?_
        refine vx_icmp_gt hC (tgt := 36) (by omega) (by decide) eX11_streak_18 (fun c4 => ?_) (fun c4 => ?_)
        · refine vx_ldc2 hC (-9223372036854775808) wd_680 eX11_streak_36 ?_
          exact vx_lret hC hM eX11_streak_39 (⟨_, rfl, by unfold sp_streak; first | (rw [if_pos (by omega)]; simp only []; done) | (rw [if_neg (by omega)]; rfl), cq_ro hO hR (fun k hk => rfl) (fun k hk => rfl)⟩)
        · refine vx_iload_n hC 3 rfl eX11_streak_21 ?_
          refine vx_callS_i hC (kX11_isSpan G (d + 1) _ _ _ _ _ _ (by omega)) ly_X11_125 rfl hRm (by omega) (Nat.le_of_ble_eq_true rfl) rfl eX11_streak_22 (fun x5 n9 t9 a9 b9 c9 hx5 => ?_)
          obtain ⟨hx5, rfl, rfl, rfl, rfl, rfl⟩ := hx5
          refine vx_if_eq hC (tgt := 36) (by omega) (by decide) eX11_streak_25 (fun c6 => ?_) (fun c6 => ?_)
          · refine vx_ldc2 hC (-9223372036854775808) wd_680 eX11_streak_36 ?_
            exact vx_lret hC hM eX11_streak_39 (⟨_, rfl, by unfold sp_streak; first | (rw [if_pos (by omega)]; simp only []; done) | (rw [if_neg (by omega)]; rfl), cq_ro hO hR (fun k hk => rfl) (fun k hk => rfl)⟩)
          · refine vx_iload hC 4 rfl eX11_streak_28 ?_
            refine vx_callS_i hC (kX11_isPart G (d + 1) _ _ _ _ _ _ (by omega)) ly_X11_128 rfl hRm (by omega) (Nat.le_of_ble_eq_true rfl) rfl eX11_streak_30 (fun x7 n9 t9 a9 b9 c9 hx7 => ?_)
            obtain ⟨hx7, rfl, rfl, rfl, rfl, rfl⟩ := hx7
            refine vx_if_ne hC (tgt := 40) (by omega) (by decide) eX11_streak_33 (fun c8 => ?_) (fun c8 => ?_)
            · refine vx_aload_n hC 0 rfl eX11_streak_40 ?_
              refine vx_gr hC 3 (ot_0 hO) lf_X11_24 rfl (or_0_3 hO) eX11_streak_41 ?_
              refine vx_iload_n hC 1 rfl eX11_streak_44 ?_
              refine vx_iload_n hC 2 rfl eX11_streak_45 ?_
              refine vx_iload_n hC 3 rfl eX11_streak_46 ?_
              refine vx_callV_l hC (kX2_streaks G d _ _ _ _ _ hO o r m (by omega) (by omega) (by omega)) ly_X11_183 (ot_15 hO) rfl rfl rfl hRm (by omega) (Nat.le_of_ble_eq_true rfl) rfl eX11_streak_47 (fun x9 ng10 tg10 ag10 bg10 cg10 hg10 => ?_)
              obtain ⟨hx9, qg10_0, rfl, rfl, rfl, frg10⟩ := hg10
              have frvig10 : ∀ k : Nat, (k < 7 ∨ (8 ≤ k ∧ k < 14) ∨ 30 ≤ k) → ag10 k = vi k := fun k hk => (frg10 k (by omega)).1
              have frvlg10 : ∀ k : Nat, (k < 7 ∨ (8 ≤ k ∧ k < 14) ∨ 30 ≤ k) → bg10 k = vl k := fun k hk => (frg10 k (by omega)).2
              have hok9 := sk_ok_n (o := o) (r := r) (by omega) (by omega) m.toNat 0 sk_0 sk_ok_0
              rw [Nat.zero_add] at hok9
              have ht10 := ten_le (t := m.toNat) (by omega)
              have hr9 := hok9.1 r (by omega) (by omega)
              have hr8 := sq_one (f := sk_n o r m.toNat sk_0) 7 0 r (by omega) (by omega) (fun w w1 w2 => hok9.1 w w1 (by omega))
              have hr7 := hok9.2
              refine vx_lstore hC (lv1 := [(5, xa_l x9), (0, xa_r 0), (1, xa_i o), (2, xa_i r), (3, xa_i m), (4, xa_i pt)]) (by decide) rfl eX11_streak_50 ?_
              refine vx_lload hC 0 rfl eX11_streak_52 ?_
              refine vx_aload_n hC 1 rfl eX11_streak_54 ?_
              refine vx_gr hC 3 (ot_0 hO) lf_X11_24 rfl (or_0_3 hO) eX11_streak_55 ?_
              refine vx_gl hC 2 (ot_15 hO) lf_X11_141 rfl eX11_streak_58 ?_
              refine vx_eql qg10_0 ?_
              refine vx_iload hC 5 rfl eX11_streak_61 ?_
              refine vx_callS_l hC (kX11_lowest G d _ _ _ _ _ _ _ _ (by omega) (by omega) (by omega)) ly_X11_145 rfl hRm (by omega) (Nat.le_of_ble_eq_true rfl) rfl eX11_streak_63 (fun x11 n9 t9 a9 b9 c9 hx11 => ?_)
              obtain ⟨hx11, rfl, rfl, rfl, rfl, rfl⟩ := hx11
              exact vx_lret hC hM eX11_streak_66 (⟨_, rfl, by unfold sp_streak; first | (rw [if_pos (by omega)]; simp only [hx9, hx11]; done) | (rw [if_neg (by omega)]; rfl), cq_ro hO hR (fun k hk => frvig10 k hk) (fun k hk => frvlg10 k (by omega))⟩)
            · refine vx_ldc2 hC (-9223372036854775808) wd_680 eX11_streak_36 ?_
              exact vx_lret hC hM eX11_streak_39 (⟨_, rfl, by unfold sp_streak; first | (rw [if_pos (by omega)]; simp only []; done) | (rw [if_neg (by omega)]; rfl), cq_ro hO hR (fun k hk => rfl) (fun k hk => rfl)⟩)
