theorem xcp_ag {N : Int} {f g F : Int → Int} (h : ag N f F) : ag N (xcp f g 0 0 N) F := by
  intro z z1 z2
  unfold xcp
  rw [if_pos (by omega), show 0 + (z - 0) = z by omega]
  exact h z z1 z2
theorem fu_ad {f : Int → Int} {z x : Int} (h : f z = 0) : fu f z x = ad f z x := by unfold ad; rw [h, Int.zero_add]
theorem th_in_s {s f : Int → Int} {p q m : Int} {c : Nat} {g : Int → Int} (h : ¬ (q = 0 ∨ q = s (18 + p))) : th_in s p f (c + 1) q g m = th_in s p f c (q + 1) (ad (ad g (q + ms_stake s p q) (ms_odds s p q (ms_stake s p q) * f q)) (q - ms_stake s p q) ((10 - ms_odds s p q (ms_stake s p q)) * f q)) (m + 10 * f q) := by rw [th_in, if_neg h]
theorem th_in_e {s f : Int → Int} {p q m : Int} {g : Int → Int} (h : q = 0 ∨ q = s (18 + p)) : th_in s p f 1 q g m = (ad g q (10 * f q), m) := by rw [th_in, if_pos h, th_in]
theorem th_1_s {s : Int → Int} {p M : Int} {F : Int → Int} (h : 1 ≤ s (18 + p)) : th_1 s p (F, M) = th_in s p F ((s (18 + p) - 1).toNat + 1) 1 (ad fz0 0 (10 * F 0)) (M * 10) := by
  unfold th_1
  rw [show (s (18 + p) + 1).toNat = ((s (18 + p) - 1).toNat + 1) + 1 by omega, th_in, if_pos (Or.inl rfl)]
  rfl
theorem ad_3 (g : Int → Int) (z x a b c d : Int) : ad (ad (ad g z x) a b) c d = ad (ad (ad g a b) c d) z x := by rw [ad_comm g z x a b, ad_comm (ad g a b) z x c d]
set_option maxHeartbeats 4000000 in
set_option maxRecDepth 100000 in
theorem kX2_spreadOnce (G : xg_T) (d : Nat) (n : Nat) (tau : Nat → Nat × Nat) (vi vl : Nat → Int → Int) (vr : Nat → Int → Option Nat) (hO : xo n tau vr) (s : Int → Int) (hW : ms_W s) (p : Int) (hp : 0 ≤ p ∧ p < s 0) (F : Int → Int) (M wy : Int) (hF : ag 13 (vl 16) F) (hM0 : vl 15 3 = M) (hwy : vl 15 2 = wy) (hst : ∀ z, 1 ≤ z → z < s (18 + p) → vi 19 z = ms_stake s p z ∧ vi 20 z = ms_odds s p z (ms_stake s p z)) : xm G yX2_spreadOnce cX2_spreadOnce 3 none (d + 2) 0 0 [xa_r 15, xa_i (s (18 + p))] n tau vi vl vr (xp_v (fun n1 t1 a1 b1 c1 => (ag 13 (b1 16) (th_1 s p (F, M)).1) ∧ (b1 15 3 = (th_1 s p (F, M)).2) ∧ (b1 15 2 = wy * 10) ∧ xs_F (fun k => ¬ k = 15 ∧ ¬ k = 16 ∧ ¬ k = 17) n tau vi vl vr n1 t1 a1 b1 c1)) := by
  refine xm.of (lv := [(0, xa_r 15), (1, xa_i (s (18 + p)))]) (by decide) (Nat.le_of_ble_eq_true rfl) rfl (fun K hC hM hRm => ?_)
  obtain ⟨g1, g2, g3, g4⟩ := hW.2.2.2.2.2.2.2.2.1 p hp.1 hp.2
  refine vx_aload_n hC 0 rfl eX2_spreadOnce_0 ?_
  refine vx_gr hC 1 (ot_15 hO) lf_X2_15 rfl (or_15_1 hO) eX2_spreadOnce_1 ?_
  refine vx_lconst hC 0 (by decide) eX2_spreadOnce_4 ?_
  refine vx_callS_v hC (kJ7_fill_d0a16 G d _ _ _ _ _ 17 13 (ot_17 hO) (by omega) 0) ly_X2_58 rfl hRm (by omega) (Nat.le_of_ble_eq_true rfl) rfl eX2_spreadOnce_5 (fun ng2 tg2 ag2 bg2 cg2 hg2 => ?_)
  obtain ⟨qg2_0, rfl, rfl, rfl, frg2⟩ := hg2
  have hg2_15_3 : bg2 15 3 = M := (congrFun (frg2 15 (by omega)).2 _).trans hM0
  have hg2_15_2 : bg2 15 2 = wy := (congrFun (frg2 15 (by omega)).2 _).trans hwy
  have hg2_16 : ag 13 (bg2 16) (F) := by rw [(frg2 16 (by omega)).2]; exact hF
  have frvig2 : ∀ k : Nat, (¬ k = 15 ∧ ¬ k = 16 ∧ ¬ k = 17) → ag2 k = vi k := fun k hk => (frg2 k (by omega)).1
  have frvlg2 : ∀ k : Nat, (¬ k = 15 ∧ ¬ k = 16 ∧ ¬ k = 17) → bg2 k = vl k := fun k hk => (frg2 k (by omega)).2
  refine vx_aload_n hC 0 rfl eX2_spreadOnce_8 ?_
  refine vx_gr hC 1 (ot_15 hO) lf_X2_15 rfl (or_15_1 hO) eX2_spreadOnce_9 ?_
  refine vx_iconst hC eX2_spreadOnce_12 ?_
  refine vx_aload_n hC 0 rfl eX2_spreadOnce_13 ?_
  refine vx_gr hC 0 (ot_15 hO) lf_X2_11 rfl (or_15_0 hO) eX2_spreadOnce_14 ?_
  refine vx_iconst hC eX2_spreadOnce_17 ?_
  refine vx_laload hC (ot_16 hO) (by omega) (by omega) eX2_spreadOnce_18 ?_
  refine vx_eql (hg2_16 _ (by omega) (by omega)) ?_
  refine vx_ldc2 hC (10) wd_694 eX2_spreadOnce_19 ?_
  refine vx_lmul hC eX2_spreadOnce_22 ?_
  refine vx_topl (fun x3 hx3 => ?_)
  refine vx_lastore hC (ot_17 hO) (by omega) (by omega) eX2_spreadOnce_23 ?_
  refine vx_vl (fun v4 hv4 => ?_)
  obtain ⟨f5, hf5⟩ : ∃ f, f = fu (fz0) 0 x3 := ⟨_, rfl⟩
  have hv4_17 : ag 13 (v4 17) f5 := by rw [hv4, xu_k, hf5]; exact ag_fu qg2_0
  have hv4_15_3 : v4 15 3 = M := by rw [hv4, xu_c _ _ _ _ (by decide), hg2_15_3]
  have hv4_15_2 : v4 15 2 = wy := by rw [hv4, xu_c _ _ _ _ (by decide), hg2_15_2]
  have hv4_16 : ag 13 (v4 16) (F) := by rw [hv4, xu_c _ _ _ _ (by decide)]; exact hg2_16
  have frv4 : ∀ k : Nat, (¬ k = 15 ∧ ¬ k = 16 ∧ ¬ k = 17) → v4 k = vl k := fun k hk => by rw [hv4, xu_c _ _ _ _ (by omega)]; exact frvlg2 k hk
  refine vx_aload_n hC 0 rfl eX2_spreadOnce_24 ?_
  refine vx_gr hC 1 (ot_15 hO) lf_X2_15 rfl (or_15_1 hO) eX2_spreadOnce_25 ?_
  refine vx_iload_n hC 1 rfl eX2_spreadOnce_28 ?_
  refine vx_aload_n hC 0 rfl eX2_spreadOnce_29 ?_
  refine vx_gr hC 0 (ot_15 hO) lf_X2_11 rfl (or_15_0 hO) eX2_spreadOnce_30 ?_
  refine vx_iload_n hC 1 rfl eX2_spreadOnce_33 ?_
  refine vx_laload hC (ot_16 hO) (by omega) (by omega) eX2_spreadOnce_34 ?_
  refine vx_eql (hv4_16 _ (by omega) (by omega)) ?_
  refine vx_ldc2 hC (10) wd_694 eX2_spreadOnce_35 ?_
  refine vx_lmul hC eX2_spreadOnce_38 ?_
  refine vx_topl (fun x6 hx6 => ?_)
  refine vx_lastore hC (ot_17 hO) (by omega) (by omega) eX2_spreadOnce_39 ?_
  refine vx_vl (fun v7 hv7 => ?_)
  obtain ⟨f8, hf8⟩ : ∃ f, f = fu (f5) (s (18 + p)) x6 := ⟨_, rfl⟩
  have hv7_17 : ag 13 (v7 17) f8 := by rw [hv7, xu_k, hf8]; exact ag_fu hv4_17
  have hv7_15_3 : v7 15 3 = M := by rw [hv7, xu_c _ _ _ _ (by decide), hv4_15_3]
  have hv7_15_2 : v7 15 2 = wy := by rw [hv7, xu_c _ _ _ _ (by decide), hv4_15_2]
  have hv7_16 : ag 13 (v7 16) (F) := by rw [hv7, xu_c _ _ _ _ (by decide)]; exact hv4_16
  have frv7 : ∀ k : Nat, (¬ k = 15 ∧ ¬ k = 16 ∧ ¬ k = 17) → v7 k = vl k := fun k hk => by rw [hv7, xu_c _ _ _ _ (by omega)]; exact frv4 k hk
  have hg0 : f8 = ad (ad fz0 0 (10 * F 0)) (s (18 + p)) (10 * F (s (18 + p))) := by
    rw [hf8, hf5]
    simp only [hx3, hx6]
    rw [fu_ad (f := fz0) (z := 0) rfl, fu_ad (by unfold ad; rw [fu_n _ _ _ (by omega)]; rfl), Int.mul_comm (F 0) 10, Int.mul_comm (F (s (18 + p))) 10]
  have ag0 : ag 13 (v7 17) (ad (ad fz0 0 (10 * F 0)) (s (18 + p)) (10 * F (s (18 + p)))) := by rw [← hg0]; exact hv7_17
  refine vx_iconst hC eX2_spreadOnce_40 ?_
  refine vx_istore_n hC (lv1 := [(2, xa_i 1), (0, xa_r 15), (1, xa_i (s (18 + p)))]) (by decide) rfl eX2_spreadOnce_41 ?_
  have LP42 : ∀ (j : Nat) (cq : Nat) (q : Int) (gm : Int → Int) (mm : Int) (m5 : Nat → Int → Int) (hcq : q + (cq : Int) = (s (18 + p)) ∧ 1 ≤ q) (hin : th_in s p F (cq + 1) q gm (mm * 10) = th_1 s p (F, M)) (aG : ag 13 (m5 17) (ad gm (s (18 + p)) (10 * F (s (18 + p))))) (aF : ag 13 (m5 16) F) (eM : m5 15 3 = mm) (eW : m5 15 2 = wy) (fl : ∀ k : Nat, (¬ k = 15 ∧ ¬ k = 16 ∧ ¬ k = 17) → m5 k = vl k) (hj : (cq : Int) < (j : Int)), xv G K 3 (xk_Q G K (xp_v (fun n1 t1 a1 b1 c1 => (ag 13 (b1 16) (th_1 s p (F, M)).1) ∧ (b1 15 3 = (th_1 s p (F, M)).2) ∧ (b1 15 2 = wy * 10) ∧ xs_F (fun k => ¬ k = 15 ∧ ¬ k = 16 ∧ ¬ k = 17) n tau vi vl vr n1 t1 a1 b1 c1)) 0 0) 0 0 n tau ag2 m5 vr 42 [(2, xa_i q), (0, xa_r 15), (1, xa_i (s (18 + p)))] [] := by
    intro j
    induction j with
    | zero => intro cq q gm mm m5 hcq hin aG aF eM eW fl hj; exfalso; omega
    | succ j ih =>
      intro cq q gm mm m5 hcq hin aG aF eM eW fl hj
      refine vx_iload_n hC 0 rfl eX2_spreadOnce_42 ?_
      refine vx_iload_n hC 2 rfl eX2_spreadOnce_43 ?_
      refine vx_icmp_ge hC (tgt := 131) (by omega) (by decide) eX2_spreadOnce_44 (fun c9 => ?_) (fun c9 => ?_)
      · have hin0 : th_1 s p (F, M) = (ad gm (s (18 + p)) (10 * F (s (18 + p))), mm * 10) := by rw [← hin, show cq = 0 by omega, show q = (s (18 + p)) by omega]; exact th_in_e (Or.inr rfl)
        refine vx_aload_n hC 1 rfl eX2_spreadOnce_131 ?_
        refine vx_dup hC rfl eX2_spreadOnce_132 ?_
        refine vx_gl hC 3 (ot_15 hO) lf_X2_74 rfl eX2_spreadOnce_133 ?_
        refine vx_eql eM ?_
        refine vx_ldc2 hC (10) wd_694 eX2_spreadOnce_136 ?_
        refine vx_lmul hC eX2_spreadOnce_139 ?_
        refine vx_topl (fun x10 hx10 => ?_)
        refine vx_pl hC 3 (ot_15 hO) lp_X2_74 rfl (Or.inl rfl) rfl eX2_spreadOnce_140 ?_
        refine vx_vl (fun v11 hv11 => ?_)
        have hv11_17 : ag 13 (v11 17) (ad gm (s (18 + p)) (10 * F (s (18 + p)))) := by rw [hv11, xu_c _ _ _ _ (by decide)]; exact aG
        have hv11_15_3 : v11 15 3 = x10 := by rw [hv11, xu_k, fu_s]
        have hv11_15_2 : v11 15 2 = wy := by rw [hv11, xu_k, fu_n _ _ _ (by decide), eW]
        have hv11_16 : ag 13 (v11 16) (F) := by rw [hv11, xu_c _ _ _ _ (by decide)]; exact aF
        have frv11 : ∀ k : Nat, (¬ k = 15 ∧ ¬ k = 16 ∧ ¬ k = 17) → v11 k = vl k := fun k hk => by rw [hv11, xu_c _ _ _ _ (by omega)]; exact fl k hk
        refine vx_aload_n hC 1 rfl eX2_spreadOnce_143 ?_
        refine vx_dup hC rfl eX2_spreadOnce_144 ?_
        refine vx_gl hC 2 (ot_15 hO) lf_X2_70 rfl eX2_spreadOnce_145 ?_
        refine vx_eql hv11_15_2 ?_
        refine vx_ldc2 hC (10) wd_694 eX2_spreadOnce_148 ?_
        refine vx_lmul hC eX2_spreadOnce_151 ?_
        refine vx_topl (fun x12 hx12 => ?_)
        refine vx_pl hC 2 (ot_15 hO) lp_X2_70 rfl (Or.inl rfl) rfl eX2_spreadOnce_152 ?_
        refine vx_vl (fun v13 hv13 => ?_)
        have hv13_17 : ag 13 (v13 17) (ad gm (s (18 + p)) (10 * F (s (18 + p)))) := by rw [hv13, xu_c _ _ _ _ (by decide)]; exact hv11_17
        have hv13_15_3 : v13 15 3 = x10 := by rw [hv13, xu_k, fu_n _ _ _ (by decide), hv11_15_3]
        have hv13_15_2 : v13 15 2 = x12 := by rw [hv13, xu_k, fu_s]
        have hv13_16 : ag 13 (v13 16) (F) := by rw [hv13, xu_c _ _ _ _ (by decide)]; exact hv11_16
        have frv13 : ∀ k : Nat, (¬ k = 15 ∧ ¬ k = 16 ∧ ¬ k = 17) → v13 k = vl k := fun k hk => by rw [hv13, xu_c _ _ _ _ (by omega)]; exact frv11 k hk
        refine vx_aload_n hC 1 rfl eX2_spreadOnce_155 ?_
        refine vx_gr hC 1 (ot_15 hO) lf_X2_15 rfl (or_15_1 hO) eX2_spreadOnce_156 ?_
        refine vx_iconst hC eX2_spreadOnce_159 ?_
        refine vx_aload_n hC 1 rfl eX2_spreadOnce_160 ?_
        refine vx_gr hC 0 (ot_15 hO) lf_X2_11 rfl (or_15_0 hO) eX2_spreadOnce_161 ?_
        refine vx_iconst hC eX2_spreadOnce_164 ?_
        refine vx_bipush hC (by decide) eX2_spreadOnce_165 ?_
        refine vx_copyJ hC (ot_17 hO) (ot_16 hO) (by decide) (by omega) ly_X2_83 hRm (by omega) (Nat.le_of_ble_eq_true rfl) eX2_spreadOnce_167 ?_
        refine vx_vl (fun v14 hv14 => ?_)
        have whv14_17 : v14 17 = v13 17 := by rw [hv14]; exact if_neg (by decide)
        have hv14_17 : ag 13 (v14 17) (ad gm (s (18 + p)) (10 * F (s (18 + p)))) := by rw [whv14_17]; exact hv13_17
        have whv14_15_3 : v14 15 = v13 15 := by rw [hv14]; exact if_neg (by decide)
        have hv14_15_3 : v14 15 3 = x10 := by rw [whv14_15_3]; exact hv13_15_3
        have whv14_15_2 : v14 15 = v13 15 := by rw [hv14]; exact if_neg (by decide)
        have hv14_15_2 : v14 15 2 = x12 := by rw [whv14_15_2]; exact hv13_15_2
        have whv14_16 : v14 16 = xcp (v13 17) (v13 16) 0 0 13 := by rw [hv14]; exact if_pos rfl
        have hv14_16 : ag 13 (v14 16) (ad gm (s (18 + p)) (10 * F (s (18 + p)))) := by rw [whv14_16]; exact xcp_ag hv13_17
        have frv14 : ∀ k : Nat, (¬ k = 15 ∧ ¬ k = 16 ∧ ¬ k = 17) → v14 k = vl k := fun k hk => by rw [hv14]; show (if k = 16 then _ else _) = _; rw [if_neg (by omega)]; exact frv13 k hk
        exact vx_vret hC hM eX2_spreadOnce_170 (⟨rfl, (by rw [hin0]; exact hv14_16), (by rw [hin0, hv14_15_3]; exact hx10), (by rw [hv14_15_2]; exact hx12), rfl, rfl, rfl, fun k hk => ⟨frvig2 k hk, frv14 k hk⟩⟩)
      · obtain ⟨cq1, rfl⟩ : ∃ cq1, cq = cq1 + 1 := ⟨cq - 1, by omega⟩
        have hs := ms_stake_r hW hp (q := q) (by omega)
        have ho := ms_od_r s p q (ms_stake s p q)
        obtain ⟨e19, e20⟩ := hst q (by omega) (by omega)
        have e19b : ag2 19 q = ms_stake s p q := by rw [frvig2 19 (by omega)]; exact e19
        have e20b : ag2 20 q = ms_odds s p q (ms_stake s p q) := by rw [frvig2 20 (by omega)]; exact e20
        refine vx_aload_n hC 1 rfl eX2_spreadOnce_47 ?_
        refine vx_gr hC 1 (ot_15 hO) lf_X2_15 rfl (or_15_1 hO) eX2_spreadOnce_48 ?_
        refine vx_iload_n hC 0 rfl eX2_spreadOnce_51 ?_
        refine vx_aload_n hC 1 rfl eX2_spreadOnce_52 ?_
        refine vx_gr hC 5 (ot_15 hO) lf_X2_22 rfl (or_15_5 hO) eX2_spreadOnce_53 ?_
        refine vx_iload_n hC 0 rfl eX2_spreadOnce_56 ?_
        refine vx_iaload hC (ot_19 hO) (by omega) (by omega) eX2_spreadOnce_57 ?_
        refine vx_eqi e19b ?_
        refine vx_iadd hC eX2_spreadOnce_58 ?_
        refine vx_dup2 hC rfl rfl eX2_spreadOnce_59 ?_
        refine vx_laload hC (ot_17 hO) (by omega) (by omega) eX2_spreadOnce_60 ?_
        refine vx_eql (aG _ (by omega) (by omega)) ?_
        refine vx_aload_n hC 1 rfl eX2_spreadOnce_61 ?_
        refine vx_gr hC 0 (ot_15 hO) lf_X2_11 rfl (or_15_0 hO) eX2_spreadOnce_62 ?_
        refine vx_iload_n hC 0 rfl eX2_spreadOnce_65 ?_
        refine vx_laload hC (ot_16 hO) (by omega) (by omega) eX2_spreadOnce_66 ?_
        refine vx_eql (aF _ (by omega) (by omega)) ?_
        refine vx_aload_n hC 1 rfl eX2_spreadOnce_67 ?_
        refine vx_gr hC 6 (ot_15 hO) lf_X2_25 rfl (or_15_6 hO) eX2_spreadOnce_68 ?_
        refine vx_iload_n hC 0 rfl eX2_spreadOnce_71 ?_
        refine vx_iaload hC (ot_20 hO) (by omega) (by omega) eX2_spreadOnce_72 ?_
        refine vx_eqi e20b ?_
        refine vx_i2l hC (by omega) eX2_spreadOnce_73 ?_
        refine vx_lmul hC eX2_spreadOnce_74 ?_
        refine vx_ladd hC eX2_spreadOnce_75 ?_
        refine vx_topl (fun x15 hx15 => ?_)
        refine vx_top2 (fun x16 hx16 => ?_)
        refine vx_lastore hC (ot_17 hO) (by omega) (by omega) eX2_spreadOnce_76 ?_
        refine vx_vl (fun v17 hv17 => ?_)
        obtain ⟨f18, hf18⟩ : ∃ f, f = fu (ad gm (s (18 + p)) (10 * F (s (18 + p)))) x16 x15 := ⟨_, rfl⟩
        have hv17_17 : ag 13 (v17 17) f18 := by rw [hv17, xu_k, hf18]; exact ag_fu aG
        have hv17_15_3 : v17 15 3 = mm := by rw [hv17, xu_c _ _ _ _ (by decide), eM]
        have hv17_15_2 : v17 15 2 = wy := by rw [hv17, xu_c _ _ _ _ (by decide), eW]
        have hv17_16 : ag 13 (v17 16) (F) := by rw [hv17, xu_c _ _ _ _ (by decide)]; exact aF
        have frv17 : ∀ k : Nat, (¬ k = 15 ∧ ¬ k = 16 ∧ ¬ k = 17) → v17 k = vl k := fun k hk => by rw [hv17, xu_c _ _ _ _ (by omega)]; exact fl k hk
        have hG1 : f18 = ad (ad gm (s (18 + p)) (10 * F (s (18 + p)))) (q + ms_stake s p q) (F q * ms_odds s p q (ms_stake s p q)) := by rw [hf18]; exact ad_eq (by first | rfl | (simp only [hx3, hx6, hx15, hx16])) (by simp only [hx3, hx6, hx15, hx16])
        refine vx_aload_n hC 1 rfl eX2_spreadOnce_77 ?_
        refine vx_gr hC 1 (ot_15 hO) lf_X2_15 rfl (or_15_1 hO) eX2_spreadOnce_78 ?_
        refine vx_iload_n hC 0 rfl eX2_spreadOnce_81 ?_
        refine vx_aload_n hC 1 rfl eX2_spreadOnce_82 ?_
        refine vx_gr hC 5 (ot_15 hO) lf_X2_22 rfl (or_15_5 hO) eX2_spreadOnce_83 ?_
        refine vx_iload_n hC 0 rfl eX2_spreadOnce_86 ?_
        refine vx_iaload hC (ot_19 hO) (by omega) (by omega) eX2_spreadOnce_87 ?_
        refine vx_eqi e19b ?_
        refine vx_isub hC eX2_spreadOnce_88 ?_
        refine vx_dup2 hC rfl rfl eX2_spreadOnce_89 ?_
        refine vx_laload hC (ot_17 hO) (by omega) (by omega) eX2_spreadOnce_90 ?_
        refine vx_eql (hv17_17 _ (by omega) (by omega)) ?_
        refine vx_aload_n hC 1 rfl eX2_spreadOnce_91 ?_
        refine vx_gr hC 0 (ot_15 hO) lf_X2_11 rfl (or_15_0 hO) eX2_spreadOnce_92 ?_
        refine vx_iload_n hC 0 rfl eX2_spreadOnce_95 ?_
        refine vx_laload hC (ot_16 hO) (by omega) (by omega) eX2_spreadOnce_96 ?_
        refine vx_eql (hv17_16 _ (by omega) (by omega)) ?_
        refine vx_bipush hC (by decide) eX2_spreadOnce_97 ?_
        refine vx_aload_n hC 1 rfl eX2_spreadOnce_99 ?_
        refine vx_gr hC 6 (ot_15 hO) lf_X2_25 rfl (or_15_6 hO) eX2_spreadOnce_100 ?_
        refine vx_iload_n hC 0 rfl eX2_spreadOnce_103 ?_
        refine vx_iaload hC (ot_20 hO) (by omega) (by omega) eX2_spreadOnce_104 ?_
        refine vx_eqi e20b ?_
        refine vx_isub hC eX2_spreadOnce_105 ?_
        refine vx_i2l hC (by omega) eX2_spreadOnce_106 ?_
        refine vx_lmul hC eX2_spreadOnce_107 ?_
        refine vx_ladd hC eX2_spreadOnce_108 ?_
        refine vx_topl (fun x19 hx19 => ?_)
        refine vx_top2 (fun x20 hx20 => ?_)
        refine vx_lastore hC (ot_17 hO) (by omega) (by omega) eX2_spreadOnce_109 ?_
        refine vx_vl (fun v21 hv21 => ?_)
        obtain ⟨f22, hf22⟩ : ∃ f, f = fu (f18) x20 x19 := ⟨_, rfl⟩
        have hv21_17 : ag 13 (v21 17) f22 := by rw [hv21, xu_k, hf22]; exact ag_fu hv17_17
        have hv21_15_3 : v21 15 3 = mm := by rw [hv21, xu_c _ _ _ _ (by decide), hv17_15_3]
        have hv21_15_2 : v21 15 2 = wy := by rw [hv21, xu_c _ _ _ _ (by decide), hv17_15_2]
        have hv21_16 : ag 13 (v21 16) (F) := by rw [hv21, xu_c _ _ _ _ (by decide)]; exact hv17_16
        have frv21 : ∀ k : Nat, (¬ k = 15 ∧ ¬ k = 16 ∧ ¬ k = 17) → v21 k = vl k := fun k hk => by rw [hv21, xu_c _ _ _ _ (by omega)]; exact frv17 k hk
        have hG2 : f22 = ad (ad (ad gm (q + ms_stake s p q) (ms_odds s p q (ms_stake s p q) * F q)) (q - ms_stake s p q) ((10 - ms_odds s p q (ms_stake s p q)) * F q)) (s (18 + p)) (10 * F (s (18 + p))) := by rw [hf22, ← ad_3, Int.mul_comm (ms_odds s p q (ms_stake s p q)) (F q), ← hG1, Int.mul_comm (10 - ms_odds s p q (ms_stake s p q)) (F q)]; exact ad_eq (by first | rfl | (simp only [hx3, hx6, hx15, hx16, hx19, hx20])) (by simp only [hx3, hx6, hx15, hx16, hx19, hx20])
        refine vx_aload_n hC 1 rfl eX2_spreadOnce_110 ?_
        refine vx_dup hC rfl eX2_spreadOnce_111 ?_
        refine vx_gl hC 3 (ot_15 hO) lf_X2_74 rfl eX2_spreadOnce_112 ?_
        refine vx_eql hv21_15_3 ?_
        refine vx_aload_n hC 1 rfl eX2_spreadOnce_115 ?_
        refine vx_gr hC 0 (ot_15 hO) lf_X2_11 rfl (or_15_0 hO) eX2_spreadOnce_116 ?_
        refine vx_iload_n hC 0 rfl eX2_spreadOnce_119 ?_
        refine vx_laload hC (ot_16 hO) (by omega) (by omega) eX2_spreadOnce_120 ?_
        refine vx_eql (hv21_16 _ (by omega) (by omega)) ?_
        refine vx_ladd hC eX2_spreadOnce_121 ?_
        refine vx_topl (fun x23 hx23 => ?_)
        refine vx_pl hC 3 (ot_15 hO) lp_X2_74 rfl (Or.inl rfl) rfl eX2_spreadOnce_122 ?_
        refine vx_vl (fun v24 hv24 => ?_)
        have hv24_17 : ag 13 (v24 17) (f22) := by rw [hv24, xu_c _ _ _ _ (by decide)]; exact hv21_17
        have hv24_15_3 : v24 15 3 = x23 := by rw [hv24, xu_k, fu_s]
        have hv24_15_2 : v24 15 2 = wy := by rw [hv24, xu_k, fu_n _ _ _ (by decide), hv21_15_2]
        have hv24_16 : ag 13 (v24 16) (F) := by rw [hv24, xu_c _ _ _ _ (by decide)]; exact hv21_16
        have frv24 : ∀ k : Nat, (¬ k = 15 ∧ ¬ k = 16 ∧ ¬ k = 17) → v24 k = vl k := fun k hk => by rw [hv24, xu_c _ _ _ _ (by omega)]; exact frv21 k hk
        refine vx_iinc hC (lv1 := [(2, xa_i (q + 1)), (0, xa_r 15), (1, xa_i (s (18 + p)))]) 0 rfl (by decide) rfl eX2_spreadOnce_125 ?_
        refine vx_goto hC (tgt := 42) (by decide) eX2_spreadOnce_128 ?_
        exact ih cq1 (q + 1) (ad (ad gm (q + ms_stake s p q) (ms_odds s p q (ms_stake s p q) * F q)) (q - ms_stake s p q) ((10 - ms_odds s p q (ms_stake s p q)) * F q)) x23 v24 (by omega) (by rw [← hin, th_in_s (c := cq1 + 1) (q := q) (g := gm) (by omega), hx23, show (mm + F q) * 10 = mm * 10 + 10 * F q by omega]) (by rw [← hG2]; exact hv24_17) hv24_16 hv24_15_3 hv24_15_2 frv24 (by omega)
  exact LP42 13 (s (18 + p) - 1).toNat 1 (ad fz0 0 (10 * F 0)) M v7 (by omega) (th_1_s (by omega)).symm ag0 hv7_16 hv7_15_3 hv7_15_2 frv7 (by omega)
set_option maxHeartbeats 4000000 in
set_option maxRecDepth 100000 in
theorem kX2_spread (G : xg_T) (d : Nat) (n : Nat) (tau : Nat → Nat × Nat) (vi vl : Nat → Int → Int) (vr : Nat → Int → Option Nat) (hO : xo n tau vr) (s : Int → Int) (hS : rp_S 1 s n tau vi vr) (hV : ms_V s) (p : Int) (hp : 0 ≤ p ∧ p < s 0) (kp : Nat) (hk : rp_P s p kp n tau vi) (nn : Int) (hnn : 0 ≤ nn ∧ nn ≤ 15) : xm G yX2_spread cX2_spread 5 none (d + 5) 0 0 [xa_r 15, xa_r 1, xa_r kp, xa_i nn] n tau vi vl vr (xp_v (fun n1 t1 a1 b1 c1 => (ag 13 (b1 16) (th_all s p nn).1) ∧ (b1 15 3 = (th_all s p nn).2) ∧ (b1 15 2 = (10 : Int) ^ nn.toNat) ∧ xs_F (fun k => ¬ k = 7 ∧ ¬ k = 15 ∧ ¬ k = 16 ∧ ¬ k = 17 ∧ ¬ k = 19 ∧ ¬ k = 20) n tau vi vl vr n1 t1 a1 b1 c1)) := by
  refine xm.of (lv := [(0, xa_r 15), (1, xa_r 1), (2, xa_r kp), (3, xa_i nn)]) (by decide) (Nat.le_of_ble_eq_true rfl) rfl (fun K hC hM hRm => ?_)
  obtain ⟨q1, q3, q7, q8, q9, q10, qt, qp, qr, qpl, qtb⟩ := id hS
  have hW : ms_W s := hV.1
  have h60 := hV.2
  obtain ⟨hr, h0, h1, h2, h3, h4, h5, h6, hp0, hrow, hwon, htape, htab⟩ := id hW
  obtain ⟨k1, k2, k3, k4, k5, k6⟩ := id hk
  obtain ⟨g1, g2, g3, g4⟩ := hp0 p hp.1 hp.2
  refine vx_iconst hC eX2_spread_0 ?_
  refine vx_istore hC (lv1 := [(4, xa_i 1), (0, xa_r 15), (1, xa_r 1), (2, xa_r kp), (3, xa_i nn)]) (by decide) rfl eX2_spread_1 ?_
  have LP3 : ∀ (j : Nat) (qq : Int) (m1 : Nat → Int → Int) (hqq : 1 ≤ qq ∧ qq ≤ s (18 + p)) (hst : (∀ z, 1 ≤ z → z < qq → m1 19 z = ms_stake s p z ∧ m1 20 z = ms_odds s p z (ms_stake s p z))) (fi : ∀ k : Nat, (¬ k = 7 ∧ ¬ k = 15 ∧ ¬ k = 16 ∧ ¬ k = 17 ∧ ¬ k = 19 ∧ ¬ k = 20) → m1 k = vi k) (hj : s (18 + p) - qq < (j : Int)), xv G K 5 (xk_Q G K (xp_v (fun n1 t1 a1 b1 c1 => (ag 13 (b1 16) (th_all s p nn).1) ∧ (b1 15 3 = (th_all s p nn).2) ∧ (b1 15 2 = (10 : Int) ^ nn.toNat) ∧ xs_F (fun k => ¬ k = 7 ∧ ¬ k = 15 ∧ ¬ k = 16 ∧ ¬ k = 17 ∧ ¬ k = 19 ∧ ¬ k = 20) n tau vi vl vr n1 t1 a1 b1 c1)) 0 0) 0 0 n tau m1 vl vr 3 [(4, xa_i qq), (0, xa_r 15), (1, xa_r 1), (2, xa_r kp), (3, xa_i nn)] [] := by
    intro j
    induction j with
    | zero => intro qq m1 hqq hst fi hj; exfalso; omega
    | succ j ih =>
      intro qq m1 hqq hst fi hj
      refine vx_iload hC 0 rfl eX2_spread_3 ?_
      refine vx_aload_n hC 3 rfl eX2_spread_5 ?_
      refine vx_gi hC 3 ⟨k1.2, k2⟩ (lf_X2_43 (xp_pn _)) rfl eX2_spread_6 ?_
      refine vx_eqi (show m1 kp 3 = _ from (congrFun (fi kp (by omega)) _).trans k6) ?_
      refine vx_icmp_ge hC (tgt := 53) (by omega) (by decide) eX2_spread_9 (fun c1 => ?_) (fun c1 => ?_)
      · replace hst : (∀ z, 1 ≤ z → z < s (18 + p) → m1 19 z = ms_stake s p z ∧ m1 20 z = ms_odds s p z (ms_stake s p z)) := fun z z1 z2 => hst z z1 (by omega)
        refine vx_aload_n hC 1 rfl eX2_spread_53 ?_
        refine vx_gr hC 0 (ot_15 hO) lf_X2_11 rfl (or_15_0 hO) eX2_spread_54 ?_
        refine vx_lconst hC 0 (by decide) eX2_spread_57 ?_
        refine vx_callS_v hC (kJ7_fill_d0a16 G (d + 3) _ _ _ _ _ 16 13 (ot_16 hO) (by omega) 0) ly_X2_58 rfl hRm (by omega) (Nat.le_of_ble_eq_true rfl) rfl eX2_spread_58 (fun ng3 tg3 ag3 bg3 cg3 hg3 => ?_)
        obtain ⟨qg3_0, rfl, rfl, rfl, frg3⟩ := hg3
        have hg3_kp_0 : ag3 kp 0 = s (10 + p) := (congrFun (frg3 kp (by omega)).1 _).trans (show m1 kp 0 = _ from (congrFun (fi kp (by omega)) _).trans k3)
        have hg3_kp_1 : ag3 kp 1 = p := (congrFun (frg3 kp (by omega)).1 _).trans (show m1 kp 1 = _ from (congrFun (fi kp (by omega)) _).trans k4)
        have hg3_kp_2 : ag3 kp 2 = s (14 + p) := (congrFun (frg3 kp (by omega)).1 _).trans (show m1 kp 2 = _ from (congrFun (fi kp (by omega)) _).trans k5)
        have hg3_kp_3 : ag3 kp 3 = s (18 + p) := (congrFun (frg3 kp (by omega)).1 _).trans (show m1 kp 3 = _ from (congrFun (fi kp (by omega)) _).trans k6)
        have hg3_19 : ag3 19 = m1 19 := (frg3 19 (by omega)).1
        have hg3_20 : ag3 20 = m1 20 := (frg3 20 (by omega)).1
        have hg3_15_3 : bg3 15 3 = vl 15 3 := (congrFun (frg3 15 (by omega)).2 _)
        have hg3_15_2 : bg3 15 2 = vl 15 2 := (congrFun (frg3 15 (by omega)).2 _)
        have frvig3 : ∀ k : Nat, (¬ k = 7 ∧ ¬ k = 15 ∧ ¬ k = 16 ∧ ¬ k = 17 ∧ ¬ k = 19 ∧ ¬ k = 20) → ag3 k = vi k := fun k hk => (frg3 k (by omega)).1.trans (fi k hk)
        have frvlg3 : ∀ k : Nat, (¬ k = 7 ∧ ¬ k = 15 ∧ ¬ k = 16 ∧ ¬ k = 17 ∧ ¬ k = 19 ∧ ¬ k = 20) → bg3 k = vl k := fun k hk => (frg3 k (by omega)).2
        refine vx_aload_n hC 1 rfl eX2_spread_61 ?_
        refine vx_gr hC 0 (ot_15 hO) lf_X2_11 rfl (or_15_0 hO) eX2_spread_62 ?_
        refine vx_aload_n hC 2 rfl eX2_spread_65 ?_
        refine vx_gr hC 5 (ot_1 hO) lf_X2_64 rfl (or_1_5 hO) eX2_spread_66 ?_
        refine vx_aload_n hC 3 rfl eX2_spread_69 ?_
        refine vx_gi hC 1 ⟨k1.2, k2⟩ (lf_X2_67 (xp_pn _)) rfl eX2_spread_70 ?_
        refine vx_eqi hg3_kp_1 ?_
        refine vx_iaload hC (ot_5 hO) (by omega) (by omega) eX2_spread_73 ?_
        refine vx_eqi (y := s (22 + p)) (by rw [frvig3 5 (by omega)]; exact qp p hp.1 hp.2) ?_
        refine vx_lconst hC 1 (by decide) eX2_spread_74 ?_
        refine vx_lastore hC (ot_16 hO) (by omega) (by omega) eX2_spread_75 ?_
        refine vx_vl (fun v4 hv4 => ?_)
        obtain ⟨f5, hf5⟩ : ∃ f, f = fu (fz0) (s (22 + p)) 1 := ⟨_, rfl⟩
        have hv4_16 : ag 13 (v4 16) f5 := by rw [hv4, xu_k, hf5]; exact ag_fu qg3_0
        have hv4_15_3 : v4 15 3 = vl 15 3 := by rw [hv4, xu_c _ _ _ _ (by decide), hg3_15_3]
        have hv4_15_2 : v4 15 2 = vl 15 2 := by rw [hv4, xu_c _ _ _ _ (by decide), hg3_15_2]
        have frv4 : ∀ k : Nat, (¬ k = 7 ∧ ¬ k = 15 ∧ ¬ k = 16 ∧ ¬ k = 17 ∧ ¬ k = 19 ∧ ¬ k = 20) → v4 k = vl k := fun k hk => by rw [hv4, xu_c _ _ _ _ (by omega)]; exact frvlg3 k hk
        have ag1 : ag 13 (v4 16) (th_0 s p) := by rw [show th_0 s p = f5 from by rw [hf5]; funext z; unfold th_0 fu fz0; rfl]; exact hv4_16
        refine vx_aload_n hC 1 rfl eX2_spread_76 ?_
        refine vx_lconst hC 1 (by decide) eX2_spread_77 ?_
        refine vx_pl hC 2 (ot_15 hO) lp_X2_70 rfl (Or.inl rfl) rfl eX2_spread_78 ?_
        refine vx_vl (fun v6 hv6 => ?_)
        have hv6_16 : ag 13 (v6 16) (th_0 s p) := by rw [hv6, xu_c _ _ _ _ (by decide)]; exact ag1
        have hv6_15_3 : v6 15 3 = vl 15 3 := by rw [hv6, xu_k, fu_n _ _ _ (by decide), hv4_15_3]
        have hv6_15_2 : v6 15 2 = 1 := by rw [hv6, xu_k, fu_s]
        have frv6 : ∀ k : Nat, (¬ k = 7 ∧ ¬ k = 15 ∧ ¬ k = 16 ∧ ¬ k = 17 ∧ ¬ k = 19 ∧ ¬ k = 20) → v6 k = vl k := fun k hk => by rw [hv6, xu_c _ _ _ _ (by omega)]; exact frv4 k hk
        refine vx_aload_n hC 1 rfl eX2_spread_81 ?_
        refine vx_lconst hC 0 (by decide) eX2_spread_82 ?_
        refine vx_pl hC 3 (ot_15 hO) lp_X2_74 rfl (Or.inl rfl) rfl eX2_spread_83 ?_
        refine vx_vl (fun v7 hv7 => ?_)
        have hv7_16 : ag 13 (v7 16) (th_0 s p) := by rw [hv7, xu_c _ _ _ _ (by decide)]; exact hv6_16
        have hv7_15_3 : v7 15 3 = 0 := by rw [hv7, xu_k, fu_s]
        have hv7_15_2 : v7 15 2 = 1 := by rw [hv7, xu_k, fu_n _ _ _ (by decide), hv6_15_2]
        have frv7 : ∀ k : Nat, (¬ k = 7 ∧ ¬ k = 15 ∧ ¬ k = 16 ∧ ¬ k = 17 ∧ ¬ k = 19 ∧ ¬ k = 20) → v7 k = vl k := fun k hk => by rw [hv7, xu_c _ _ _ _ (by omega)]; exact frv6 k hk
        have hst7 : (∀ z, 1 ≤ z → z < s (18 + p) → ag3 19 z = ms_stake s p z ∧ ag3 20 z = ms_odds s p z (ms_stake s p z)) := by first | exact hst | (intro z z1 z2; rw [hg3_19, hg3_20]; exact hst z z1 z2)
        refine vx_iconst hC eX2_spread_86 ?_
        refine vx_istore hC (lv1 := [(4, xa_i 0), (0, xa_r 15), (1, xa_r 1), (2, xa_r kp), (3, xa_i nn)]) (by decide) rfl eX2_spread_87 ?_
        have LP89 : ∀ (j : Nat) (cc : Nat) (tt : Nat) (F : Int → Int) (M : Int) (m3 : Nat → Int → Int) (m2 : Nat → Int → Int) (hcc : (tt : Int) + (cc : Int) = nn) (hrB : th_n s p cc (F, M) = th_all s p nn) (aF : ag 13 (m2 16) F) (eM : m2 15 3 = M) (eW : m2 15 2 = (10 : Int) ^ tt) (hst3 : (∀ z, 1 ≤ z → z < s (18 + p) → m3 19 z = ms_stake s p z ∧ m3 20 z = ms_odds s p z (ms_stake s p z))) (fi3 : ∀ k : Nat, (¬ k = 7 ∧ ¬ k = 15 ∧ ¬ k = 16 ∧ ¬ k = 17 ∧ ¬ k = 19 ∧ ¬ k = 20) → m3 k = vi k) (fl3 : ∀ k : Nat, (¬ k = 7 ∧ ¬ k = 15 ∧ ¬ k = 16 ∧ ¬ k = 17 ∧ ¬ k = 19 ∧ ¬ k = 20) → m2 k = vl k) (hj : (cc : Int) < (j : Int)), xv G K 5 (xk_Q G K (xp_v (fun n1 t1 a1 b1 c1 => (ag 13 (b1 16) (th_all s p nn).1) ∧ (b1 15 3 = (th_all s p nn).2) ∧ (b1 15 2 = (10 : Int) ^ nn.toNat) ∧ xs_F (fun k => ¬ k = 7 ∧ ¬ k = 15 ∧ ¬ k = 16 ∧ ¬ k = 17 ∧ ¬ k = 19 ∧ ¬ k = 20) n tau vi vl vr n1 t1 a1 b1 c1)) 0 0) 0 0 n tau m3 m2 vr 89 [(4, xa_i (tt : Int)), (0, xa_r 15), (1, xa_r 1), (2, xa_r kp), (3, xa_i nn)] [] := by
          intro j
          induction j with
          | zero => intro cc tt F M m3 m2 hcc hrB aF eM eW hst3 fi3 fl3 hj; exfalso; omega
          | succ j ihB =>
            intro cc tt F M m3 m2 hcc hrB aF eM eW hst3 fi3 fl3 hj
            refine vx_iload hC 0 rfl eX2_spread_89 ?_
            refine vx_iload_n hC 4 rfl eX2_spread_91 ?_
            refine vx_icmp_ge hC (tgt := 109) (by omega) (by decide) eX2_spread_92 (fun c8 => ?_) (fun c8 => ?_)
            · exact vx_vret hC hM eX2_spread_109 (⟨rfl, (by rw [← hrB, show cc = 0 by omega, th_n]; exact aF), (by rw [← hrB, show cc = 0 by omega, th_n]; exact eM), (by rw [eW, show nn.toNat = tt by omega]), rfl, rfl, rfl, fun k hk => ⟨fi3 k hk, fl3 k hk⟩⟩)
            · obtain ⟨cc1, rfl⟩ : ∃ cc1, cc = cc1 + 1 := ⟨cc - 1, by omega⟩
              refine vx_aload_n hC 1 rfl eX2_spread_95 ?_
              refine vx_aload_n hC 3 rfl eX2_spread_96 ?_
              refine vx_gi hC 3 ⟨k1.2, k2⟩ (lf_X2_43 (xp_pn _)) rfl eX2_spread_97 ?_
              refine vx_eqi (show m3 kp 3 = _ from (congrFun (fi3 kp (by omega)) _).trans k6) ?_
              refine vx_callV_v hC (kX2_spreadOnce G (d + 2) _ _ _ _ _ hO s hW p hp F M _ aF eM eW hst3) ly_X2_77 (ot_15 hO) rfl rfl rfl hRm (by omega) (Nat.le_of_ble_eq_true rfl) rfl eX2_spread_100 (fun ng10 tg10 ag10 bg10 cg10 hg10 => ?_)
              obtain ⟨qg10_0, qg10_1, qg10_2, rfl, rfl, rfl, frg10⟩ := hg10
              have hg10_kp_0 : ag10 kp 0 = s (10 + p) := (congrFun (frg10 kp (by omega)).1 _).trans (show m3 kp 0 = _ from (congrFun (fi3 kp (by omega)) _).trans k3)
              have hg10_kp_1 : ag10 kp 1 = p := (congrFun (frg10 kp (by omega)).1 _).trans (show m3 kp 1 = _ from (congrFun (fi3 kp (by omega)) _).trans k4)
              have hg10_kp_2 : ag10 kp 2 = s (14 + p) := (congrFun (frg10 kp (by omega)).1 _).trans (show m3 kp 2 = _ from (congrFun (fi3 kp (by omega)) _).trans k5)
              have hg10_kp_3 : ag10 kp 3 = s (18 + p) := (congrFun (frg10 kp (by omega)).1 _).trans (show m3 kp 3 = _ from (congrFun (fi3 kp (by omega)) _).trans k6)
              have hg10_19 : ag10 19 = m3 19 := (frg10 19 (by omega)).1
              have hg10_20 : ag10 20 = m3 20 := (frg10 20 (by omega)).1
              have qg10_1b : bg10 15 3 = (th_1 s p (F, M)).2 := by first | exact qg10_1 | rw [qg10_1, eM] | (rw [qg10_1]; exact eM)
              have qg10_2b : bg10 15 2 = (10 : Int) ^ tt * 10 := by first | exact qg10_2 | rw [qg10_2, eW] | (rw [qg10_2]; exact eW)
              have frvig10 : ∀ k : Nat, (¬ k = 7 ∧ ¬ k = 15 ∧ ¬ k = 16 ∧ ¬ k = 17 ∧ ¬ k = 19 ∧ ¬ k = 20) → ag10 k = vi k := fun k hk => (frg10 k (by omega)).1.trans (fi3 k hk)
              have frvlg10 : ∀ k : Nat, (¬ k = 7 ∧ ¬ k = 15 ∧ ¬ k = 16 ∧ ¬ k = 17 ∧ ¬ k = 19 ∧ ¬ k = 20) → bg10 k = vl k := fun k hk => (frg10 k (by omega)).2.trans (fl3 k hk)
              have hst8 : (∀ z, 1 ≤ z → z < s (18 + p) → ag10 19 z = ms_stake s p z ∧ ag10 20 z = ms_odds s p z (ms_stake s p z)) := fun z z1 z2 => by rw [(frg10 19 (by omega)).1, (frg10 20 (by omega)).1]; exact hst3 z z1 z2
              refine vx_iinc hC (lv1 := [(4, xa_i ((tt : Int) + 1)), (0, xa_r 15), (1, xa_r 1), (2, xa_r kp), (3, xa_i nn)]) 0 rfl (by decide) rfl eX2_spread_103 ?_
              refine vx_goto hC (tgt := 89) (by decide) eX2_spread_106 ?_
              exact ihB cc1 (tt + 1) (th_1 s p (F, M)).1 (th_1 s p (F, M)).2 ag10 bg10 (by omega) (by rw [← hrB, th_n]) qg10_0 qg10_1b (by rw [qg10_2b, Int.pow_succ]) hst8 frvig10 frvlg10 (by omega)
        exact LP89 16 nn.toNat 0 (th_0 s p) 0 ag3 v7 (by omega) rfl hv7_16 hv7_15_3 hv7_15_2 hst7 frvig3 frv7 (by omega)
      · refine vx_aload_n hC 1 rfl eX2_spread_12 ?_
        refine vx_gr hC 5 (ot_15 hO) lf_X2_22 rfl (or_15_5 hO) eX2_spread_13 ?_
        refine vx_iload hC 0 rfl eX2_spread_16 ?_
        refine vx_aload_n hC 2 rfl eX2_spread_18 ?_
        refine vx_aload_n hC 3 rfl eX2_spread_19 ?_
        refine vx_iload hC 0 rfl eX2_spread_20 ?_
        refine vx_callV_i hC (kX6_stake G d _ _ _ _ _ hO s (hS.fr (fun k hk => fi k (by omega)) (Nat.le_refl _) (fun _ _ => rfl) (fun _ _ => rfl)) hV p hp kp (hk.fr (fun k hk => fi k (by omega)) (Nat.le_refl _) (fun _ _ => rfl)) qq (by omega)) ly_X2_49 (ot_1 hO) rfl rfl rfl hRm (by omega) (Nat.le_of_ble_eq_true rfl) rfl eX2_spread_22 (fun x11 n9 t9 a9 b9 c9 hx11 => ?_)
        obtain ⟨hx11, rfl, rfl, rfl, rfl, rfl⟩ := hx11
        refine vx_iastore hC (ot_19 hO) (by omega) (by omega) eX2_spread_25 ?_
        refine vx_vi (fun v12 hv12 => ?_)
        have hv12_kp_0 : v12 kp 0 = s (10 + p) := by rw [hv12, xu_c _ _ _ _ (by omega), (show m1 kp 0 = _ from (congrFun (fi kp (by omega)) _).trans k3)]
        have hv12_kp_1 : v12 kp 1 = p := by rw [hv12, xu_c _ _ _ _ (by omega), (show m1 kp 1 = _ from (congrFun (fi kp (by omega)) _).trans k4)]
        have hv12_kp_2 : v12 kp 2 = s (14 + p) := by rw [hv12, xu_c _ _ _ _ (by omega), (show m1 kp 2 = _ from (congrFun (fi kp (by omega)) _).trans k5)]
        have hv12_kp_3 : v12 kp 3 = s (18 + p) := by rw [hv12, xu_c _ _ _ _ (by omega), (show m1 kp 3 = _ from (congrFun (fi kp (by omega)) _).trans k6)]
        obtain ⟨f13, hf13⟩ : ∃ f, f = fu (m1 19) qq x11 := ⟨_, rfl⟩
        have hv12_19 : v12 19 = f13 := by rw [hv12, hf13, xu_k]
        have hv12_20 : v12 20 = m1 20 := by rw [hv12, xu_c _ _ _ _ (by decide)]
        have frv12 : ∀ k : Nat, (¬ k = 7 ∧ ¬ k = 15 ∧ ¬ k = 16 ∧ ¬ k = 17 ∧ ¬ k = 19 ∧ ¬ k = 20) → v12 k = vi k := fun k hk => by rw [hv12, xu_c _ _ _ _ (by omega)]; exact fi k hk
        refine vx_aload_n hC 1 rfl eX2_spread_26 ?_
        refine vx_gr hC 6 (ot_15 hO) lf_X2_25 rfl (or_15_6 hO) eX2_spread_27 ?_
        refine vx_iload hC 0 rfl eX2_spread_30 ?_
        refine vx_aload_n hC 2 rfl eX2_spread_32 ?_
        refine vx_aload_n hC 3 rfl eX2_spread_33 ?_
        refine vx_iload hC 0 rfl eX2_spread_34 ?_
        refine vx_aload_n hC 1 rfl eX2_spread_36 ?_
        refine vx_gr hC 5 (ot_15 hO) lf_X2_22 rfl (or_15_5 hO) eX2_spread_37 ?_
        refine vx_iload hC 0 rfl eX2_spread_40 ?_
        refine vx_iaload hC (ot_19 hO) (by omega) (by omega) eX2_spread_42 ?_
        refine vx_eqi (congrFun hv12_19 _) ?_
        refine vx_eqi (y := x11) (by rw [hf13, fu_s]) ?_
        have hs9 := ms_stake_r hW hp (q := qq) (by omega)
        refine vx_callV_i hC (kX6_odds G d _ _ _ _ _ hO s (hS.fr (fun k hk => frv12 k (by omega)) (Nat.le_refl _) (fun _ _ => rfl) (fun _ _ => rfl)) hV p hp kp (hk.fr (fun k hk => frv12 k (by omega)) (Nat.le_refl _) (fun _ _ => rfl)) qq (by omega) x11 (by omega)) ly_X2_55 (ot_1 hO) rfl rfl rfl hRm (by omega) (Nat.le_of_ble_eq_true rfl) rfl eX2_spread_43 (fun x14 ng15 tg15 ag15 bg15 cg15 hg15 => ?_)
        obtain ⟨hx14, rfl, rfl, rfl, rfl, frg15⟩ := hg15
        have hg15_kp_0 : ag15 kp 0 = s (10 + p) := (congrFun (frg15 kp (by omega)) _).trans hv12_kp_0
        have hg15_kp_1 : ag15 kp 1 = p := (congrFun (frg15 kp (by omega)) _).trans hv12_kp_1
        have hg15_kp_2 : ag15 kp 2 = s (14 + p) := (congrFun (frg15 kp (by omega)) _).trans hv12_kp_2
        have hg15_kp_3 : ag15 kp 3 = s (18 + p) := (congrFun (frg15 kp (by omega)) _).trans hv12_kp_3
        have hg15_19 : ag15 19 = f13 := (frg15 19 (by omega)).trans hv12_19
        have hg15_20 : ag15 20 = m1 20 := (frg15 20 (by omega)).trans hv12_20
        have frvig15 : ∀ k : Nat, (¬ k = 7 ∧ ¬ k = 15 ∧ ¬ k = 16 ∧ ¬ k = 17 ∧ ¬ k = 19 ∧ ¬ k = 20) → ag15 k = vi k := fun k hk => (frg15 k (by omega)).trans (frv12 k hk)
        refine vx_iastore hC (ot_20 hO) (by omega) (by omega) eX2_spread_46 ?_
        refine vx_vi (fun v16 hv16 => ?_)
        have hv16_kp_0 : v16 kp 0 = s (10 + p) := by rw [hv16, xu_c _ _ _ _ (by omega), hg15_kp_0]
        have hv16_kp_1 : v16 kp 1 = p := by rw [hv16, xu_c _ _ _ _ (by omega), hg15_kp_1]
        have hv16_kp_2 : v16 kp 2 = s (14 + p) := by rw [hv16, xu_c _ _ _ _ (by omega), hg15_kp_2]
        have hv16_kp_3 : v16 kp 3 = s (18 + p) := by rw [hv16, xu_c _ _ _ _ (by omega), hg15_kp_3]
        have hv16_19 : v16 19 = f13 := by rw [hv16, xu_c _ _ _ _ (by decide), hg15_19]
        obtain ⟨f17, hf17⟩ : ∃ f, f = fu (m1 20) qq x14 := ⟨_, rfl⟩
        have hv16_20 : v16 20 = f17 := by rw [hv16, hf17, xu_k, hg15_20]
        have frv16 : ∀ k : Nat, (¬ k = 7 ∧ ¬ k = 15 ∧ ¬ k = 16 ∧ ¬ k = 17 ∧ ¬ k = 19 ∧ ¬ k = 20) → v16 k = vi k := fun k hk => by rw [hv16, xu_c _ _ _ _ (by omega)]; exact frvig15 k hk
        have hst9 : (∀ z, 1 ≤ z → z < qq + 1 → v16 19 z = ms_stake s p z ∧ v16 20 z = ms_odds s p z (ms_stake s p z)) := by
          intro z z1 z2
          by_cases e9 : z = qq
          · rw [e9, hv16_19, hf13, hv16_20, hf17, fu_s, fu_s]; exact ⟨by simp only [hx11, hx14], by simp only [hx11, hx14]⟩
          · rw [hv16_19, hf13, hv16_20, hf17, fu_n _ _ _ e9, fu_n _ _ _ e9]; exact hst z z1 (by omega)
        refine vx_iinc hC (lv1 := [(4, xa_i (qq + 1)), (0, xa_r 15), (1, xa_r 1), (2, xa_r kp), (3, xa_i nn)]) 0 rfl (by decide) rfl eX2_spread_47 ?_
        refine vx_goto hC (tgt := 3) (by decide) eX2_spread_50 ?_
        exact ih (qq + 1) v16 (by omega) hst9 frv16 (by omega)
  exact LP3 13 1 vi (by omega) (fun z z1 z2 => by omega) (fun _ _ => rfl) (by omega)
set_option maxHeartbeats 4000000 in
set_option maxRecDepth 100000 in
theorem kX11_within (G : xg_T) (d : Nat) (n : Nat) (tau : Nat → Nat × Nat) (vi vl : Nat → Int → Int) (vr : Nat → Int → Option Nat) (hO : xo n tau vr) (s im : Int → Int) (has ran : Int) (bod : Int → Int) (hR : RCl s im has ran bod n tau vi vr) (hV : ms_V s) (q m x pt : Int) (hq : -2147483648 ≤ q ∧ q < 2147483648) (hm : -2147483648 ≤ m ∧ m < 2147483648) (hx : -2147483648 ≤ x ∧ x < 2147483648) (hpt : -2147483648 ≤ pt ∧ pt < 2147483648) : xm G yX11_within cX11_within 6 (some .long) (d + 6) 0 0 [xa_r 0, xa_i q, xa_i m, xa_i x, xa_i pt] n tau vi vl vr (xp_l (fun z9 n1 t1 a1 b1 c1 => z9 = sp_within s q m x pt ∧ cq (s) (im) (has) (ran) (bod) n tau vi vl n1 t1 a1 b1 c1)) := by
  refine xm.of (lv := [(0, xa_r 0), (1, xa_i q), (2, xa_i m), (3, xa_i x), (4, xa_i pt)]) (by decide) (Nat.le_of_ble_eq_true rfl) rfl (fun K hC hM hRm => ?_)
  have hS : rp_S 1 s n tau vi vr := hR.1
  obtain ⟨q1, q3, q7, q8, q9, q10, qt, qp, qr, qpl, qtb⟩ := id hS
  have hW : ms_W s := hV.1
  have h60 := hV.2
  obtain ⟨hr, h0, h1, h2, h3, h4, h5, h6, hp0, hrow, hwon, htape, htab⟩ := id hW
  obtain ⟨-, R2, R3, R4, R5, R6, R7, R8, R9, R10⟩ := id hR
  refine vx_aload_n hC 0 rfl eX11_within_0 ?_
  refine vx_gr hC 0 (ot_0 hO) lf_X11_12 rfl (or_0_0 hO) eX11_within_1 ?_
  refine vx_iload_n hC 1 rfl eX11_within_4 ?_
  refine vx_callV_q hC (kX6_playerAt G (d + 4) _ _ _ _ _ hO s hS hV q (by omega)) ly_X11_93 (ot_1 hO) rfl rfl rfl hRm (by omega) (Nat.le_of_ble_eq_true rfl) rfl eX11_within_5 (fun r1 n9 t9 a9 b9 c9 hr1 => ?_)
  obtain ⟨hr1, rfl, rfl, rfl, rfl, rfl⟩ := hr1
  rcases hr1 with ⟨rfl, hno⟩ | ⟨kp, rfl, hyes, hkp⟩
  · refine vx_astore hC (lv1 := [(5, xa_n), (0, xa_r 0), (1, xa_i q), (2, xa_i m), (3, xa_i x), (4, xa_i pt)]) (by decide) rfl eX11_within_8 ?_
    refine vx_aload hC 0 rfl eX11_within_10 ?_
    refine vx_ifnull hC (tgt := 43) (by decide) eX11_within_12 (fun _ => ?_) (fun k h => by cases h)
    refine vx_ldc2 hC (-9223372036854775808) wd_680 eX11_within_43 ?_
    exact vx_lret hC hM eX11_within_46 (⟨_, rfl, by unfold sp_within; first | (rw [if_pos (by unfold ask; omega)]; simp only []; done) | (rw [if_neg (by unfold ask; omega)]; rfl), cq_ro hO hR (fun k hk => rfl) (fun k hk => rfl)⟩)
  · obtain ⟨k1, k2, k3, k4, k5, k6⟩ := id hkp
    obtain ⟨g1, g2, g3, g4⟩ := hp0 q (by omega) (by omega)
    refine vx_astore hC (lv1 := [(5, xa_r kp), (0, xa_r 0), (1, xa_i q), (2, xa_i m), (3, xa_i x), (4, xa_i pt)]) (by decide) rfl eX11_within_8 ?_
    refine vx_aload hC 0 rfl eX11_within_10 ?_
    refine vx_ifnull hC (tgt := 43) (by decide) eX11_within_12 (fun h => by cases h) (fun _ _ => ?_)
    refine vx_iload_n hC 3 rfl eX11_within_15 ?_
    refine vx_callS_i hC (kX11_isSpan G (d + 4) _ _ _ _ _ _ (by omega)) ly_X11_125 rfl hRm (by omega) (Nat.le_of_ble_eq_true rfl) rfl eX11_within_16 (fun x2 n9 t9 a9 b9 c9 hx2 => ?_)
    obtain ⟨hx2, rfl, rfl, rfl, rfl, rfl⟩ := hx2
    refine vx_if_eq hC (tgt := 43) (by omega) (by decide) eX11_within_19 (fun c3 => ?_) (fun c3 => ?_)
    · refine vx_ldc2 hC (-9223372036854775808) wd_680 eX11_within_43 ?_
      exact vx_lret hC hM eX11_within_46 (⟨_, rfl, by unfold sp_within; first | (rw [if_pos (by unfold ask; omega)]; simp only []; done) | (rw [if_neg (by unfold ask; omega)]; rfl), cq_ro hO hR (fun k hk => rfl) (fun k hk => rfl)⟩)
    · refine vx_iload_n hC 4 rfl eX11_within_22 ?_
      refine vx_if_lt hC (tgt := 43) (by omega) (by decide) eX11_within_23 (fun c4 => ?_) (fun c4 => ?_)
      · refine vx_ldc2 hC (-9223372036854775808) wd_680 eX11_within_43 ?_
        exact vx_lret hC hM eX11_within_46 (⟨_, rfl, by unfold sp_within; first | (rw [if_pos (by unfold ask; omega)]; simp only []; done) | (rw [if_neg (by unfold ask; omega)]; rfl), cq_ro hO hR (fun k hk => rfl) (fun k hk => rfl)⟩)
      · refine vx_iload_n hC 4 rfl eX11_within_26 ?_
        refine vx_aload hC 0 rfl eX11_within_27 ?_
        refine vx_gi hC 3 ⟨k1.2, k2⟩ (lf_X11_105 (xp_pn _)) rfl eX11_within_29 ?_
        refine vx_eqi k6 ?_
        refine vx_icmp_gt hC (tgt := 43) (by omega) (by decide) eX11_within_32 (fun c5 => ?_) (fun c5 => ?_)
        · refine vx_ldc2 hC (-9223372036854775808) wd_680 eX11_within_43 ?_
          exact vx_lret hC hM eX11_within_46 (⟨_, rfl, by unfold sp_within; first | (rw [if_pos (by unfold ask; omega)]; simp only []; done) | (rw [if_neg (by unfold ask; omega)]; rfl), cq_ro hO hR (fun k hk => rfl) (fun k hk => rfl)⟩)
        · refine vx_iload hC 5 rfl eX11_within_35 ?_
          refine vx_callS_i hC (kX11_isPart G (d + 4) _ _ _ _ _ _ (by omega)) ly_X11_128 rfl hRm (by omega) (Nat.le_of_ble_eq_true rfl) rfl eX11_within_37 (fun x6 n9 t9 a9 b9 c9 hx6 => ?_)
          obtain ⟨hx6, rfl, rfl, rfl, rfl, rfl⟩ := hx6
          refine vx_if_ne hC (tgt := 47) (by omega) (by decide) eX11_within_40 (fun c7 => ?_) (fun c7 => ?_)
          · refine vx_aload_n hC 1 rfl eX11_within_47 ?_
            refine vx_gr hC 3 (ot_0 hO) lf_X11_24 rfl (or_0_3 hO) eX11_within_48 ?_
            refine vx_aload_n hC 1 rfl eX11_within_51 ?_
            refine vx_gr hC 0 (ot_0 hO) lf_X11_12 rfl (or_0_0 hO) eX11_within_52 ?_
            refine vx_aload hC 0 rfl eX11_within_55 ?_
            refine vx_iload_n hC 3 rfl eX11_within_57 ?_
            refine vx_callV_v hC (kX2_spread G d _ _ _ _ _ hO s hS hV q (by omega) kp hkp m (by omega)) ly_X11_133 (ot_15 hO) rfl rfl rfl hRm (by omega) (Nat.le_of_ble_eq_true rfl) rfl eX11_within_58 (fun ng9 tg9 ag9 bg9 cg9 hg9 => ?_)
            obtain ⟨qg9_0, qg9_1, qg9_2, rfl, rfl, rfl, frg9⟩ := hg9
            have hg9_1_1 : ag9 1 1 = s 3 := (congrFun (frg9 1 (by omega)).1 _).trans q1
            have hg9_1_3 : ag9 1 3 = s 1 := (congrFun (frg9 1 (by omega)).1 _).trans q3
            have hg9_1_7 : ag9 1 7 = s 0 := (congrFun (frg9 1 (by omega)).1 _).trans q7
            have hg9_1_8 : ag9 1 8 = s 5 := (congrFun (frg9 1 (by omega)).1 _).trans q8
            have hg9_1_9 : ag9 1 9 = s 2 := (congrFun (frg9 1 (by omega)).1 _).trans q9
            have hg9_1_10 : ag9 1 10 = wb s (s 2).toNat := (congrFun (frg9 1 (by omega)).1 _).trans q10
            have hg9_2 : ag9 2 = vi 2 := (frg9 2 (by omega)).1
            have hg9_5 : ag9 5 = vi 5 := (frg9 5 (by omega)).1
            have hg9_6 : ag9 6 = vi 6 := (frg9 6 (by omega)).1
            have hg9_kp_0 : ag9 kp 0 = s (10 + q) := (congrFun (frg9 kp (by omega)).1 _).trans k3
            have hg9_kp_1 : ag9 kp 1 = q := (congrFun (frg9 kp (by omega)).1 _).trans k4
            have hg9_kp_2 : ag9 kp 2 = s (14 + q) := (congrFun (frg9 kp (by omega)).1 _).trans k5
            have hg9_kp_3 : ag9 kp 3 = s (18 + q) := (congrFun (frg9 kp (by omega)).1 _).trans k6
            have frvig9 : ∀ k : Nat, (k < 7 ∨ (8 ≤ k ∧ k < 14) ∨ 30 ≤ k) → ag9 k = vi k := fun k hk => (frg9 k (by omega)).1
            have frvlg9 : ∀ k : Nat, (k < 7 ∨ (8 ≤ k ∧ k < 14) ∨ 30 ≤ k) → bg9 k = vl k := fun k hk => (frg9 k (by omega)).2
            have hth : th_ok (m).toNat (th_all s q m) := by have := th_ok_n hW (p := q) (by omega) (m).toNat 0 _ (th_ok_0 s q); rwa [Nat.zero_add] at this
            have htr := th_ok_r (by omega) hth
            have ht10 := ten_le (t := (m).toNat) (by omega)
            refine vx_aload_n hC 1 rfl eX11_within_61 ?_
            refine vx_gr hC 3 (ot_0 hO) lf_X11_24 rfl (or_0_3 hO) eX11_within_62 ?_
            refine vx_gr hC 0 (ot_15 hO) lf_X11_137 rfl (or_15_0 hO) eX11_within_65 ?_
            refine vx_iload_n hC 4 rfl eX11_within_68 ?_
            refine vx_laload hC (ot_16 hO) (by omega) (by omega) eX11_within_69 ?_
            refine vx_eql (qg9_0 _ (by omega) (by omega)) ?_
            have hx9 := htr.1 x (by omega) (by omega)
            refine vx_aload_n hC 1 rfl eX11_within_70 ?_
            refine vx_gr hC 3 (ot_0 hO) lf_X11_24 rfl (or_0_3 hO) eX11_within_71 ?_
            refine vx_gl hC 2 (ot_15 hO) lf_X11_141 rfl eX11_within_74 ?_
            refine vx_eql qg9_2 ?_
            refine vx_iload hC 5 rfl eX11_within_77 ?_
            refine vx_callS_l hC (kX11_lowest G (d + 3) _ _ _ _ _ _ _ _ (by omega) (by omega) (by omega)) ly_X11_145 rfl hRm (by omega) (Nat.le_of_ble_eq_true rfl) rfl eX11_within_79 (fun x10 n9 t9 a9 b9 c9 hx10 => ?_)
            obtain ⟨hx10, rfl, rfl, rfl, rfl, rfl⟩ := hx10
            exact vx_lret hC hM eX11_within_82 (⟨_, rfl, by unfold sp_within; first | (rw [if_pos (by unfold ask; omega)]; simp only [hx10]; done) | (rw [if_neg (by unfold ask; omega)]; rfl), cq_ro hO hR (fun k hk => frvig9 k hk) (fun k hk => frvlg9 k (by omega))⟩)
          · refine vx_ldc2 hC (-9223372036854775808) wd_680 eX11_within_43 ?_
            exact vx_lret hC hM eX11_within_46 (⟨_, rfl, by unfold sp_within; first | (rw [if_pos (by unfold ask; omega)]; simp only []; done) | (rw [if_neg (by unfold ask; omega)]; rfl), cq_ro hO hR (fun k hk => rfl) (fun k hk => rfl)⟩)
set_option maxHeartbeats 4000000 in
set_option maxRecDepth 100000 in
theorem kX11_lasts (G : xg_T) (d : Nat) (n : Nat) (tau : Nat → Nat × Nat) (vi vl : Nat → Int → Int) (vr : Nat → Int → Option Nat) (hO : xo n tau vr) (s im : Int → Int) (has ran : Int) (bod : Int → Int) (hR : RCl s im has ran bod n tau vi vr) (hV : ms_V s) (q m pt : Int) (hq : -2147483648 ≤ q ∧ q < 2147483648) (hm : -2147483648 ≤ m ∧ m < 2147483648) (hpt : -2147483648 ≤ pt ∧ pt < 2147483648) : xm G yX11_lasts cX11_lasts 5 (some .long) (d + 6) 0 0 [xa_r 0, xa_i q, xa_i m, xa_i pt] n tau vi vl vr (xp_l (fun z9 n1 t1 a1 b1 c1 => z9 = sp_lasts s q m pt ∧ cq (s) (im) (has) (ran) (bod) n tau vi vl n1 t1 a1 b1 c1)) := by
  refine xm.of (lv := [(0, xa_r 0), (1, xa_i q), (2, xa_i m), (3, xa_i pt)]) (by decide) (Nat.le_of_ble_eq_true rfl) rfl (fun K hC hM hRm => ?_)
  have hS : rp_S 1 s n tau vi vr := hR.1
  obtain ⟨q1, q3, q7, q8, q9, q10, qt, qp, qr, qpl, qtb⟩ := id hS
  have hW : ms_W s := hV.1
  have h60 := hV.2
  obtain ⟨hr, h0, h1, h2, h3, h4, h5, h6, hp0, hrow, hwon, htape, htab⟩ := id hW
  obtain ⟨-, R2, R3, R4, R5, R6, R7, R8, R9, R10⟩ := id hR
  refine vx_aload_n hC 0 rfl eX11_lasts_0 ?_
  refine vx_gr hC 0 (ot_0 hO) lf_X11_12 rfl (or_0_0 hO) eX11_lasts_1 ?_
  refine vx_iload_n hC 1 rfl eX11_lasts_4 ?_
  refine vx_callV_q hC (kX6_playerAt G (d + 4) _ _ _ _ _ hO s hS hV q (by omega)) ly_X11_93 (ot_1 hO) rfl rfl rfl hRm (by omega) (Nat.le_of_ble_eq_true rfl) rfl eX11_lasts_5 (fun r1 n9 t9 a9 b9 c9 hr1 => ?_)
  obtain ⟨hr1, rfl, rfl, rfl, rfl, rfl⟩ := hr1
  rcases hr1 with ⟨rfl, hno⟩ | ⟨kp, rfl, hyes, hkp⟩
  · refine vx_astore hC (lv1 := [(4, xa_n), (0, xa_r 0), (1, xa_i q), (2, xa_i m), (3, xa_i pt)]) (by decide) rfl eX11_lasts_8 ?_
    refine vx_aload hC 0 rfl eX11_lasts_10 ?_
    refine vx_ifnull hC (tgt := 29) (by decide) eX11_lasts_12 (fun _ => ?_) (fun k h => by cases h)
    refine vx_ldc2 hC (-9223372036854775808) wd_680 eX11_lasts_29 ?_
    exact vx_lret hC hM eX11_lasts_32 (⟨_, rfl, by unfold sp_lasts; first | (rw [if_pos (by unfold ask; omega)]; simp only []; done) | (rw [if_neg (by unfold ask; omega)]; rfl), cq_ro hO hR (fun k hk => rfl) (fun k hk => rfl)⟩)
  · obtain ⟨k1, k2, k3, k4, k5, k6⟩ := id hkp
    obtain ⟨g1, g2, g3, g4⟩ := hp0 q (by omega) (by omega)
    refine vx_astore hC (lv1 := [(4, xa_r kp), (0, xa_r 0), (1, xa_i q), (2, xa_i m), (3, xa_i pt)]) (by decide) rfl eX11_lasts_8 ?_
    refine vx_aload hC 0 rfl eX11_lasts_10 ?_
    refine vx_ifnull hC (tgt := 29) (by decide) eX11_lasts_12 (fun h => by cases h) (fun _ _ => ?_)
    refine vx_iload_n hC 3 rfl eX11_lasts_15 ?_
    refine vx_callS_i hC (kX11_isSpan G (d + 4) _ _ _ _ _ _ (by omega)) ly_X11_125 rfl hRm (by omega) (Nat.le_of_ble_eq_true rfl) rfl eX11_lasts_16 (fun x2 n9 t9 a9 b9 c9 hx2 => ?_)
    obtain ⟨hx2, rfl, rfl, rfl, rfl, rfl⟩ := hx2
    refine vx_if_eq hC (tgt := 29) (by omega) (by decide) eX11_lasts_19 (fun c3 => ?_) (fun c3 => ?_)
    · refine vx_ldc2 hC (-9223372036854775808) wd_680 eX11_lasts_29 ?_
      exact vx_lret hC hM eX11_lasts_32 (⟨_, rfl, by unfold sp_lasts; first | (rw [if_pos (by unfold ask; omega)]; simp only []; done) | (rw [if_neg (by unfold ask; omega)]; rfl), cq_ro hO hR (fun k hk => rfl) (fun k hk => rfl)⟩)
    · refine vx_iload_n hC 4 rfl eX11_lasts_22 ?_
      refine vx_callS_i hC (kX11_isPart G (d + 4) _ _ _ _ _ _ (by omega)) ly_X11_128 rfl hRm (by omega) (Nat.le_of_ble_eq_true rfl) rfl eX11_lasts_23 (fun x4 n9 t9 a9 b9 c9 hx4 => ?_)
      obtain ⟨hx4, rfl, rfl, rfl, rfl, rfl⟩ := hx4
      refine vx_if_ne hC (tgt := 33) (by omega) (by decide) eX11_lasts_26 (fun c5 => ?_) (fun c5 => ?_)
      · refine vx_aload_n hC 1 rfl eX11_lasts_33 ?_
        refine vx_gr hC 3 (ot_0 hO) lf_X11_24 rfl (or_0_3 hO) eX11_lasts_34 ?_
        refine vx_aload_n hC 1 rfl eX11_lasts_37 ?_
        refine vx_gr hC 0 (ot_0 hO) lf_X11_12 rfl (or_0_0 hO) eX11_lasts_38 ?_
        refine vx_aload hC 0 rfl eX11_lasts_41 ?_
        refine vx_iload_n hC 3 rfl eX11_lasts_43 ?_
        refine vx_callV_v hC (kX2_spread G d _ _ _ _ _ hO s hS hV q (by omega) kp hkp m (by omega)) ly_X11_133 (ot_15 hO) rfl rfl rfl hRm (by omega) (Nat.le_of_ble_eq_true rfl) rfl eX11_lasts_44 (fun ng7 tg7 ag7 bg7 cg7 hg7 => ?_)
        obtain ⟨qg7_0, qg7_1, qg7_2, rfl, rfl, rfl, frg7⟩ := hg7
        have hg7_1_1 : ag7 1 1 = s 3 := (congrFun (frg7 1 (by omega)).1 _).trans q1
        have hg7_1_3 : ag7 1 3 = s 1 := (congrFun (frg7 1 (by omega)).1 _).trans q3
        have hg7_1_7 : ag7 1 7 = s 0 := (congrFun (frg7 1 (by omega)).1 _).trans q7
        have hg7_1_8 : ag7 1 8 = s 5 := (congrFun (frg7 1 (by omega)).1 _).trans q8
        have hg7_1_9 : ag7 1 9 = s 2 := (congrFun (frg7 1 (by omega)).1 _).trans q9
        have hg7_1_10 : ag7 1 10 = wb s (s 2).toNat := (congrFun (frg7 1 (by omega)).1 _).trans q10
        have hg7_2 : ag7 2 = vi 2 := (frg7 2 (by omega)).1
        have hg7_5 : ag7 5 = vi 5 := (frg7 5 (by omega)).1
        have hg7_6 : ag7 6 = vi 6 := (frg7 6 (by omega)).1
        have hg7_kp_0 : ag7 kp 0 = s (10 + q) := (congrFun (frg7 kp (by omega)).1 _).trans k3
        have hg7_kp_1 : ag7 kp 1 = q := (congrFun (frg7 kp (by omega)).1 _).trans k4
        have hg7_kp_2 : ag7 kp 2 = s (14 + q) := (congrFun (frg7 kp (by omega)).1 _).trans k5
        have hg7_kp_3 : ag7 kp 3 = s (18 + q) := (congrFun (frg7 kp (by omega)).1 _).trans k6
        have frvig7 : ∀ k : Nat, (k < 7 ∨ (8 ≤ k ∧ k < 14) ∨ 30 ≤ k) → ag7 k = vi k := fun k hk => (frg7 k (by omega)).1
        have frvlg7 : ∀ k : Nat, (k < 7 ∨ (8 ≤ k ∧ k < 14) ∨ 30 ≤ k) → bg7 k = vl k := fun k hk => (frg7 k (by omega)).2
        have hth : th_ok (m).toNat (th_all s q m) := by have := th_ok_n hW (p := q) (by omega) (m).toNat 0 _ (th_ok_0 s q); rwa [Nat.zero_add] at this
        have htr := th_ok_r (by omega) hth
        have ht10 := ten_le (t := (m).toNat) (by omega)
        refine vx_aload_n hC 1 rfl eX11_lasts_47 ?_
        refine vx_gr hC 3 (ot_0 hO) lf_X11_24 rfl (or_0_3 hO) eX11_lasts_48 ?_
        refine vx_gl hC 3 (ot_15 hO) lf_X11_149 rfl eX11_lasts_51 ?_
        refine vx_eql qg7_1 ?_
        refine vx_aload_n hC 1 rfl eX11_lasts_54 ?_
        refine vx_gr hC 3 (ot_0 hO) lf_X11_24 rfl (or_0_3 hO) eX11_lasts_55 ?_
        refine vx_gl hC 2 (ot_15 hO) lf_X11_141 rfl eX11_lasts_58 ?_
        refine vx_eql qg7_2 ?_
        refine vx_iload_n hC 4 rfl eX11_lasts_61 ?_
        refine vx_callS_l hC (kX11_lowest G (d + 3) _ _ _ _ _ _ _ _ (by omega) (by omega) (by omega)) ly_X11_145 rfl hRm (by omega) (Nat.le_of_ble_eq_true rfl) rfl eX11_lasts_62 (fun x8 n9 t9 a9 b9 c9 hx8 => ?_)
        obtain ⟨hx8, rfl, rfl, rfl, rfl, rfl⟩ := hx8
        exact vx_lret hC hM eX11_lasts_65 (⟨_, rfl, by unfold sp_lasts; first | (rw [if_pos (by unfold ask; omega)]; simp only [hx8]; done) | (rw [if_neg (by unfold ask; omega)]; rfl), cq_ro hO hR (fun k hk => frvig7 k hk) (fun k hk => frvlg7 k (by omega))⟩)
      · refine vx_ldc2 hC (-9223372036854775808) wd_680 eX11_lasts_29 ?_
        exact vx_lret hC hM eX11_lasts_32 (⟨_, rfl, by unfold sp_lasts; first | (rw [if_pos (by unfold ask; omega)]; simp only []; done) | (rw [if_neg (by unfold ask; omega)]; rfl), cq_ro hO hR (fun k hk => rfl) (fun k hk => rfl)⟩)
theorem mn_sum_z {f : Int → Int} : ∀ (c : Nat) (q : Int), (∀ z, q ≤ z → z < q + (c : Int) → f z = 0) → mn_sum f q c = 0
  | 0, _, _ => rfl
  | c + 1, q, h => by rw [mn_sum, h q (by omega) (by omega), mn_sum_z c (q + 1) (fun z z1 z2 => h z (by omega) (by omega)), Int.mul_zero]; rfl
theorem mn_split {f : Int → Int} : ∀ (c d : Nat) (q : Int), mn_sum f q (c + d) = mn_sum f q c + mn_sum f (q + (c : Int)) d
  | 0, d, q => by rw [Nat.zero_add, mn_sum, show q + ((0 : Nat) : Int) = q by omega]; omega
  | c + 1, d, q => by
    rw [show c + 1 + d = (c + d) + 1 by omega, mn_sum, mn_sum, mn_split c d (q + 1), show q + 1 + (c : Int) = q + ((c + 1 : Nat) : Int) by omega]
    omega
theorem th_in_hi {s f : Int → Int} (hW : ms_W s) {p : Int} (hp : 0 ≤ p ∧ p < s 0) : ∀ (c : Nat) (q : Int) (g : Int → Int) (m : Int), q + (c : Int) = s (18 + p) + 1 → 0 ≤ q → (∀ z, s (18 + p) < z → g z = 0) → ∀ z, s (18 + p) < z → (th_in s p f c q g m).1 z = 0
  | 0, q, g, m, hc, hq, hg => by rw [th_in]; exact hg
  | c + 1, q, g, m, hc, hq, hg => by
    rw [th_in]
    split
    · next e => exact th_in_hi hW hp c (q + 1) _ m (by omega) (by omega) (fun z hz => by unfold ad; rw [fu_n _ _ _ (by omega)]; exact hg z hz)
    · next e =>
      have hs := ms_stake_r hW hp (q := q) (by omega)
      exact th_in_hi hW hp c (q + 1) _ _ (by omega) (by omega) (fun z hz => by unfold ad; rw [fu_n _ _ _ (by omega), fu_n _ _ _ (by omega)]; exact hg z hz)
theorem th_n_hi {s : Int → Int} (hW : ms_W s) {p : Int} (hp : 0 ≤ p ∧ p < s 0) : ∀ (c : Nat) (z : th_T), (∀ w, s (18 + p) < w → z.1 w = 0) → ∀ w, s (18 + p) < w → (th_n s p c z).1 w = 0
  | 0, z, h => h
  | c + 1, z, h => by
    have hgo := (hW.2.2.2.2.2.2.2.2.1 p hp.1 hp.2).2.2.1
    rw [th_n]
    exact th_n_hi hW hp c _ (fun w hw => by unfold th_1; exact th_in_hi hW hp _ 0 fz0 _ (by omega) (by omega) (fun _ _ => rfl) w hw)
theorem mn_goal {s : Int → Int} (hW : ms_W s) {p n : Int} (hp : 0 ≤ p ∧ p < s 0) : mn_sum (th_all s p n).1 0 13 = mn_sum (th_all s p n).1 1 (s (18 + p)).toNat := by
  obtain ⟨g1, g2, g3, g4⟩ := hW.2.2.2.2.2.2.2.2.1 p hp.1 hp.2
  have h1 : mn_sum (th_all s p n).1 0 13 = mn_sum (th_all s p n).1 1 12 := by
    show 0 * (th_all s p n).1 0 + mn_sum (th_all s p n).1 (0 + 1) 12 = _
    rw [Int.zero_mul, Int.zero_add]; rfl
  have h2 := mn_split (f := (th_all s p n).1) (s (18 + p)).toNat (12 - (s (18 + p)).toNat) 1
  rw [show (s (18 + p)).toNat + (12 - (s (18 + p)).toNat) = 12 by omega] at h2
  have h3 := mn_sum_z (f := (th_all s p n).1) (12 - (s (18 + p)).toNat) (1 + ((s (18 + p)).toNat : Int)) (fun z z1 z2 => th_n_hi hW hp n.toNat (th_0 s p, 0) (fun w hw => by show th_0 s p w = 0; unfold th_0; rw [if_neg (by omega)]) z (by omega))
  omega
set_option maxHeartbeats 4000000 in
set_option maxRecDepth 100000 in
theorem kX2_pennies (G : xg_T) (d : Nat) (n : Nat) (tau : Nat → Nat × Nat) (vi vl : Nat → Int → Int) (vr : Nat → Int → Option Nat) (hO : xo n tau vr) (F : Int → Int) (hF : ag 13 (vl 16) F) (g : Int) (hg : 0 ≤ g ∧ g ≤ 12) : xm G yX2_pennies cX2_pennies 5 (some .long) (d + 1) 0 0 [xa_r 15, xa_i g] n tau vi vl vr (xp_l (fun z9 n1 t1 a1 b1 c1 => z9 = mn_sum F 1 g.toNat ∧ xs_0 n tau vi vl vr n1 t1 a1 b1 c1)) := by
  refine xm.of (lv := [(0, xa_r 15), (1, xa_i g)]) (by decide) (Nat.le_of_ble_eq_true rfl) rfl (fun K hC hM hRm => ?_)
  refine vx_lconst hC 0 (by decide) eX2_pennies_0 ?_
  refine vx_lstore_n hC (lv1 := [(2, xa_l 0), (0, xa_r 15), (1, xa_i g)]) (by decide) rfl eX2_pennies_1 ?_
  refine vx_iconst hC eX2_pennies_2 ?_
  refine vx_istore hC (lv1 := [(4, xa_i 1), (2, xa_l 0), (0, xa_r 15), (1, xa_i g)]) (by decide) rfl eX2_pennies_3 ?_
  have LP5 : ∀ (j : Nat) (cq : Nat) (kk : Int) (su : Int) (hcq : kk + (cq : Int) = g + 1 ∧ 1 ≤ kk) (hres : su + mn_sum F kk cq = mn_sum F 1 g.toNat) (hj : (cq : Int) < (j : Int)), xv G K 5 (xk_Q G K (xp_l (fun z9 n1 t1 a1 b1 c1 => z9 = mn_sum F 1 g.toNat ∧ xs_0 n tau vi vl vr n1 t1 a1 b1 c1)) 0 0) 0 0 n tau vi vl vr 5 [(4, xa_i kk), (2, xa_l su), (0, xa_r 15), (1, xa_i g)] [] := by
    intro j
    induction j with
    | zero => intro cq kk su hcq hres hj; exfalso; omega
    | succ j ih =>
      intro cq kk su hcq hres hj
      refine vx_iload hC 0 rfl eX2_pennies_5 ?_
      refine vx_iload_n hC 3 rfl eX2_pennies_7 ?_
      refine vx_icmp_gt hC (tgt := 31) (by omega) (by decide) eX2_pennies_8 (fun c1 => ?_) (fun c1 => ?_)
      · refine vx_lload_n hC 1 rfl eX2_pennies_31 ?_
        exact vx_lret hC hM eX2_pennies_32 (⟨_, rfl, by rw [← hres, show cq = 0 by omega]; exact (Int.add_zero _).symm, xs_0.rf _ _ _ _ _⟩)
      · obtain ⟨cq1, rfl⟩ : ∃ cq1, cq = cq1 + 1 := ⟨cq - 1, by omega⟩
        refine vx_lload_n hC 1 rfl eX2_pennies_11 ?_
        refine vx_iload hC 0 rfl eX2_pennies_12 ?_
        refine vx_i2l hC (by omega) eX2_pennies_14 ?_
        refine vx_aload_n hC 2 rfl eX2_pennies_15 ?_
        refine vx_gr hC 0 (ot_15 hO) lf_X2_11 rfl (or_15_0 hO) eX2_pennies_16 ?_
        refine vx_iload hC 0 rfl eX2_pennies_19 ?_
        refine vx_laload hC (ot_16 hO) (by omega) (by omega) eX2_pennies_21 ?_
        refine vx_eql (hF _ (by omega) (by omega)) ?_
        refine vx_lmul hC eX2_pennies_22 ?_
        refine vx_ladd hC eX2_pennies_23 ?_
        refine vx_topl (fun x2 hx2 => ?_)
        refine vx_lstore_n hC (lv1 := [(2, xa_l x2), (4, xa_i kk), (0, xa_r 15), (1, xa_i g)]) (by decide) rfl eX2_pennies_24 ?_
        refine vx_iinc hC (lv1 := [(4, xa_i (kk + 1)), (2, xa_l x2), (0, xa_r 15), (1, xa_i g)]) 1 rfl (by decide) rfl eX2_pennies_25 ?_
        refine vx_goto hC (tgt := 5) (by decide) eX2_pennies_28 ?_
        exact ih cq1 (kk + 1) x2 (by omega) (by rw [← hres, mn_sum, hx2]; omega) (by omega)
  exact LP5 13 g.toNat 1 0 (by omega) (Int.zero_add _) (by omega)
set_option maxHeartbeats 4000000 in
set_option maxRecDepth 100000 in
theorem kX11_mean (G : xg_T) (d : Nat) (n : Nat) (tau : Nat → Nat × Nat) (vi vl : Nat → Int → Int) (vr : Nat → Int → Option Nat) (hO : xo n tau vr) (s im : Int → Int) (has ran : Int) (bod : Int → Int) (hR : RCl s im has ran bod n tau vi vr) (hV : ms_V s) (q m pt : Int) (hq : -2147483648 ≤ q ∧ q < 2147483648) (hm : -2147483648 ≤ m ∧ m < 2147483648) (hpt : -2147483648 ≤ pt ∧ pt < 2147483648) : xm G yX11_mean cX11_mean 5 (some .long) (d + 6) 0 0 [xa_r 0, xa_i q, xa_i m, xa_i pt] n tau vi vl vr (xp_l (fun z9 n1 t1 a1 b1 c1 => z9 = sp_mean s q m pt ∧ cq (s) (im) (has) (ran) (bod) n tau vi vl n1 t1 a1 b1 c1)) := by
  refine xm.of (lv := [(0, xa_r 0), (1, xa_i q), (2, xa_i m), (3, xa_i pt)]) (by decide) (Nat.le_of_ble_eq_true rfl) rfl (fun K hC hM hRm => ?_)
  have hS : rp_S 1 s n tau vi vr := hR.1
  obtain ⟨q1, q3, q7, q8, q9, q10, qt, qp, qr, qpl, qtb⟩ := id hS
  have hW : ms_W s := hV.1
  have h60 := hV.2
  obtain ⟨hr, h0, h1, h2, h3, h4, h5, h6, hp0, hrow, hwon, htape, htab⟩ := id hW
  obtain ⟨-, R2, R3, R4, R5, R6, R7, R8, R9, R10⟩ := id hR
  refine vx_aload_n hC 0 rfl eX11_mean_0 ?_
  refine vx_gr hC 0 (ot_0 hO) lf_X11_12 rfl (or_0_0 hO) eX11_mean_1 ?_
  refine vx_iload_n hC 1 rfl eX11_mean_4 ?_
  refine vx_callV_q hC (kX6_playerAt G (d + 4) _ _ _ _ _ hO s hS hV q (by omega)) ly_X11_93 (ot_1 hO) rfl rfl rfl hRm (by omega) (Nat.le_of_ble_eq_true rfl) rfl eX11_mean_5 (fun r1 n9 t9 a9 b9 c9 hr1 => ?_)
  obtain ⟨hr1, rfl, rfl, rfl, rfl, rfl⟩ := hr1
  rcases hr1 with ⟨rfl, hno⟩ | ⟨kp, rfl, hyes, hkp⟩
  · refine vx_astore hC (lv1 := [(4, xa_n), (0, xa_r 0), (1, xa_i q), (2, xa_i m), (3, xa_i pt)]) (by decide) rfl eX11_mean_8 ?_
    refine vx_aload hC 0 rfl eX11_mean_10 ?_
    refine vx_ifnull hC (tgt := 29) (by decide) eX11_mean_12 (fun _ => ?_) (fun k h => by cases h)
    refine vx_ldc2 hC (-9223372036854775808) wd_680 eX11_mean_29 ?_
    exact vx_lret hC hM eX11_mean_32 (⟨_, rfl, by unfold sp_mean; first | (rw [if_pos (by unfold ask; omega)]; simp only []; done) | (rw [if_neg (by unfold ask; omega)]; rfl), cq_ro hO hR (fun k hk => rfl) (fun k hk => rfl)⟩)
  · obtain ⟨k1, k2, k3, k4, k5, k6⟩ := id hkp
    obtain ⟨g1, g2, g3, g4⟩ := hp0 q (by omega) (by omega)
    refine vx_astore hC (lv1 := [(4, xa_r kp), (0, xa_r 0), (1, xa_i q), (2, xa_i m), (3, xa_i pt)]) (by decide) rfl eX11_mean_8 ?_
    refine vx_aload hC 0 rfl eX11_mean_10 ?_
    refine vx_ifnull hC (tgt := 29) (by decide) eX11_mean_12 (fun h => by cases h) (fun _ _ => ?_)
    refine vx_iload_n hC 3 rfl eX11_mean_15 ?_
    refine vx_callS_i hC (kX11_isSpan G (d + 4) _ _ _ _ _ _ (by omega)) ly_X11_125 rfl hRm (by omega) (Nat.le_of_ble_eq_true rfl) rfl eX11_mean_16 (fun x2 n9 t9 a9 b9 c9 hx2 => ?_)
    obtain ⟨hx2, rfl, rfl, rfl, rfl, rfl⟩ := hx2
    refine vx_if_eq hC (tgt := 29) (by omega) (by decide) eX11_mean_19 (fun c3 => ?_) (fun c3 => ?_)
    · refine vx_ldc2 hC (-9223372036854775808) wd_680 eX11_mean_29 ?_
      exact vx_lret hC hM eX11_mean_32 (⟨_, rfl, by unfold sp_mean; first | (rw [if_pos (by unfold ask; omega)]; simp only []; done) | (rw [if_neg (by unfold ask; omega)]; rfl), cq_ro hO hR (fun k hk => rfl) (fun k hk => rfl)⟩)
    · refine vx_iload_n hC 4 rfl eX11_mean_22 ?_
      refine vx_callS_i hC (kX11_isPart G (d + 4) _ _ _ _ _ _ (by omega)) ly_X11_128 rfl hRm (by omega) (Nat.le_of_ble_eq_true rfl) rfl eX11_mean_23 (fun x4 n9 t9 a9 b9 c9 hx4 => ?_)
      obtain ⟨hx4, rfl, rfl, rfl, rfl, rfl⟩ := hx4
      refine vx_if_ne hC (tgt := 33) (by omega) (by decide) eX11_mean_26 (fun c5 => ?_) (fun c5 => ?_)
      · refine vx_aload_n hC 1 rfl eX11_mean_33 ?_
        refine vx_gr hC 3 (ot_0 hO) lf_X11_24 rfl (or_0_3 hO) eX11_mean_34 ?_
        refine vx_aload_n hC 1 rfl eX11_mean_37 ?_
        refine vx_gr hC 0 (ot_0 hO) lf_X11_12 rfl (or_0_0 hO) eX11_mean_38 ?_
        refine vx_aload hC 0 rfl eX11_mean_41 ?_
        refine vx_iload_n hC 3 rfl eX11_mean_43 ?_
        refine vx_callV_v hC (kX2_spread G d _ _ _ _ _ hO s hS hV q (by omega) kp hkp m (by omega)) ly_X11_133 (ot_15 hO) rfl rfl rfl hRm (by omega) (Nat.le_of_ble_eq_true rfl) rfl eX11_mean_44 (fun ng7 tg7 ag7 bg7 cg7 hg7 => ?_)
        obtain ⟨qg7_0, qg7_1, qg7_2, rfl, rfl, rfl, frg7⟩ := hg7
        have hg7_1_1 : ag7 1 1 = s 3 := (congrFun (frg7 1 (by omega)).1 _).trans q1
        have hg7_1_3 : ag7 1 3 = s 1 := (congrFun (frg7 1 (by omega)).1 _).trans q3
        have hg7_1_7 : ag7 1 7 = s 0 := (congrFun (frg7 1 (by omega)).1 _).trans q7
        have hg7_1_8 : ag7 1 8 = s 5 := (congrFun (frg7 1 (by omega)).1 _).trans q8
        have hg7_1_9 : ag7 1 9 = s 2 := (congrFun (frg7 1 (by omega)).1 _).trans q9
        have hg7_1_10 : ag7 1 10 = wb s (s 2).toNat := (congrFun (frg7 1 (by omega)).1 _).trans q10
        have hg7_2 : ag7 2 = vi 2 := (frg7 2 (by omega)).1
        have hg7_5 : ag7 5 = vi 5 := (frg7 5 (by omega)).1
        have hg7_6 : ag7 6 = vi 6 := (frg7 6 (by omega)).1
        have hg7_kp_0 : ag7 kp 0 = s (10 + q) := (congrFun (frg7 kp (by omega)).1 _).trans k3
        have hg7_kp_1 : ag7 kp 1 = q := (congrFun (frg7 kp (by omega)).1 _).trans k4
        have hg7_kp_2 : ag7 kp 2 = s (14 + q) := (congrFun (frg7 kp (by omega)).1 _).trans k5
        have hg7_kp_3 : ag7 kp 3 = s (18 + q) := (congrFun (frg7 kp (by omega)).1 _).trans k6
        have frvig7 : ∀ k : Nat, (k < 7 ∨ (8 ≤ k ∧ k < 14) ∨ 30 ≤ k) → ag7 k = vi k := fun k hk => (frg7 k (by omega)).1
        have frvlg7 : ∀ k : Nat, (k < 7 ∨ (8 ≤ k ∧ k < 14) ∨ 30 ≤ k) → bg7 k = vl k := fun k hk => (frg7 k (by omega)).2
        have hth : th_ok (m).toNat (th_all s q m) := by have := th_ok_n hW (p := q) (by omega) (m).toNat 0 _ (th_ok_0 s q); rwa [Nat.zero_add] at this
        have htr := th_ok_r (by omega) hth
        have ht10 := ten_le (t := (m).toNat) (by omega)
        refine vx_aload_n hC 1 rfl eX11_mean_47 ?_
        refine vx_gr hC 3 (ot_0 hO) lf_X11_24 rfl (or_0_3 hO) eX11_mean_48 ?_
        refine vx_aload hC 0 rfl eX11_mean_51 ?_
        refine vx_gi hC 3 ⟨k1.2, k2⟩ (lf_X11_105 (xp_pn _)) rfl eX11_mean_53 ?_
        refine vx_eqi hg7_kp_3 ?_
        refine vx_callV_l hC (kX2_pennies G (d + 4) _ _ _ _ _ hO _ qg7_0 (s (18 + q)) (by omega)) ly_X11_151 (ot_15 hO) rfl rfl rfl hRm (by omega) (Nat.le_of_ble_eq_true rfl) rfl eX11_mean_56 (fun x8 n9 t9 a9 b9 c9 hx8 => ?_)
        obtain ⟨hx8, rfl, rfl, rfl, rfl, rfl⟩ := hx8
        rw [← mn_goal hW (by omega)] at hx8
        have hmr := mn_r (f := (th_all s q m).1) 13 0 (by omega) (by omega) hth.1
        have hsq := hth.2.1
        refine vx_aload_n hC 1 rfl eX11_mean_59 ?_
        refine vx_gr hC 3 (ot_0 hO) lf_X11_24 rfl (or_0_3 hO) eX11_mean_60 ?_
        refine vx_gl hC 2 (ot_15 hO) lf_X11_141 rfl eX11_mean_63 ?_
        refine vx_eql qg7_2 ?_
        refine vx_iload_n hC 4 rfl eX11_mean_66 ?_
        refine vx_callS_l hC (kX11_lowest G (d + 3) _ _ _ _ _ _ _ _ (by omega) (by omega) (by omega)) ly_X11_145 rfl hRm (by omega) (Nat.le_of_ble_eq_true rfl) rfl eX11_mean_67 (fun x9 n9 t9 a9 b9 c9 hx9 => ?_)
        obtain ⟨hx9, rfl, rfl, rfl, rfl, rfl⟩ := hx9
        exact vx_lret hC hM eX11_mean_70 (⟨_, rfl, by unfold sp_mean; first | (rw [if_pos (by unfold ask; omega)]; simp only [hx8, hx9]; done) | (rw [if_neg (by unfold ask; omega)]; rfl), cq_ro hO hR (fun k hk => frvig7 k hk) (fun k hk => frvlg7 k (by omega))⟩)
      · refine vx_ldc2 hC (-9223372036854775808) wd_680 eX11_mean_29 ?_
        exact vx_lret hC hM eX11_mean_32 (⟨_, rfl, by unfold sp_mean; first | (rw [if_pos (by unfold ask; omega)]; simp only []; done) | (rw [if_neg (by unfold ask; omega)]; rfl), cq_ro hO hR (fun k hk => rfl) (fun k hk => rfl)⟩)
