theorem tr2.symm {a b : Nat} (h : tr2 a b) : tr2 b a := by unfold tr2 at *; omega
theorem t3_R0 {sm : Int} {U x o : Int → Int} (hx : ag 169 x fz0) (ho : ∀ w, 0 ≤ w → w < 3 → o w = 6 * U w) : t3_R sm (fun w => 6 * U w) fz0 x o := by
  refine ⟨fun z z1 z2 => ?_, fun w w1 w2 => ?_⟩
  · rw [hx z z1 z2]; unfold t3_T fz0; split <;> rfl
  · rw [ho w w1 w2, sq_z (f := t3_o sm w fz0) 169 0 (fun z _ _ => by unfold t3_o fz0; split <;> rfl)]; show 6 * U w = 6 * U w + 0; omega
theorem t3_z {sm : Int} {T : Int → Int} (h : t3_ok sm T) {z : Int} (h1 : 0 ≤ z) (h2 : z < 169) (h3 : ¬ (1 ≤ z / 13 ∧ 1 ≤ z % 13 ∧ z / 13 + z % 13 < sm)) : T z = 0 := by
  by_cases e : T z = 0
  · exact e
  · exact absurd ((h z h1 h2).2 e) h3
theorem t3_in_s (T : Int → Int) (c : Nat) (k : Int) (N : Int → Int) : t3_in T (c + 1) k N = t3_in T c (k + 1) (t3_6 N k (T k)) := by rw [t3_in]
set_option maxHeartbeats 4000000 in
set_option maxRecDepth 100000 in
theorem kX2_playTrioOnce (G : xg_T) (d : Nat) (n : Nat) (tau : Nat → Nat × Nat) (vi vl : Nat → Int → Int) (vr : Nat → Int → Option Nat) (hO : xo n tau vr) (kn kx : Nat) (hkk : tr2 kn kx) (hkn : vr 15 8 = some kn) (hkx : vr 15 9 = some kx) (sm : Int) (hsm : 3 ≤ sm ∧ sm ≤ 12) (T U : Int → Int) (wy : Int) (hT : ag 169 (vl kn) T) (hok : t3_ok sm T) (hTr : ∀ k, 0 ≤ k → k < 169 → 0 ≤ T k ∧ T k ≤ 1679616) (hU : ∀ w, 0 ≤ w → w < 3 → vl 25 w = U w) (hwy : vl 15 2 = wy) : xm G yX2_playTrioOnce cX2_playTrioOnce 4 none (d + 2) 0 0 [xa_r 15, xa_i sm] n tau vi vl vr (xp_v (fun n1 t1 a1 b1 c1 => n = n1 ∧ tau = t1 ∧ c1 15 8 = some kx ∧ c1 15 9 = some kn ∧ (∀ k, ¬ k = 15 → c1 k = vr k) ∧ (∀ j, ¬ j = 8 → ¬ j = 9 → c1 15 j = vr 15 j) ∧ ag 169 (b1 kx) (t3_T sm (t3_N T)) ∧ (∀ w, 0 ≤ w → w < 3 → b1 25 w = 6 * U w + sq (t3_o sm w (t3_N T)) 0 169) ∧ b1 15 2 = wy * 6 ∧ ∀ k, (¬ k = 15 ∧ ¬ k = 22 ∧ ¬ k = 23 ∧ ¬ k = 24 ∧ ¬ k = 25) → a1 k = vi k ∧ b1 k = vl k)) := by
  refine xm.of (lv := [(0, xa_r 15), (1, xa_i sm)]) (by decide) (Nat.le_of_ble_eq_true rfl) rfl (fun K hC hM hRm => ?_)
  have htt := tr2_t hkk hO
  have hne : (kn = 22 ∧ kx = 23) ∨ (kn = 23 ∧ kx = 22) := hkk
  refine vx_aload_n hC 0 rfl eX2_playTrioOnce_0 ?_
  refine vx_gr hC 9 (ot_15 hO) lf_X2_34 rfl hkx eX2_playTrioOnce_1 ?_
  refine vx_lconst hC 0 (by decide) eX2_playTrioOnce_4 ?_
  refine vx_callS_v hC (kJ7_fill_d0a16 G d _ _ _ _ _ kx 169 htt.2 (by omega) 0) ly_X2_58 rfl hRm (by omega) (Nat.le_of_ble_eq_true rfl) rfl eX2_playTrioOnce_5 (fun ng2 tg2 ag2 bg2 cg2 hg2 => ?_)
  obtain ⟨qg2_0, rfl, rfl, rfl, frg2⟩ := hg2
  have hg2_25 : bg2 25 = vl 25 := (frg2 25 (by omega)).2
  have hg2_15_2 : bg2 15 2 = wy := (congrFun (frg2 15 (by omega)).2 _).trans hwy
  have hg2_kn : ag 169 (bg2 kn) (T) := by rw [(frg2 kn (by omega)).2]; exact hT
  have frvig2 : ∀ k : Nat, (¬ k = 15 ∧ ¬ k = 22 ∧ ¬ k = 23 ∧ ¬ k = 24 ∧ ¬ k = 25) → ag2 k = vi k := fun k hk => (frg2 k (by omega)).1
  have frvlg2 : ∀ k : Nat, (¬ k = 15 ∧ ¬ k = 22 ∧ ¬ k = 23 ∧ ¬ k = 24 ∧ ¬ k = 25) → bg2 k = vl k := fun k hk => (frg2 k (by omega)).2
  refine vx_iconst hC eX2_playTrioOnce_8 ?_
  refine vx_istore_n hC (lv1 := [(2, xa_i 0), (0, xa_r 15), (1, xa_i sm)]) (by decide) rfl eX2_playTrioOnce_9 ?_
  have LP10 : ∀ (j : Nat) (ww : Int) (m2 : Nat → Int → Int) (hww : 0 ≤ ww ∧ ww ≤ 3) (hO1 : ∀ w, 0 ≤ w → w < 3 → m2 25 w = if w < ww then 6 * U w else U w) (aT : ag 169 (m2 kn) T) (aX : ag 169 (m2 kx) fz0) (eW : m2 15 2 = wy) (fl : ∀ k : Nat, (¬ k = 15 ∧ ¬ k = 22 ∧ ¬ k = 23 ∧ ¬ k = 24 ∧ ¬ k = 25) → m2 k = vl k) (hj : 3 - ww < (j : Int)), xv G K 4 (xk_Q G K (xp_v (fun n1 t1 a1 b1 c1 => n = n1 ∧ tau = t1 ∧ c1 15 8 = some kx ∧ c1 15 9 = some kn ∧ (∀ k, ¬ k = 15 → c1 k = vr k) ∧ (∀ j, ¬ j = 8 → ¬ j = 9 → c1 15 j = vr 15 j) ∧ ag 169 (b1 kx) (t3_T sm (t3_N T)) ∧ (∀ w, 0 ≤ w → w < 3 → b1 25 w = 6 * U w + sq (t3_o sm w (t3_N T)) 0 169) ∧ b1 15 2 = wy * 6 ∧ ∀ k, (¬ k = 15 ∧ ¬ k = 22 ∧ ¬ k = 23 ∧ ¬ k = 24 ∧ ¬ k = 25) → a1 k = vi k ∧ b1 k = vl k)) 0 0) 0 0 n tau ag2 m2 vr 10 [(2, xa_i ww), (0, xa_r 15), (1, xa_i sm)] [] := by
    intro j
    induction j with
    | zero => intro ww m2 hww hO1 aT aX eW fl hj; exfalso; omega
    | succ j ihA =>
      intro ww m2 hww hO1 aT aX eW fl hj
      refine vx_iload_n hC 0 rfl eX2_playTrioOnce_10 ?_
      refine vx_iconst hC eX2_playTrioOnce_11 ?_
      refine vx_icmp_ge hC (tgt := 33) (by omega) (by decide) eX2_playTrioOnce_12 (fun c3 => ?_) (fun c3 => ?_)
      · refine vx_iconst hC eX2_playTrioOnce_33 ?_
        refine vx_istore_n hC (lv1 := [(2, xa_i 1), (0, xa_r 15), (1, xa_i sm)]) (by decide) rfl eX2_playTrioOnce_34 ?_
        have LP35 : ∀ (j : Nat) (c : Nat) (aa : Int) (N : Int → Int) (m3 : Nat → Int → Int) (m4 : Nat → Int → Int) (hc : aa * 13 + (c : Int) = 169 ∧ 1 ≤ aa ∧ aa ≤ sm) (hin : t3_in T c (aa * 13) N = t3_N T) (hR : t3_R sm (fun w => 6 * U w) N (m4 kx) (m4 25)) (aT4 : ag 169 (m4 kn) T) (eW4 : m4 15 2 = wy) (fi : ∀ k : Nat, (¬ k = 15 ∧ ¬ k = 22 ∧ ¬ k = 23 ∧ ¬ k = 24 ∧ ¬ k = 25) → m3 k = vi k) (fl4 : ∀ k : Nat, (¬ k = 15 ∧ ¬ k = 22 ∧ ¬ k = 23 ∧ ¬ k = 24 ∧ ¬ k = 25) → m4 k = vl k) (hj : (c : Int) < (j : Int)), xv G K 4 (xk_Q G K (xp_v (fun n1 t1 a1 b1 c1 => n = n1 ∧ tau = t1 ∧ c1 15 8 = some kx ∧ c1 15 9 = some kn ∧ (∀ k, ¬ k = 15 → c1 k = vr k) ∧ (∀ j, ¬ j = 8 → ¬ j = 9 → c1 15 j = vr 15 j) ∧ ag 169 (b1 kx) (t3_T sm (t3_N T)) ∧ (∀ w, 0 ≤ w → w < 3 → b1 25 w = 6 * U w + sq (t3_o sm w (t3_N T)) 0 169) ∧ b1 15 2 = wy * 6 ∧ ∀ k, (¬ k = 15 ∧ ¬ k = 22 ∧ ¬ k = 23 ∧ ¬ k = 24 ∧ ¬ k = 25) → a1 k = vi k ∧ b1 k = vl k)) 0 0) 0 0 n tau m3 m4 vr 35 [(2, xa_i aa), (0, xa_r 15), (1, xa_i sm)] [] := by
          intro j
          induction j with
          | zero => intro c aa N m3 m4 hc hin hR aT4 eW4 fi fl4 hj; exfalso; omega
          | succ j ihB =>
            intro c aa N m3 m4 hc hin hR aT4 eW4 fi fl4 hj
            refine vx_iload_n hC 0 rfl eX2_playTrioOnce_35 ?_
            refine vx_iload_n hC 2 rfl eX2_playTrioOnce_36 ?_
            refine vx_icmp_ge hC (tgt := 84) (by omega) (by decide) eX2_playTrioOnce_37 (fun c4 => ?_) (fun c4 => ?_)
            · refine vx_aload_n hC 1 rfl eX2_playTrioOnce_84 ?_
              refine vx_dup hC rfl eX2_playTrioOnce_85 ?_
              refine vx_gl hC 2 (ot_15 hO) lf_X2_70 rfl eX2_playTrioOnce_86 ?_
              refine vx_eql eW4 ?_
              refine vx_ldc2 hC (6) wd_774 eX2_playTrioOnce_89 ?_
              refine vx_lmul hC eX2_playTrioOnce_92 ?_
              refine vx_topl (fun x5 hx5 => ?_)
              refine vx_pl hC 2 (ot_15 hO) lp_X2_70 rfl (Or.inl rfl) rfl eX2_playTrioOnce_93 ?_
              refine vx_vl (fun v6 hv6 => ?_)
              have hv6_15_2 : v6 15 2 = x5 := by rw [hv6, xu_k, fu_s]
              have hv6_kn : ag 169 (v6 kn) (T) := by rw [hv6, xu_c _ _ _ _ (by omega)]; exact aT4
              have frv6 : ∀ k : Nat, (¬ k = 15 ∧ ¬ k = 22 ∧ ¬ k = 23 ∧ ¬ k = 24 ∧ ¬ k = 25) → v6 k = vl k := fun k hk => by rw [hv6, xu_c _ _ _ _ (by omega)]; exact fl4 k hk
              have hRf : t3_R sm (fun w => 6 * U w) N (v6 kx) (v6 25) := by rw [hv6, xu_c _ _ _ _ (by omega), xu_c _ _ _ _ (by omega)]; exact hR
              have hNf : N = t3_N T := by rw [← hin, show c = c + 0 by omega, t3_skip c 0 (aa * 13) N (fun z z1 z2 => t3_z hok (by omega) (by omega) (by omega))]; rfl
              rw [hNf] at hRf
              refine vx_aload_n hC 1 rfl eX2_playTrioOnce_96 ?_
              refine vx_gr hC 8 (ot_15 hO) lf_X2_31 rfl hkn eX2_playTrioOnce_97 ?_
              refine vx_astore_n hC (lv1 := [(2, xa_r kn), (0, xa_r 15), (1, xa_i sm)]) (by decide) rfl eX2_playTrioOnce_100 ?_
              refine vx_aload_n hC 1 rfl eX2_playTrioOnce_101 ?_
              refine vx_aload_n hC 1 rfl eX2_playTrioOnce_102 ?_
              refine vx_gr hC 9 (ot_15 hO) lf_X2_34 rfl hkx eX2_playTrioOnce_103 ?_
              refine vx_pr hC 8 (ot_15 hO) lp_X2_31 rfl (Or.inl rfl) eX2_playTrioOnce_106 ?_
              refine vx_vr (fun v7 hv7 => ?_)
              refine vx_aload_n hC 1 rfl eX2_playTrioOnce_109 ?_
              refine vx_aload_n hC 0 rfl eX2_playTrioOnce_110 ?_
              refine vx_pr hC 9 (ot_15 hO) lp_X2_34 rfl (Or.inl rfl) eX2_playTrioOnce_111 ?_
              refine vx_vr (fun v8 hv8 => ?_)
              exact vx_vret hC hM eX2_playTrioOnce_114 (⟨rfl, rfl, rfl, (by rw [hv8, xu_n _ _ _ _ (by omega), hv7, xu_s]), (by rw [hv8, xu_s]), (fun k hk => by rw [hv8, xu_c _ _ _ _ (by omega), hv7, xu_c _ _ _ _ (by omega)]), (fun j j1 j2 => by rw [hv8, xu_n _ _ _ _ (by omega), hv7, xu_n _ _ _ _ (by omega)]), hRf.1, hRf.2, (by rw [hv6_15_2]; exact hx5), fun k hk => ⟨fi k hk, frv6 k hk⟩⟩)
            · refine vx_iconst hC eX2_playTrioOnce_40 ?_
              refine vx_istore_n hC (lv1 := [(3, xa_i 1), (2, xa_i aa), (0, xa_r 15), (1, xa_i sm)]) (by decide) rfl eX2_playTrioOnce_41 ?_
              have LP42 : ∀ (j : Nat) (c5 : Nat) (bb : Int) (N5 : Int → Int) (m5 : Nat → Int → Int) (m6 : Nat → Int → Int) (hc5 : aa * 13 + bb + (c5 : Int) = 169 ∧ 1 ≤ bb ∧ aa + bb ≤ sm) (hin5 : t3_in T c5 (aa * 13 + bb) N5 = t3_N T) (hR5 : t3_R sm (fun w => 6 * U w) N5 (m6 kx) (m6 25)) (aT6 : ag 169 (m6 kn) T) (eW6 : m6 15 2 = wy) (fi5 : ∀ k : Nat, (¬ k = 15 ∧ ¬ k = 22 ∧ ¬ k = 23 ∧ ¬ k = 24 ∧ ¬ k = 25) → m5 k = vi k) (fl6 : ∀ k : Nat, (¬ k = 15 ∧ ¬ k = 22 ∧ ¬ k = 23 ∧ ¬ k = 24 ∧ ¬ k = 25) → m6 k = vl k) (hj : (c5 : Int) < (j : Int)), xv G K 4 (xk_Q G K (xp_v (fun n1 t1 a1 b1 c1 => n = n1 ∧ tau = t1 ∧ c1 15 8 = some kx ∧ c1 15 9 = some kn ∧ (∀ k, ¬ k = 15 → c1 k = vr k) ∧ (∀ j, ¬ j = 8 → ¬ j = 9 → c1 15 j = vr 15 j) ∧ ag 169 (b1 kx) (t3_T sm (t3_N T)) ∧ (∀ w, 0 ≤ w → w < 3 → b1 25 w = 6 * U w + sq (t3_o sm w (t3_N T)) 0 169) ∧ b1 15 2 = wy * 6 ∧ ∀ k, (¬ k = 15 ∧ ¬ k = 22 ∧ ¬ k = 23 ∧ ¬ k = 24 ∧ ¬ k = 25) → a1 k = vi k ∧ b1 k = vl k)) 0 0) 0 0 n tau m5 m6 vr 42 [(3, xa_i bb), (2, xa_i aa), (0, xa_r 15), (1, xa_i sm)] [] := by
                intro j
                induction j with
                | zero => intro c5 bb N5 m5 m6 hc5 hin5 hR5 aT6 eW6 fi5 fl6 hj; exfalso; omega
                | succ j ihC =>
                  intro c5 bb N5 m5 m6 hc5 hin5 hR5 aT6 eW6 fi5 fl6 hj
                  refine vx_iload_n hC 1 rfl eX2_playTrioOnce_42 ?_
                  refine vx_iload_n hC 0 rfl eX2_playTrioOnce_43 ?_
                  refine vx_iadd hC eX2_playTrioOnce_44 ?_
                  refine vx_iload_n hC 3 rfl eX2_playTrioOnce_45 ?_
                  refine vx_icmp_ge hC (tgt := 78) (by omega) (by decide) eX2_playTrioOnce_46 (fun c9 => ?_) (fun c9 => ?_)
                  · refine vx_iinc hC (lv1 := [(2, xa_i (aa + 1)), (3, xa_i bb), (0, xa_r 15), (1, xa_i sm)]) 1 rfl (by decide) rfl eX2_playTrioOnce_78 ?_
                    refine vx_goto hC (tgt := 35) (by decide) eX2_playTrioOnce_81 ?_
                    refine vx_lv (lv1 := [(2, xa_i (aa + 1)), (0, xa_r 15), (1, xa_i sm)]) [0, 2, 3] rfl ?_
                    exact ihB (c5 - (13 - bb.toNat)) (aa + 1) N5 m5 m6 (by omega) (by rw [← hin5, show c5 = (13 - bb.toNat) + (c5 - (13 - bb.toNat)) by omega, t3_skip (13 - bb.toNat) _ (aa * 13 + bb) N5 (fun z z1 z2 => t3_z hok (by omega) (by omega) (by omega)), show aa * 13 + bb + ((13 - bb.toNat : Nat) : Int) = (aa + 1) * 13 by omega, show (13 - bb.toNat) + (c5 - (13 - bb.toNat)) - (13 - bb.toNat) = c5 - (13 - bb.toNat) by omega]) hR5 aT6 eW6 fi5 fl6 (by omega)
                  · obtain ⟨c6, rfl⟩ : ∃ c6, c5 = c6 + 1 := ⟨c5 - 1, by omega⟩
                    have hTk := hTr (aa * 13 + bb) (by omega) (by omega)
                    refine vx_aload_n hC 2 rfl eX2_playTrioOnce_49 ?_
                    refine vx_gr hC 8 (ot_15 hO) lf_X2_31 rfl hkn eX2_playTrioOnce_50 ?_
                    refine vx_iload_n hC 1 rfl eX2_playTrioOnce_53 ?_
                    refine vx_bipush hC (by decide) eX2_playTrioOnce_54 ?_
                    refine vx_imul hC eX2_playTrioOnce_56 ?_
                    refine vx_iload_n hC 0 rfl eX2_playTrioOnce_57 ?_
                    refine vx_iadd hC eX2_playTrioOnce_58 ?_
                    refine vx_laload hC htt.1 (by omega) (by omega) eX2_playTrioOnce_59 ?_
                    refine vx_eql (aT6 _ (by omega) (by omega)) ?_
                    refine vx_lconst hC 0 (by decide) eX2_playTrioOnce_60 ?_
                    refine vx_lcmp hC (by omega) eX2_playTrioOnce_61 ?_
                    refine vx_if_eq hC (tgt := 72) (by omega) (by decide) eX2_playTrioOnce_62 (fun c10 => ?_) (fun c10 => ?_)
                    · refine vx_iinc hC (lv1 := [(3, xa_i (bb + 1)), (2, xa_i aa), (0, xa_r 15), (1, xa_i sm)]) 0 rfl (by decide) rfl eX2_playTrioOnce_72 ?_
                      refine vx_goto hC (tgt := 42) (by decide) eX2_playTrioOnce_75 ?_
                      exact ihC c6 (bb + 1) N5 m5 m6 (by omega) (by rw [← hin5, t3_in_s T c6 (aa * 13 + bb) N5, show aa * 13 + (bb + 1) = aa * 13 + bb + 1 by omega, show T (aa * 13 + bb) = 0 by omega, t3_6z]) hR5 aT6 eW6 fi5 fl6 (by omega)
                    · refine vx_aload_n hC 2 rfl eX2_playTrioOnce_65 ?_
                      refine vx_iload_n hC 1 rfl eX2_playTrioOnce_66 ?_
                      refine vx_iload_n hC 0 rfl eX2_playTrioOnce_67 ?_
                      refine vx_iload_n hC 3 rfl eX2_playTrioOnce_68 ?_
                      refine vx_callV_v hC (kX2_giveAPenny G d _ _ _ _ _ hO kn kx hkk hkn hkx aa bb sm (by omega) T _ N5 aT6 hR5) ly_X2_109 (ot_15 hO) rfl rfl rfl hRm (by omega) (Nat.le_of_ble_eq_true rfl) rfl eX2_playTrioOnce_69 (fun ng12 tg12 ag12 bg12 cg12 hg12 => ?_)
                      obtain ⟨qg12_0, rfl, rfl, rfl, frg12⟩ := hg12
                      have hg12_15_2 : bg12 15 2 = wy := (congrFun (frg12 15 (by omega)).2 _).trans eW6
                      have hg12_kn : ag 169 (bg12 kn) (T) := by rw [(frg12 kn (by omega)).2]; exact aT6
                      have frvig12 : ∀ k : Nat, (¬ k = 15 ∧ ¬ k = 22 ∧ ¬ k = 23 ∧ ¬ k = 24 ∧ ¬ k = 25) → ag12 k = vi k := fun k hk => (frg12 k (by omega)).1.trans (fi5 k hk)
                      have frvlg12 : ∀ k : Nat, (¬ k = 15 ∧ ¬ k = 22 ∧ ¬ k = 23 ∧ ¬ k = 24 ∧ ¬ k = 25) → bg12 k = vl k := fun k hk => (frg12 k (by omega)).2.trans (fl6 k hk)
                      refine vx_iinc hC (lv1 := [(3, xa_i (bb + 1)), (2, xa_i aa), (0, xa_r 15), (1, xa_i sm)]) 0 rfl (by decide) rfl eX2_playTrioOnce_72 ?_
                      refine vx_goto hC (tgt := 42) (by decide) eX2_playTrioOnce_75 ?_
                      exact ihC c6 (bb + 1) (t3_6 N5 (aa * 13 + bb) (T (aa * 13 + bb))) ag12 bg12 (by omega) (by rw [← hin5, t3_in_s T c6 (aa * 13 + bb) N5, show aa * 13 + (bb + 1) = aa * 13 + bb + 1 by omega]) qg12_0 hg12_kn hg12_15_2 frvig12 frvlg12 (by omega)
              exact LP42 170 (c - 1) 1 N m3 m4 (by omega) (by rw [← hin, show c = (c - 1) + 1 by omega, t3_in_s T (c - 1) (aa * 13) N, t3_z hok (z := aa * 13) (by omega) (by omega) (by omega), t3_6z, show c - 1 + 1 - 1 = c - 1 by omega]) hR aT4 eW4 fi fl4 (by omega)
        exact LP35 170 156 1 fz0 ag2 m2 (by omega) (by unfold t3_N; rw [show (169 : Nat) = 13 + 156 from rfl, t3_skip 13 156 0 fz0 (fun z z1 z2 => t3_z hok (by omega) (by omega) (by omega))]; rfl) (t3_R0 aX (fun w w1 w2 => by rw [hO1 w w1 w2, if_pos (by omega)])) aT eW frvig2 fl (by omega)
      · refine vx_aload_n hC 1 rfl eX2_playTrioOnce_15 ?_
        refine vx_gr hC 11 (ot_15 hO) lf_X2_40 rfl (or_15_11 hO) eX2_playTrioOnce_16 ?_
        refine vx_iload_n hC 0 rfl eX2_playTrioOnce_19 ?_
        refine vx_dup2 hC rfl rfl eX2_playTrioOnce_20 ?_
        refine vx_laload hC (ot_25 hO) (by omega) (by omega) eX2_playTrioOnce_21 ?_
        refine vx_ldc2 hC (6) wd_774 eX2_playTrioOnce_22 ?_
        refine vx_lmul hC eX2_playTrioOnce_25 ?_
        refine vx_topl (fun x13 hx13 => ?_)
        refine vx_lastore hC (ot_25 hO) (by omega) (by omega) eX2_playTrioOnce_26 ?_
        refine vx_vl (fun v14 hv14 => ?_)
        obtain ⟨f15, hf15⟩ : ∃ f, f = fu (m2 25) ww x13 := ⟨_, rfl⟩
        have hv14_25 : v14 25 = f15 := by rw [hv14, hf15, xu_k]
        have hv14_kx : ag 169 (v14 kx) (fz0) := by rw [hv14, xu_c _ _ _ _ (by omega)]; exact aX
        have hv14_15_2 : v14 15 2 = wy := by rw [hv14, xu_c _ _ _ _ (by decide), eW]
        have hv14_kn : ag 169 (v14 kn) (T) := by rw [hv14, xu_c _ _ _ _ (by omega)]; exact aT
        have frv14 : ∀ k : Nat, (¬ k = 15 ∧ ¬ k = 22 ∧ ¬ k = 23 ∧ ¬ k = 24 ∧ ¬ k = 25) → v14 k = vl k := fun k hk => by rw [hv14, xu_c _ _ _ _ (by omega)]; exact fl k hk
        refine vx_iinc hC (lv1 := [(2, xa_i (ww + 1)), (0, xa_r 15), (1, xa_i sm)]) 0 rfl (by decide) rfl eX2_playTrioOnce_27 ?_
        refine vx_goto hC (tgt := 10) (by decide) eX2_playTrioOnce_30 ?_
        exact ihA (ww + 1) v14 (by omega) (fun w w1 w2 => by rw [hv14_25, hf15]; by_cases e9 : w = ww; (rw [e9, fu_s, if_pos (by omega)]; simp only [hx13]; rw [hO1 ww (by omega) (by omega), if_neg (by omega)]; omega); (rw [fu_n _ _ _ e9, hO1 w w1 w2]; split <;> split <;> (first | rfl | (exfalso; omega)))) hv14_kn hv14_kx hv14_15_2 frv14 (by omega)
  exact LP10 4 0 bg2 (by omega) (fun w w1 w2 => by rw [if_neg (by omega), ← hU w w1 w2]; exact congrFun hg2_25 w) hg2_kn qg2_0 hg2_15_2 frvlg2 (by omega)
theorem xo_15 {n : Nat} {tau : Nat → Nat × Nat} {vr c : Nat → Int → Option Nat} (h : xo n tau vr) (h1 : ∀ k, ¬ k = 15 → c k = vr k) (h2 : ∀ j, ¬ j = 8 → ¬ j = 9 → c 15 j = vr 15 j) : xo n tau c := by
  refine ⟨h.1, h.2.1, fun q hq => ?_⟩
  rw [← h.2.2 q hq]
  by_cases e : q.1 = 15
  · rw [e]
    refine h2 _ ?_ ?_
    · intro e2
      have : ∀ q ∈ xo_rl, q.1 = 15 → ¬ q.2.1 = 8 := by decide
      exact this q hq e e2
    · intro e2
      have : ∀ q ∈ xo_rl, q.1 = 15 → ¬ q.2.1 = 9 := by decide
      exact this q hq e e2
  · rw [h1 _ e]
set_option maxHeartbeats 4000000 in
set_option maxRecDepth 100000 in
theorem kX2_playTrio (G : xg_T) (d : Nat) (n : Nat) (tau : Nat → Nat × Nat) (vi vl : Nat → Int → Int) (vr : Nat → Int → Option Nat) (hO : xo n tau vr) (kn kx : Nat) (hkk : tr2 kn kx) (hkn : vr 15 8 = some kn) (hkx : vr 15 9 = some kx) (a b sm nn : Int) (hsm : 3 ≤ sm ∧ sm ≤ 12) (hab : 1 ≤ a ∧ 1 ≤ b ∧ a + b < sm) (hnn : 0 ≤ nn ∧ nn ≤ 8) : xm G yX2_playTrio cX2_playTrio 6 none (d + 3) 0 0 [xa_r 15, xa_i a, xa_i b, xa_i sm, xa_i nn] n tau vi vl vr (xp_v (fun n1 t1 a1 b1 c1 => n = n1 ∧ tau = t1 ∧ tri c1 ∧ (∀ k, ¬ k = 15 → c1 k = vr k) ∧ (∀ j, ¬ j = 8 → ¬ j = 9 → c1 15 j = vr 15 j) ∧ (∀ w, 0 ≤ w → w < 3 → b1 25 w = t3_n sm w nn.toNat (fu fz0 (a * 13 + b) 1) 0 ∧ 0 ≤ b1 25 w ∧ b1 25 w ≤ 1679616) ∧ b1 15 2 = (6 : Int) ^ nn.toNat ∧ ∀ k, (¬ k = 15 ∧ ¬ k = 22 ∧ ¬ k = 23 ∧ ¬ k = 24 ∧ ¬ k = 25) → a1 k = vi k ∧ b1 k = vl k)) := by
  refine xm.of (lv := [(0, xa_r 15), (1, xa_i a), (2, xa_i b), (3, xa_i sm), (4, xa_i nn)]) (by decide) (Nat.le_of_ble_eq_true rfl) rfl (fun K hC hM hRm => ?_)
  have htt := tr2_t hkk hO
  have hne : (kn = 22 ∧ kx = 23) ∨ (kn = 23 ∧ kx = 22) := hkk
  refine vx_aload_n hC 0 rfl eX2_playTrio_0 ?_
  refine vx_gr hC 8 (ot_15 hO) lf_X2_31 rfl hkn eX2_playTrio_1 ?_
  refine vx_lconst hC 0 (by decide) eX2_playTrio_4 ?_
  refine vx_callS_v hC (kJ7_fill_d0a16 G (d + 1) _ _ _ _ _ kn 169 htt.1 (by omega) 0) ly_X2_58 rfl hRm (by omega) (Nat.le_of_ble_eq_true rfl) rfl eX2_playTrio_5 (fun ng2 tg2 ag2 bg2 cg2 hg2 => ?_)
  obtain ⟨qg2_0, rfl, rfl, rfl, frg2⟩ := hg2
  have hg2_25 : bg2 25 = vl 25 := (frg2 25 (by omega)).2
  have hg2_15_2 : bg2 15 2 = vl 15 2 := (congrFun (frg2 15 (by omega)).2 _)
  have frvig2 : ∀ k : Nat, (¬ k = 15 ∧ ¬ k = 22 ∧ ¬ k = 23 ∧ ¬ k = 24 ∧ ¬ k = 25) → ag2 k = vi k := fun k hk => (frg2 k (by omega)).1
  have frvlg2 : ∀ k : Nat, (¬ k = 15 ∧ ¬ k = 22 ∧ ¬ k = 23 ∧ ¬ k = 24 ∧ ¬ k = 25) → bg2 k = vl k := fun k hk => (frg2 k (by omega)).2
  refine vx_aload_n hC 0 rfl eX2_playTrio_8 ?_
  refine vx_gr hC 11 (ot_15 hO) lf_X2_40 rfl (or_15_11 hO) eX2_playTrio_9 ?_
  refine vx_lconst hC 0 (by decide) eX2_playTrio_12 ?_
  refine vx_callS_v hC (kJ7_fill_d0a16 G (d + 1) _ _ _ _ _ 25 3 (ot_25 hO) (by omega) 0) ly_X2_58 rfl hRm (by omega) (Nat.le_of_ble_eq_true rfl) rfl eX2_playTrio_13 (fun ng4 tg4 ag4 bg4 cg4 hg4 => ?_)
  obtain ⟨qg4_0, rfl, rfl, rfl, frg4⟩ := hg4
  have hg4_kn : ag 169 (bg4 kn) (fz0) := by rw [(frg4 kn (by omega)).2]; exact qg2_0
  have hg4_15_2 : bg4 15 2 = vl 15 2 := (congrFun (frg4 15 (by omega)).2 _).trans hg2_15_2
  have frvig4 : ∀ k : Nat, (¬ k = 15 ∧ ¬ k = 22 ∧ ¬ k = 23 ∧ ¬ k = 24 ∧ ¬ k = 25) → ag4 k = vi k := fun k hk => (frg4 k (by omega)).1.trans (frvig2 k hk)
  have frvlg4 : ∀ k : Nat, (¬ k = 15 ∧ ¬ k = 22 ∧ ¬ k = 23 ∧ ¬ k = 24 ∧ ¬ k = 25) → bg4 k = vl k := fun k hk => (frg4 k (by omega)).2.trans (frvlg2 k hk)
  refine vx_aload_n hC 0 rfl eX2_playTrio_16 ?_
  refine vx_gr hC 8 (ot_15 hO) lf_X2_31 rfl hkn eX2_playTrio_17 ?_
  refine vx_iload_n hC 1 rfl eX2_playTrio_20 ?_
  refine vx_bipush hC (by decide) eX2_playTrio_21 ?_
  refine vx_imul hC eX2_playTrio_23 ?_
  refine vx_iload_n hC 2 rfl eX2_playTrio_24 ?_
  refine vx_iadd hC eX2_playTrio_25 ?_
  refine vx_lconst hC 1 (by decide) eX2_playTrio_26 ?_
  refine vx_lastore hC htt.1 (by omega) (by omega) eX2_playTrio_27 ?_
  refine vx_vl (fun v5 hv5 => ?_)
  have hv5_25 : ag 3 (v5 25) (fz0) := by rw [hv5, xu_c _ _ _ _ (by omega)]; exact qg4_0
  obtain ⟨f6, hf6⟩ : ∃ f, f = fu (fz0) (a * 13 + b) 1 := ⟨_, rfl⟩
  have hv5_kn : ag 169 (v5 kn) f6 := by rw [hv5, xu_k, hf6]; exact ag_fu hg4_kn
  have hv5_15_2 : v5 15 2 = vl 15 2 := by rw [hv5, xu_c _ _ _ _ (by omega), hg4_15_2]
  have frv5 : ∀ k : Nat, (¬ k = 15 ∧ ¬ k = 22 ∧ ¬ k = 23 ∧ ¬ k = 24 ∧ ¬ k = 25) → v5 k = vl k := fun k hk => by rw [hv5, xu_c _ _ _ _ (by omega)]; exact frvlg4 k hk
  refine vx_aload_n hC 0 rfl eX2_playTrio_28 ?_
  refine vx_lconst hC 1 (by decide) eX2_playTrio_29 ?_
  refine vx_pl hC 2 (ot_15 hO) lp_X2_70 rfl (Or.inl rfl) rfl eX2_playTrio_30 ?_
  refine vx_vl (fun v7 hv7 => ?_)
  have hv7_25 : ag 3 (v7 25) (fz0) := by rw [hv7, xu_c _ _ _ _ (by decide)]; exact hv5_25
  have hv7_kn : ag 169 (v7 kn) (f6) := by rw [hv7, xu_c _ _ _ _ (by omega)]; exact hv5_kn
  have hv7_15_2 : v7 15 2 = 1 := by rw [hv7, xu_k, fu_s]
  have frv7 : ∀ k : Nat, (¬ k = 15 ∧ ¬ k = 22 ∧ ¬ k = 23 ∧ ¬ k = 24 ∧ ¬ k = 25) → v7 k = vl k := fun k hk => by rw [hv7, xu_c _ _ _ _ (by omega)]; exact frv5 k hk
  have hE0 : ag 169 (v7 kn) (fu fz0 (a * 13 + b) 1) := by rw [show (fu fz0 (a * 13 + b) 1) = f6 by rw [hf6]]; exact hv7_kn
  have hE25 : ∀ w, 0 ≤ w → w < 3 → v7 25 w = fz0 w := hv7_25
  have hok0 : t3_ok sm (fu fz0 (a * 13 + b) 1) ∧ sq (fu fz0 (a * 13 + b) 1) 0 169 ≤ 1 := by
    constructor
    · intro k k1 k2
      unfold t3_in0 fu fz0
      by_cases e : k = a * 13 + b
      · rw [if_pos e]; exact ⟨by omega, fun _ => by omega⟩
      · rw [if_neg e]; exact ⟨by omega, fun h => absurd rfl h⟩
    · rw [fu_ad (f := fz0) (z := a * 13 + b) (x := 1) rfl, sq_ad 169 0 (by omega) (by omega), sq_z (f := fz0) 169 0 (fun _ _ _ => rfl)]; omega
  refine vx_iconst hC eX2_playTrio_33 ?_
  refine vx_istore hC (lv1 := [(5, xa_i 0), (0, xa_r 15), (1, xa_i a), (2, xa_i b), (3, xa_i sm), (4, xa_i nn)]) (by decide) rfl eX2_playTrio_34 ?_
  have LP36 : ∀ (j : Nat) (cc : Nat) (tt : Nat) (T : Int → Int) (U : Int → Int) (kn9 : Nat) (kx9 : Nat) (m1 : Nat → Int → Int) (m2 : Nat → Int → Int) (m9 : Nat → Int → Option Nat) (hcc : (tt : Int) + (cc : Int) = nn) (hres : ∀ w, 0 ≤ w → w < 3 → t3_n sm w cc T (U w) = t3_n sm w nn.toNat (fu fz0 (a * 13 + b) 1) 0) (hok : t3_ok sm T) (hup : ∀ w, 0 ≤ w → w < 3 → 0 ≤ U w ∧ sq T 0 169 + U w ≤ (6 : Int) ^ tt) (hk9 : tr2 kn9 kx9) (hn9 : m9 15 8 = some kn9) (hx9 : m9 15 9 = some kx9) (aT : ag 169 (m2 kn9) T) (hU : ∀ w, 0 ≤ w → w < 3 → m2 25 w = U w) (eW : m2 15 2 = (6 : Int) ^ tt) (hv1 : ∀ k, ¬ k = 15 → m9 k = vr k) (hv2 : ∀ j, ¬ j = 8 → ¬ j = 9 → m9 15 j = vr 15 j) (fi : ∀ k : Nat, (¬ k = 15 ∧ ¬ k = 22 ∧ ¬ k = 23 ∧ ¬ k = 24 ∧ ¬ k = 25) → m1 k = vi k) (fl : ∀ k : Nat, (¬ k = 15 ∧ ¬ k = 22 ∧ ¬ k = 23 ∧ ¬ k = 24 ∧ ¬ k = 25) → m2 k = vl k) (hj : (cc : Int) < (j : Int)), xv G K 6 (xk_Q G K (xp_v (fun n1 t1 a1 b1 c1 => n = n1 ∧ tau = t1 ∧ tri c1 ∧ (∀ k, ¬ k = 15 → c1 k = vr k) ∧ (∀ j, ¬ j = 8 → ¬ j = 9 → c1 15 j = vr 15 j) ∧ (∀ w, 0 ≤ w → w < 3 → b1 25 w = t3_n sm w nn.toNat (fu fz0 (a * 13 + b) 1) 0 ∧ 0 ≤ b1 25 w ∧ b1 25 w ≤ 1679616) ∧ b1 15 2 = (6 : Int) ^ nn.toNat ∧ ∀ k, (¬ k = 15 ∧ ¬ k = 22 ∧ ¬ k = 23 ∧ ¬ k = 24 ∧ ¬ k = 25) → a1 k = vi k ∧ b1 k = vl k)) 0 0) 0 0 n tau m1 m2 m9 36 [(5, xa_i (tt : Int)), (0, xa_r 15), (1, xa_i a), (2, xa_i b), (3, xa_i sm), (4, xa_i nn)] [] := by
    intro j
    induction j with
    | zero => intro cc tt T U kn9 kx9 m1 m2 m9 hcc hres hok hup hk9 hn9 hx9 aT hU eW hv1 hv2 fi fl hj; exfalso; omega
    | succ j ih =>
      intro cc tt T U kn9 kx9 m1 m2 m9 hcc hres hok hup hk9 hn9 hx9 aT hU eW hv1 hv2 fi fl hj
      refine vx_iload hC 0 rfl eX2_playTrio_36 ?_
      refine vx_iload hC 5 rfl eX2_playTrio_38 ?_
      refine vx_icmp_ge hC (tgt := 54) (by omega) (by decide) eX2_playTrio_40 (fun c8 => ?_) (fun c8 => ?_)
      · exact vx_vret hC hM eX2_playTrio_54 (⟨rfl, rfl, rfl, (by unfold tri; rcases hk9 with ⟨h8, h9⟩ | ⟨h8, h9⟩; (rw [hn9, hx9, h8, h9]; exact Or.inl ⟨rfl, rfl⟩); (rw [hn9, hx9, h8, h9]; exact Or.inr ⟨rfl, rfl⟩)), hv1, hv2, (fun w w1 w2 => ⟨by rw [hU w w1 w2, ← hres w w1 w2, show cc = 0 by omega, t3_n], by have := hup w w1 w2; rw [hU w w1 w2]; exact this.1, by rw [hU w w1 w2]; exact (t3_r (up := U w) (t := tt) (by omega) hok (hup w w1 w2).1 (hup w w1 w2).2).2.1⟩), (by rw [eW, show nn.toNat = tt by omega]), fun k hk => ⟨fi k hk, fl k hk⟩⟩)
      · obtain ⟨cc1, rfl⟩ : ∃ cc1, cc = cc1 + 1 := ⟨cc - 1, by omega⟩
        refine vx_aload_n hC 1 rfl eX2_playTrio_43 ?_
        refine vx_iload_n hC 4 rfl eX2_playTrio_44 ?_
        have hO9 : xo n tau m9 := xo_15 hO hv1 hv2
        have hrr := t3_r (up := U 0) (t := tt) (by omega) hok (hup 0 (by omega) (by omega)).1 (hup 0 (by omega) (by omega)).2
        have hk1 := t3_ok_1 hsm.2 hok 0
        refine vx_callV_v hC (kX2_playTrioOnce G d _ _ _ _ _ hO9 kn9 kx9 hk9 hn9 hx9 sm hsm T U _ aT hok hrr.1 hU eW) ly_X2_104 (ot_15 hO) rfl rfl rfl hRm (by omega) (Nat.le_of_ble_eq_true rfl) rfl eX2_playTrio_45 (fun n9 t9 a9 b9 c9 h9 => ?_)
        obtain ⟨rfl, rfl, p1, p2, p3, p4, p5, p6, p7, p8⟩ := h9
        refine vx_iinc hC (lv1 := [(5, xa_i ((tt : Int) + 1)), (0, xa_r 15), (1, xa_i a), (2, xa_i b), (3, xa_i sm), (4, xa_i nn)]) 0 rfl (by decide) rfl eX2_playTrio_48 ?_
        refine vx_goto hC (tgt := 36) (by decide) eX2_playTrio_51 ?_
        exact ih cc1 (tt + 1) (t3_T sm (t3_N T)) (fun w => 6 * U w + sq (t3_o sm w (t3_N T)) 0 169) kx9 kn9 a9 b9 c9 (by omega) (fun w w1 w2 => by rw [← hres w w1 w2, t3_n]) hk1.1 (fun w w1 w2 => by have q1 := (t3_ok_1 hsm.2 hok w).2; have q2 := hup w w1 w2; rw [Int.pow_succ]; show 0 ≤ 6 * U w + sq (t3_o sm w (t3_N T)) 0 169 ∧ sq (t3_T sm (t3_N T)) 0 169 + (6 * U w + sq (t3_o sm w (t3_N T)) 0 169) ≤ (6 : Int) ^ tt * 6; omega) (hk9.symm) p1 p2 p5 p6 (by rw [p7, Int.pow_succ]) (fun k hk => (p3 k hk).trans (hv1 k hk)) (fun j j1 j2 => (p4 j j1 j2).trans (hv2 j j1 j2)) (fun k hk => (p8 k hk).1.trans (fi k hk)) (fun k hk => (p8 k hk).2.trans (fl k hk)) (by omega)
  exact LP36 9 nn.toNat 0 (fu fz0 (a * 13 + b) 1) fz0 kn kx ag4 v7 vr (by omega) (fun _ _ _ => rfl) hok0.1 (fun w w1 w2 => by have q := hok0.2; show 0 ≤ (0 : Int) ∧ sq (fu fz0 (a * 13 + b) 1) 0 169 + 0 ≤ 1; omega) hkk hkn hkx hE0 hE25 hv7_15_2 (fun _ _ => rfl) (fun _ _ _ => rfl) frvig4 frv7 (by omega)
theorem cq_tri {s im : Int → Int} {has ran : Int} {bod : Int → Int} {n : Nat} {tau : Nat → Nat × Nat} {vi vl a b : Nat → Int → Int} {vr c : Nat → Int → Option Nat} (hO : xo n tau vr) (hR : RCl s im has ran bod n tau vi vr) (ht : tri c) (h1 : ∀ k, ¬ k = 15 → c k = vr k) (h2 : ∀ j, ¬ j = 8 → ¬ j = 9 → c 15 j = vr 15 j) (hf : ∀ k, (¬ k = 15 ∧ ¬ k = 22 ∧ ¬ k = 23 ∧ ¬ k = 24 ∧ ¬ k = 25) → a k = vi k ∧ b k = vl k) : cq s im has ran bod n tau vi vl n tau a b c := by
  refine ⟨⟨Nat.le_refl _, by omega⟩, fun _ _ => rfl, xo_15 hO h1 h2, ?_, fun k hk => hf k (by omega)⟩
  obtain ⟨q1, q2, q3, q4, q5, q6, q7, q8, q9, q10⟩ := hR
  refine ⟨q1.fr (fun k q => (hf k (by omega)).1) (Nat.le_refl _) (fun _ _ => rfl) (fun k q => h1 k (by omega)), ?_, ?_, ?_, ?_, q6, ht, ?_, ?_, q10.fr (Nat.le_refl _) (fun _ _ => rfl) (fun k q => h1 k (by omega))⟩
  · rcases q2 with q2 | q2
    · exact Or.inl q2
    · exact Or.inr ⟨q2.1, q2.2.fr (fun k q => (hf k (by omega)).1) (Nat.le_refl _) (fun _ _ => rfl) (fun k q => h1 k (by omega))⟩
  · rw [(hf 0 (by omega)).1]; exact q3
  · rw [(hf 30 (by omega)).1]; exact q4
  · rw [(hf 30 (by omega)).1]; exact q5
  · rw [(hf 2 (by omega)).1]; exact q8
  · rw [(hf 9 (by omega)).1]; exact q9
theorem td_r {x : Int} (hx : -2147483648 ≤ x ∧ x < 2147483648) : -2147483648 ≤ x.tdiv 10 ∧ x.tdiv 10 < 2147483648 := by
  by_cases h : 0 ≤ x
  · rw [Int.tdiv_eq_ediv_of_nonneg h]; omega
  · have e : x.tdiv 10 = -((-x) / 10) := by
      rw [← Int.tdiv_eq_ediv_of_nonneg (show 0 ≤ -x by omega), Int.neg_tdiv, Int.neg_neg]
    rw [e]; omega
theorem t3_abc {x A B C : Int} (hx : -2147483648 ≤ x ∧ x < 2147483648) (hA : A = x.tdiv 100) (hB : B = (x.tdiv 10).tmod 10) (hC : C = x.tmod 10) : (0 ≤ x ∧ A = x / 100 ∧ B = x / 10 % 10 ∧ C = x % 10) ∨ (x < 0 ∧ -2147483648 ≤ A ∧ A ≤ 0) := by
  by_cases h : 0 ≤ x
  · left
    refine ⟨h, ?_, ?_, ?_⟩
    · rw [hA, Int.tdiv_eq_ediv_of_nonneg h]
    · rw [hB, Int.tdiv_eq_ediv_of_nonneg h, Int.tmod_eq_emod_of_nonneg (by omega)]
    · rw [hC, Int.tmod_eq_emod_of_nonneg h]
  · right
    have e : x.tdiv 100 = -((-x) / 100) := by
      rw [← Int.tdiv_eq_ediv_of_nonneg (show 0 ≤ -x by omega), Int.neg_tdiv, Int.neg_neg]
    rw [hA, e]
    omega
set_option maxHeartbeats 4000000 in
set_option maxRecDepth 100000 in
theorem kX11_trio (G : xg_T) (d : Nat) (n : Nat) (tau : Nat → Nat × Nat) (vi vl : Nat → Int → Int) (vr : Nat → Int → Option Nat) (hO : xo n tau vr) (s im : Int → Int) (has ran : Int) (bod : Int → Int) (hR : RCl s im has ran bod n tau vi vr) (hV : ms_V s) (x m w pt : Int) (hx : -2147483648 ≤ x ∧ x < 2147483648) (hm : -2147483648 ≤ m ∧ m < 2147483648) (hw : -2147483648 ≤ w ∧ w < 2147483648) (hpt : -2147483648 ≤ pt ∧ pt < 2147483648) : xm G yX11_trio cX11_trio 8 (some .long) (d + 4) 0 0 [xa_r 0, xa_i x, xa_i m, xa_i w, xa_i pt] n tau vi vl vr (xp_l (fun z9 n1 t1 a1 b1 c1 => z9 = sp_trio x m w pt ∧ cq (s) (im) (has) (ran) (bod) n tau vi vl n1 t1 a1 b1 c1)) := by
  refine xm.of (lv := [(0, xa_r 0), (1, xa_i x), (2, xa_i m), (3, xa_i w), (4, xa_i pt)]) (by decide) (Nat.le_of_ble_eq_true rfl) rfl (fun K hC hM hRm => ?_)
  obtain ⟨-, R2, R3, R4, R5, R6, R7, R8, R9, R10⟩ := id hR
  have htd := td_r hx
  refine vx_iload_n hC 1 rfl eX11_trio_0 ?_
  refine vx_bipush hC (by decide) eX11_trio_1 ?_
  refine vx_idivT hC (by omega) eX11_trio_3 ?_
  refine vx_top (fun x1 hx1 => ?_)
  refine vx_istore hC (lv1 := [(5, xa_i x1), (0, xa_r 0), (1, xa_i x), (2, xa_i m), (3, xa_i w), (4, xa_i pt)]) (by decide) rfl eX11_trio_4 ?_
  refine vx_iload_n hC 2 rfl eX11_trio_6 ?_
  refine vx_bipush hC (by decide) eX11_trio_7 ?_
  refine vx_idivT hC (by omega) eX11_trio_9 ?_
  refine vx_bipush hC (by decide) eX11_trio_10 ?_
  refine vx_iremT hC (by omega) eX11_trio_12 ?_
  refine vx_top (fun x2 hx2 => ?_)
  refine vx_istore hC (lv1 := [(6, xa_i x2), (5, xa_i x1), (0, xa_r 0), (1, xa_i x), (2, xa_i m), (3, xa_i w), (4, xa_i pt)]) (by decide) rfl eX11_trio_13 ?_
  refine vx_iload_n hC 3 rfl eX11_trio_15 ?_
  refine vx_bipush hC (by decide) eX11_trio_16 ?_
  refine vx_iremT hC (by omega) eX11_trio_18 ?_
  refine vx_top (fun x3 hx3 => ?_)
  refine vx_istore hC (lv1 := [(7, xa_i x3), (6, xa_i x2), (5, xa_i x1), (0, xa_r 0), (1, xa_i x), (2, xa_i m), (3, xa_i w), (4, xa_i pt)]) (by decide) rfl eX11_trio_19 ?_
  have habc := t3_abc hx hx1 hx2 hx3
  refine vx_iload hC 2 rfl eX11_trio_21 ?_
  refine vx_callS_i hC (kX11_isTrioPurse G (d + 2) _ _ _ _ _ _ (by omega)) ly_X11_173 rfl hRm (by omega) (Nat.le_of_ble_eq_true rfl) rfl eX11_trio_23 (fun x4 n9 t9 a9 b9 c9 hx4 => ?_)
  obtain ⟨hx4, rfl, rfl, rfl, rfl, rfl⟩ := hx4
  refine vx_if_eq hC (tgt := 45) (by omega) (by decide) eX11_trio_26 (fun c5 => ?_) (fun c5 => ?_)
  · refine vx_ldc2 hC (-9223372036854775808) wd_680 eX11_trio_45 ?_
    exact vx_lret hC hM eX11_trio_48 (⟨_, rfl, by unfold sp_trio; rw [if_neg (by omega)]; rfl, cq_ro hO hR (fun k hk => rfl) (fun k hk => rfl)⟩)
  · refine vx_iload hC 1 rfl eX11_trio_29 ?_
    refine vx_callS_i hC (kX11_isTrioPurse G (d + 2) _ _ _ _ _ _ (by omega)) ly_X11_173 rfl hRm (by omega) (Nat.le_of_ble_eq_true rfl) rfl eX11_trio_31 (fun x6 n9 t9 a9 b9 c9 hx6 => ?_)
    obtain ⟨hx6, rfl, rfl, rfl, rfl, rfl⟩ := hx6
    refine vx_if_eq hC (tgt := 45) (by omega) (by decide) eX11_trio_34 (fun c7 => ?_) (fun c7 => ?_)
    · refine vx_ldc2 hC (-9223372036854775808) wd_680 eX11_trio_45 ?_
      exact vx_lret hC hM eX11_trio_48 (⟨_, rfl, by unfold sp_trio; rw [if_neg (by omega)]; rfl, cq_ro hO hR (fun k hk => rfl) (fun k hk => rfl)⟩)
    · refine vx_iload hC 0 rfl eX11_trio_37 ?_
      refine vx_callS_i hC (kX11_isTrioPurse G (d + 2) _ _ _ _ _ _ (by omega)) ly_X11_173 rfl hRm (by omega) (Nat.le_of_ble_eq_true rfl) rfl eX11_trio_39 (fun x8 n9 t9 a9 b9 c9 hx8 => ?_)
      obtain ⟨hx8, rfl, rfl, rfl, rfl, rfl⟩ := hx8
      refine vx_if_ne hC (tgt := 49) (by omega) (by decide) eX11_trio_42 (fun c9 => ?_) (fun c9 => ?_)
      · refine vx_iload_n hC 5 rfl eX11_trio_49 ?_
        refine vx_if_lt hC (tgt := 76) (by omega) (by decide) eX11_trio_50 (fun c10 => ?_) (fun c10 => ?_)
        · refine vx_ldc2 hC (-9223372036854775808) wd_680 eX11_trio_76 ?_
          exact vx_lret hC hM eX11_trio_79 (⟨_, rfl, by unfold sp_trio; rw [if_neg (by omega)]; rfl, cq_ro hO hR (fun k hk => rfl) (fun k hk => rfl)⟩)
        · refine vx_iload_n hC 5 rfl eX11_trio_53 ?_
          refine vx_bipush hC (by decide) eX11_trio_54 ?_
          refine vx_icmp_gt hC (tgt := 76) (by omega) (by decide) eX11_trio_56 (fun c11 => ?_) (fun c11 => ?_)
          · refine vx_ldc2 hC (-9223372036854775808) wd_680 eX11_trio_76 ?_
            exact vx_lret hC hM eX11_trio_79 (⟨_, rfl, by unfold sp_trio; rw [if_neg (by omega)]; rfl, cq_ro hO hR (fun k hk => rfl) (fun k hk => rfl)⟩)
          · refine vx_iload_n hC 6 rfl eX11_trio_59 ?_
            refine vx_if_lt hC (tgt := 76) (by omega) (by decide) eX11_trio_60 (fun c12 => ?_) (fun c12 => ?_)
            · refine vx_ldc2 hC (-9223372036854775808) wd_680 eX11_trio_76 ?_
              exact vx_lret hC hM eX11_trio_79 (⟨_, rfl, by unfold sp_trio; rw [if_neg (by omega)]; rfl, cq_ro hO hR (fun k hk => rfl) (fun k hk => rfl)⟩)
            · refine vx_iload_n hC 6 rfl eX11_trio_63 ?_
              refine vx_iconst hC eX11_trio_64 ?_
              refine vx_icmp_gt hC (tgt := 76) (by omega) (by decide) eX11_trio_65 (fun c13 => ?_) (fun c13 => ?_)
              · refine vx_ldc2 hC (-9223372036854775808) wd_680 eX11_trio_76 ?_
                exact vx_lret hC hM eX11_trio_79 (⟨_, rfl, by unfold sp_trio; rw [if_neg (by omega)]; rfl, cq_ro hO hR (fun k hk => rfl) (fun k hk => rfl)⟩)
              · refine vx_iload hC 7 rfl eX11_trio_68 ?_
                refine vx_callS_i hC (kX11_isPart G (d + 2) _ _ _ _ _ _ (by omega)) ly_X11_128 rfl hRm (by omega) (Nat.le_of_ble_eq_true rfl) rfl eX11_trio_70 (fun x14 n9 t9 a9 b9 c9 hx14 => ?_)
                obtain ⟨hx14, rfl, rfl, rfl, rfl, rfl⟩ := hx14
                refine vx_if_ne hC (tgt := 80) (by omega) (by decide) eX11_trio_73 (fun c15 => ?_) (fun c15 => ?_)
                · refine vx_aload_n hC 3 rfl eX11_trio_80 ?_
                  refine vx_gr hC 3 (ot_0 hO) lf_X11_24 rfl (or_0_3 hO) eX11_trio_81 ?_
                  refine vx_iload hC 2 rfl eX11_trio_84 ?_
                  refine vx_iload hC 1 rfl eX11_trio_86 ?_
                  refine vx_iload hC 2 rfl eX11_trio_88 ?_
                  refine vx_iload hC 1 rfl eX11_trio_90 ?_
                  refine vx_iadd hC eX11_trio_92 ?_
                  refine vx_iload hC 0 rfl eX11_trio_93 ?_
                  refine vx_iadd hC eX11_trio_95 ?_
                  refine vx_iload_n hC 5 rfl eX11_trio_96 ?_
                  obtain ⟨kn, kx, hkk, hkn, hkx⟩ : ∃ kn kx, tr2 kn kx ∧ vr 15 8 = some kn ∧ vr 15 9 = some kx := by rcases R7 with ⟨h8, h9⟩ | ⟨h8, h9⟩; exact ⟨22, 23, Or.inl ⟨rfl, rfl⟩, h8, h9⟩; exact ⟨23, 22, Or.inr ⟨rfl, rfl⟩, h8, h9⟩
                  refine vx_callV_v hC (kX2_playTrio G d _ _ _ _ _ hO kn kx hkk hkn hkx x1 x2 (x1 + x2 + x3) m (by omega) (by omega) (by omega)) ly_X11_176 (ot_15 hO) rfl rfl rfl hRm (by omega) (Nat.le_of_ble_eq_true rfl) rfl eX11_trio_97 (fun n9 t9 a9 b9 c9 h9 => ?_)
                  obtain ⟨rfl, rfl, p1, p2, p3, p4, p5, p6⟩ := h9
                  have hO9 : xo n tau c9 := xo_15 hO p2 p3
                  obtain ⟨p7, p8, p9⟩ := p4 w (by omega) (by omega)
                  have h6l := six_le (t := m.toNat) (by omega)
                  refine vx_aload_n hC 3 rfl eX11_trio_100 ?_
                  refine vx_gr hC 3 (ot_0 hO9) lf_X11_24 rfl (or_0_3 hO9) eX11_trio_101 ?_
                  refine vx_gr hC 11 (ot_15 hO9) lf_X11_180 rfl (or_15_11 hO9) eX11_trio_104 ?_
                  refine vx_iload_n hC 6 rfl eX11_trio_107 ?_
                  refine vx_laload hC (ot_25 hO9) (by omega) (by omega) eX11_trio_108 ?_
                  refine vx_aload_n hC 3 rfl eX11_trio_109 ?_
                  refine vx_gr hC 3 (ot_0 hO9) lf_X11_24 rfl (or_0_3 hO9) eX11_trio_110 ?_
                  refine vx_gl hC 2 (ot_15 hO9) lf_X11_141 rfl eX11_trio_113 ?_
                  refine vx_eql p5 ?_
                  refine vx_iload hC 7 rfl eX11_trio_116 ?_
                  refine vx_callS_l hC (kX11_lowest G (d + 1) _ _ _ _ _ _ _ _ (by omega) (by omega) (by omega)) ly_X11_145 rfl hRm (by omega) (Nat.le_of_ble_eq_true rfl) rfl eX11_trio_118 (fun x16 n9 t9 a9 b9 c9 hx16 => ?_)
                  obtain ⟨hx16, rfl, rfl, rfl, rfl, rfl⟩ := hx16
                  have hT9 : fu fz0 (x1 * 13 + x2) 1 = t3_0 x := by funext z; unfold fu fz0 t3_0; rw [show x1 = x / 100 by omega, show x2 = x / 10 % 10 by omega]
                  have hS9 : x1 + x2 + x3 = t3_S x := by unfold t3_S; omega
                  rw [hT9, hS9] at p7
                  exact vx_lret hC hM eX11_trio_121 (⟨_, rfl, by unfold sp_trio; rw [if_pos (by omega)]; simp only [hx1, hx2, hx3, hx16]; rw [p7], cq_tri hO hR p1 p2 p3 p6⟩)
                · refine vx_ldc2 hC (-9223372036854775808) wd_680 eX11_trio_76 ?_
                  exact vx_lret hC hM eX11_trio_79 (⟨_, rfl, by unfold sp_trio; rw [if_neg (by omega)]; rfl, cq_ro hO hR (fun k hk => rfl) (fun k hk => rfl)⟩)
      · refine vx_ldc2 hC (-9223372036854775808) wd_680 eX11_trio_45 ?_
        exact vx_lret hC hM eX11_trio_48 (⟨_, rfl, by unfold sp_trio; rw [if_neg (by omega)]; rfl, cq_ro hO hR (fun k hk => rfl) (fun k hk => rfl)⟩)
