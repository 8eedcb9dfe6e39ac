theorem bs_m_e {g lim q : Int} (hg : 0 ≤ g) (hl : 1 ≤ lim) (h : q = 0 ∨ q = g) : bs_m g lim q = 0 := by
  have g8 := mz_le_r q (g - q)
  have g9 := mz_le_r (mz_le q (g - q)) lim
  unfold bs_m
  omega
theorem bs_q_e {od : Int → Int → Int} {g lim q : Int} {f : Int → Int} (hg : 0 ≤ g) (hl : 1 ≤ lim) (h : q = 0 ∨ q = g) : bs_q od g lim f q = (10 * f q, 0) := by
  unfold bs_q
  rw [bs_m_e hg hl h, if_pos h]
  rfl
theorem bs_q_i {od : Int → Int → Int} {g lim q : Int} {f : Int → Int} (h : ¬ (q = 0 ∨ q = g)) : bs_q od g lim f q = bs_run (od q) f q (bs_m g lim q).toNat 1 (-1) 0 := by unfold bs_q; rw [if_neg h]
theorem bs_s_e {od : Int → Int → Int} {g lim n u : Int} (hg : 0 ≤ g) (hl : 1 ≤ lim) (h : u = 0 ∨ u = g) : bs_s od g lim n u = 0 := by
  unfold bs_s
  split
  · rfl
  · rw [bs_q_e hg hl h]
theorem bs_run_z {od f : Int → Int} {q st z z1 : Int} {c : Nat} (h : -1 < bs_v od f q st) : bs_run od f q (c + 1) st (-1) z = bs_run od f q (c + 1) st (-1) z1 := by rw [bs_run, bs_run, if_pos h, if_pos h]
theorem bs_n_0 {od : Int → Int → Int} {g lim : Int} (hg : 1 ≤ g) (hl : 1 ≤ lim) : ∀ c : Nat, bs_n od g lim c (bs_0 g) 0 = 0
  | 0 => by rw [bs_n]; unfold bs_0; rw [if_neg (by omega)]
  | c + 1 => by
    rw [bs_n_s]
    unfold bs_1
    rw [if_pos (by omega), bs_q_e (by omega) hl (Or.inl rfl), bs_n_0 hg hl c]
    rfl
theorem bs_n_hi {od : Int → Int → Int} {g lim : Int} : ∀ (c : Nat) (z : Int), g < z → bs_n od g lim c (bs_0 g) z = 0
  | 0, z, h => by rw [bs_n]; unfold bs_0; rw [if_neg (by omega)]
  | c + 1, z, h => by rw [bs_n_s]; unfold bs_1; rw [if_neg (by omega)]
theorem bs_s_s (od : Int → Int → Int) (g lim u : Int) (t : Nat) : bs_s od g lim ((t + 1 : Nat) : Int) u = (bs_q od g lim (bs_n od g lim t (bs_0 g)) u).2 := by
  unfold bs_s
  rw [if_neg (by omega), show (((t + 1 : Nat) : Int) - 1).toNat = t by omega]
set_option maxHeartbeats 4000000 in
set_option maxRecDepth 100000 in
theorem kX2_search (G : xg_T) (d : Nat) (n : Nat) (tau : Nat → Nat × Nat) (vi vl : Nat → Int → Int) (vr : Nat → Int → Option Nat) (hO : xo n tau vr) (od : Int → Int → Int) (g nn lim : Int) (hg : 2 ≤ g ∧ g ≤ 12) (hnn : 0 ≤ nn ∧ nn ≤ 15) (hlim : 1 ≤ lim ∧ lim ≤ 99) (hodr : ∀ q st, 1 ≤ od q st ∧ od q st ≤ 9) (hao : ∀ q st, 1 ≤ q → q < g → 1 ≤ st → st ≤ q → st ≤ g - q → vi 21 (q * 7 + st) = od q st) : xm G yX2_search cX2_search 6 none (d + 2) 0 0 [xa_r 15, xa_i g, xa_i nn, xa_i lim] n tau vi vl vr (xp_v (fun n1 t1 a1 b1 c1 => (ag 13 (b1 16) (bs_n od g lim nn.toNat (bs_0 g))) ∧ (b1 15 2 = (10 : Int) ^ nn.toNat) ∧ (∀ u, 0 ≤ u → u ≤ g → a1 18 u = bs_s od g lim nn u) ∧ xs_F (fun k => ¬ k = 15 ∧ ¬ k = 16 ∧ ¬ k = 17 ∧ ¬ k = 18) n tau vi vl vr n1 t1 a1 b1 c1)) := by
  refine xm.of (lv := [(0, xa_r 15), (1, xa_i g), (2, xa_i nn), (3, xa_i lim)]) (by decide) (Nat.le_of_ble_eq_true rfl) rfl (fun K hC hM hRm => ?_)
  refine vx_aload_n hC 0 rfl eX2_search_0 ?_
  refine vx_gr hC 0 (ot_15 hO) lf_X2_11 rfl (or_15_0 hO) eX2_search_1 ?_
  refine vx_lconst hC 0 (by decide) eX2_search_4 ?_
  refine vx_callS_v hC (kJ7_fill_d0a16 G d _ _ _ _ _ 16 13 (ot_16 hO) (by omega) 0) ly_X2_58 rfl hRm (by omega) (Nat.le_of_ble_eq_true rfl) rfl eX2_search_5 (fun ng2 tg2 ag2 bg2 cg2 hg2 => ?_)
  obtain ⟨qg2_0, rfl, rfl, rfl, frg2⟩ := hg2
  have hg2_17 : bg2 17 = vl 17 := (frg2 17 (by omega)).2
  have hg2_15_2 : bg2 15 2 = vl 15 2 := (congrFun (frg2 15 (by omega)).2 _)
  have hg2_18 : ag2 18 = vi 18 := (frg2 18 (by omega)).1
  have frvig2 : ∀ k : Nat, (¬ k = 15 ∧ ¬ k = 16 ∧ ¬ k = 17 ∧ ¬ k = 18) → ag2 k = vi k := fun k hk => (frg2 k (by omega)).1
  have frvlg2 : ∀ k : Nat, (¬ k = 15 ∧ ¬ k = 16 ∧ ¬ k = 17 ∧ ¬ k = 18) → bg2 k = vl k := fun k hk => (frg2 k (by omega)).2
  refine vx_aload_n hC 0 rfl eX2_search_8 ?_
  refine vx_gr hC 4 (ot_15 hO) lf_X2_18 rfl (or_15_4 hO) eX2_search_9 ?_
  refine vx_iconst hC eX2_search_12 ?_
  refine vx_callS_v hC (kJ7_fill_53178 G d _ _ _ _ _ 18 13 (ot_18 hO) (by omega) 0) ly_X2_95 rfl hRm (by omega) (Nat.le_of_ble_eq_true rfl) rfl eX2_search_13 (fun ng4 tg4 ag4 bg4 cg4 hg4 => ?_)
  obtain ⟨qg4_0, rfl, rfl, rfl, rfl, frg4⟩ := hg4
  have frvig4 : ∀ k : Nat, (¬ k = 15 ∧ ¬ k = 16 ∧ ¬ k = 17 ∧ ¬ k = 18) → ag4 k = vi k := fun k hk => (frg4 k (by omega)).trans (frvig2 k hk)
  have hz18 : ∀ u, 0 ≤ u → u < 13 → ag4 18 u = 0 := fun u u1 u2 => qg4_0 u u1 u2
  refine vx_aload_n hC 0 rfl eX2_search_16 ?_
  refine vx_gr hC 0 (ot_15 hO) lf_X2_11 rfl (or_15_0 hO) eX2_search_17 ?_
  refine vx_iload_n hC 1 rfl eX2_search_20 ?_
  refine vx_lconst hC 1 (by decide) eX2_search_21 ?_
  refine vx_lastore hC (ot_16 hO) (by omega) (by omega) eX2_search_22 ?_
  refine vx_vl (fun v5 hv5 => ?_)
  obtain ⟨f6, hf6⟩ : ∃ f, f = fu (fz0) g 1 := ⟨_, rfl⟩
  have hv5_16 : ag 13 (v5 16) f6 := by rw [hv5, xu_k, hf6]; exact ag_fu qg2_0
  have hv5_17 : v5 17 = vl 17 := by rw [hv5, xu_c _ _ _ _ (by decide), hg2_17]
  have hv5_15_2 : v5 15 2 = vl 15 2 := by rw [hv5, xu_c _ _ _ _ (by decide), hg2_15_2]
  have frv5 : ∀ k : Nat, (¬ k = 15 ∧ ¬ k = 16 ∧ ¬ k = 17 ∧ ¬ k = 18) → v5 k = vl k := fun k hk => by rw [hv5, xu_c _ _ _ _ (by omega)]; exact frvlg2 k hk
  have aB : ag 13 (v5 16) (bs_0 g) := by rw [show bs_0 g = f6 from by rw [hf6]; funext z; unfold bs_0 fu fz0; rfl]; exact hv5_16
  refine vx_aload_n hC 0 rfl eX2_search_23 ?_
  refine vx_lconst hC 1 (by decide) eX2_search_24 ?_
  refine vx_pl hC 2 (ot_15 hO) lp_X2_70 rfl (Or.inl rfl) rfl eX2_search_25 ?_
  refine vx_vl (fun v7 hv7 => ?_)
  have hv7_16 : ag 13 (v7 16) (bs_0 g) := by rw [hv7, xu_c _ _ _ _ (by decide)]; exact aB
  have hv7_17 : v7 17 = vl 17 := by rw [hv7, xu_c _ _ _ _ (by decide), hv5_17]
  have hv7_15_2 : v7 15 2 = 1 := by rw [hv7, xu_k, fu_s]
  have frv7 : ∀ k : Nat, (¬ k = 15 ∧ ¬ k = 16 ∧ ¬ k = 17 ∧ ¬ k = 18) → v7 k = vl k := fun k hk => by rw [hv7, xu_c _ _ _ _ (by omega)]; exact frv5 k hk
  refine vx_iconst hC eX2_search_28 ?_
  refine vx_istore hC (lv1 := [(4, xa_i 0), (0, xa_r 15), (1, xa_i g), (2, xa_i nn), (3, xa_i lim)]) (by decide) rfl eX2_search_29 ?_
  have LP31 : ∀ (j : Nat) (cc : Nat) (t0 : Nat) (F : Int → Int) (m1 : Nat → Int → Int) (m2 : Nat → Int → Int) (hcc : (t0 : Int) + (cc : Int) = nn) (hF : F = bs_n od g lim t0 (bs_0 g)) (aF : ag 13 (m2 16) F) (eW : m2 15 2 = (10 : Int) ^ t0) (hfs : ∀ u, 0 ≤ u → u ≤ g → m1 18 u = bs_s od g lim (t0 : Int) u) (fi : ∀ k : Nat, (¬ k = 15 ∧ ¬ k = 16 ∧ ¬ k = 17 ∧ ¬ k = 18) → m1 k = vi k) (fl : ∀ k : Nat, (¬ k = 15 ∧ ¬ k = 16 ∧ ¬ k = 17 ∧ ¬ k = 18) → m2 k = vl k) (hj : (cc : Int) < (j : Int)), xv G K 6 (xk_Q G K (xp_v (fun n1 t1 a1 b1 c1 => (ag 13 (b1 16) (bs_n od g lim nn.toNat (bs_0 g))) ∧ (b1 15 2 = (10 : Int) ^ nn.toNat) ∧ (∀ u, 0 ≤ u → u ≤ g → a1 18 u = bs_s od g lim nn u) ∧ xs_F (fun k => ¬ k = 15 ∧ ¬ k = 16 ∧ ¬ k = 17 ∧ ¬ k = 18) n tau vi vl vr n1 t1 a1 b1 c1)) 0 0) 0 0 n tau m1 m2 vr 31 [(4, xa_i (t0 : Int)), (0, xa_r 15), (1, xa_i g), (2, xa_i nn), (3, xa_i lim)] [] := by
    intro j
    induction j with
    | zero => intro cc t0 F m1 m2 hcc hF aF eW hfs fi fl hj; exfalso; omega
    | succ j ihA =>
      intro cc t0 F m1 m2 hcc hF aF eW hfs fi fl hj
      refine vx_iload hC 0 rfl eX2_search_31 ?_
      refine vx_iload_n hC 3 rfl eX2_search_33 ?_
      refine vx_icmp_ge hC (tgt := 128) (by omega) (by decide) eX2_search_34 (fun c8 => ?_) (fun c8 => ?_)
      · exact vx_vret hC hM eX2_search_128 (⟨rfl, (by rw [show nn.toNat = t0 by omega, ← hF]; exact aF), (by rw [show nn.toNat = t0 by omega]; exact eW), (fun u u1 u2 => by rw [hfs u u1 u2, show (t0 : Int) = nn by omega]), rfl, rfl, rfl, fun k hk => ⟨fi k hk, fl k hk⟩⟩)
      · obtain ⟨cc1, rfl⟩ : ∃ cc1, cc = cc1 + 1 := ⟨cc - 1, by omega⟩
        refine vx_aload_n hC 1 rfl eX2_search_37 ?_
        refine vx_gr hC 1 (ot_15 hO) lf_X2_15 rfl (or_15_1 hO) eX2_search_38 ?_
        refine vx_lconst hC 0 (by decide) eX2_search_41 ?_
        refine vx_callS_v hC (kJ7_fill_d0a16 G d _ _ _ _ _ 17 13 (ot_17 hO) (by omega) 0) ly_X2_58 rfl hRm (by omega) (Nat.le_of_ble_eq_true rfl) rfl eX2_search_42 (fun ng10 tg10 ag10 bg10 cg10 hg10 => ?_)
        obtain ⟨qg10_0, rfl, rfl, rfl, frg10⟩ := hg10
        have hg10_16 : ag 13 (bg10 16) (F) := by rw [(frg10 16 (by omega)).2]; exact aF
        have hg10_15_2 : bg10 15 2 = (10 : Int) ^ t0 := (congrFun (frg10 15 (by omega)).2 _).trans eW
        have hg10_18 : ag10 18 = m1 18 := (frg10 18 (by omega)).1
        have frvig10 : ∀ k : Nat, (¬ k = 15 ∧ ¬ k = 16 ∧ ¬ k = 17 ∧ ¬ k = 18) → ag10 k = vi k := fun k hk => (frg10 k (by omega)).1.trans (fi k hk)
        have frvlg10 : ∀ k : Nat, (¬ k = 15 ∧ ¬ k = 16 ∧ ¬ k = 17 ∧ ¬ k = 18) → bg10 k = vl k := fun k hk => (frg10 k (by omega)).2.trans (fl k hk)
        refine vx_iconst hC eX2_search_45 ?_
        refine vx_istore hC (lv1 := [(5, xa_i 1), (4, xa_i (t0 : Int)), (0, xa_r 15), (1, xa_i g), (2, xa_i nn), (3, xa_i lim)]) (by decide) rfl eX2_search_46 ?_
        have LP48 : ∀ (j : Nat) (q : Int) (m3 : Nat → Int → Int) (m4 : Nat → Int → Int) (hq : 1 ≤ q ∧ q ≤ g) (aN : ∀ z, 0 ≤ z → z < 13 → m4 17 z = if 1 ≤ z ∧ z < q then bs_1 od g lim F z else 0) (hf3 : ∀ u, 0 ≤ u → u ≤ g → m3 18 u = if 1 ≤ u ∧ u < q then (bs_q od g lim F u).2 else bs_s od g lim (t0 : Int) u) (aF4 : ag 13 (m4 16) F) (eW4 : m4 15 2 = (10 : Int) ^ t0) (fi3 : ∀ k : Nat, (¬ k = 15 ∧ ¬ k = 16 ∧ ¬ k = 17 ∧ ¬ k = 18) → m3 k = vi k) (fl4 : ∀ k : Nat, (¬ k = 15 ∧ ¬ k = 16 ∧ ¬ k = 17 ∧ ¬ k = 18) → m4 k = vl k) (hj : g - q < (j : Int)), xv G K 6 (xk_Q G K (xp_v (fun n1 t1 a1 b1 c1 => (ag 13 (b1 16) (bs_n od g lim nn.toNat (bs_0 g))) ∧ (b1 15 2 = (10 : Int) ^ nn.toNat) ∧ (∀ u, 0 ≤ u → u ≤ g → a1 18 u = bs_s od g lim nn u) ∧ xs_F (fun k => ¬ k = 15 ∧ ¬ k = 16 ∧ ¬ k = 17 ∧ ¬ k = 18) n tau vi vl vr n1 t1 a1 b1 c1)) 0 0) 0 0 n tau m3 m4 vr 48 [(5, xa_i q), (4, xa_i (t0 : Int)), (0, xa_r 15), (1, xa_i g), (2, xa_i nn), (3, xa_i lim)] [] := by
          intro j
          induction j with
          | zero => intro q m3 m4 hq aN hf3 aF4 eW4 fi3 fl4 hj; exfalso; omega
          | succ j ihB =>
            intro q m3 m4 hq aN hf3 aF4 eW4 fi3 fl4 hj
            refine vx_iload hC 0 rfl eX2_search_48 ?_
            refine vx_iload_n hC 3 rfl eX2_search_50 ?_
            refine vx_icmp_ge hC (tgt := 79) (by omega) (by decide) eX2_search_51 (fun c11 => ?_) (fun c11 => ?_)
            · refine vx_aload_n hC 2 rfl eX2_search_79 ?_
              refine vx_gr hC 1 (ot_15 hO) lf_X2_15 rfl (or_15_1 hO) eX2_search_80 ?_
              refine vx_iload_n hC 3 rfl eX2_search_83 ?_
              refine vx_aload_n hC 2 rfl eX2_search_84 ?_
              refine vx_gr hC 0 (ot_15 hO) lf_X2_11 rfl (or_15_0 hO) eX2_search_85 ?_
              refine vx_iload_n hC 3 rfl eX2_search_88 ?_
              refine vx_laload hC (ot_16 hO) (by omega) (by omega) eX2_search_89 ?_
              refine vx_eql (aF4 _ (by omega) (by omega)) ?_
              refine vx_ldc2 hC (10) wd_694 eX2_search_90 ?_
              refine vx_lmul hC eX2_search_93 ?_
              refine vx_topl (fun x12 hx12 => ?_)
              refine vx_lastore hC (ot_17 hO) (by omega) (by omega) eX2_search_94 ?_
              refine vx_vl (fun v13 hv13 => ?_)
              have hv13_16 : ag 13 (v13 16) (F) := by rw [hv13, xu_c _ _ _ _ (by decide)]; exact aF4
              obtain ⟨f14, hf14⟩ : ∃ f, f = fu (m4 17) g x12 := ⟨_, rfl⟩
              have hv13_17 : v13 17 = f14 := by rw [hv13, hf14, xu_k]
              have hv13_15_2 : v13 15 2 = (10 : Int) ^ t0 := by rw [hv13, xu_c _ _ _ _ (by decide), eW4]
              have frv13 : ∀ k : Nat, (¬ k = 15 ∧ ¬ k = 16 ∧ ¬ k = 17 ∧ ¬ k = 18) → v13 k = vl k := fun k hk => by rw [hv13, xu_c _ _ _ _ (by omega)]; exact fl4 k hk
              have aN7 : ag 13 (v13 17) (bs_1 od g lim F) := by
                intro z z1 z2
                rw [hv13_17, hf14]
                by_cases e9 : z = g
                · rw [e9, fu_s]; unfold bs_1; rw [if_pos (by omega), bs_q_e (by omega) hlim.1 (Or.inr rfl)]; show _ = 10 * F g; simp only [hx12]; omega
                · rw [fu_n _ _ _ e9, aN z z1 z2]
                  by_cases e8 : 1 ≤ z ∧ z < q
                  · rw [if_pos e8]
                  · rw [if_neg e8]; unfold bs_1
                    by_cases e7 : z ≤ g
                    · rw [if_pos e7, bs_q_e (by omega) hlim.1 (by omega)]; show 0 = 10 * F z; rw [show z = 0 by omega, hF, bs_n_0 (by omega) hlim.1]; rfl
                    · rw [if_neg e7]
              have hfs9 : ∀ u, 0 ≤ u → u ≤ g → m3 18 u = bs_s od g lim ((t0 + 1 : Nat) : Int) u := by
                intro u u1 u2
                rw [hf3 u u1 u2, bs_s_s, ← hF]
                by_cases e8 : 1 ≤ u ∧ u < q
                · rw [if_pos e8]
                · rw [if_neg e8, bs_s_e (by omega) hlim.1 (by omega), bs_q_e (by omega) hlim.1 (by omega)]
              refine vx_aload_n hC 2 rfl eX2_search_95 ?_
              refine vx_dup hC rfl eX2_search_96 ?_
              refine vx_gl hC 2 (ot_15 hO) lf_X2_70 rfl eX2_search_97 ?_
              refine vx_eql hv13_15_2 ?_
              refine vx_ldc2 hC (10) wd_694 eX2_search_100 ?_
              refine vx_lmul hC eX2_search_103 ?_
              refine vx_topl (fun x15 hx15 => ?_)
              refine vx_pl hC 2 (ot_15 hO) lp_X2_70 rfl (Or.inl rfl) rfl eX2_search_104 ?_
              refine vx_vl (fun v16 hv16 => ?_)
              have hv16_16 : ag 13 (v16 16) (F) := by rw [hv16, xu_c _ _ _ _ (by decide)]; exact hv13_16
              have hv16_17 : ag 13 (v16 17) ((bs_1 od g lim F)) := by rw [hv16, xu_c _ _ _ _ (by decide)]; exact aN7
              have hv16_15_2 : v16 15 2 = x15 := by rw [hv16, xu_k, fu_s]
              have frv16 : ∀ k : Nat, (¬ k = 15 ∧ ¬ k = 16 ∧ ¬ k = 17 ∧ ¬ k = 18) → v16 k = vl k := fun k hk => by rw [hv16, xu_c _ _ _ _ (by omega)]; exact frv13 k hk
              refine vx_aload_n hC 2 rfl eX2_search_107 ?_
              refine vx_gr hC 1 (ot_15 hO) lf_X2_15 rfl (or_15_1 hO) eX2_search_108 ?_
              refine vx_iconst hC eX2_search_111 ?_
              refine vx_aload_n hC 2 rfl eX2_search_112 ?_
              refine vx_gr hC 0 (ot_15 hO) lf_X2_11 rfl (or_15_0 hO) eX2_search_113 ?_
              refine vx_iconst hC eX2_search_116 ?_
              refine vx_bipush hC (by decide) eX2_search_117 ?_
              refine vx_copyJ hC (ot_17 hO) (ot_16 hO) (by decide) (by omega) ly_X2_83 hRm (by omega) (Nat.le_of_ble_eq_true rfl) eX2_search_119 ?_
              refine vx_vl (fun v17 hv17 => ?_)
              have whv17_16 : v17 16 = xcp (v16 17) (v16 16) 0 0 13 := by rw [hv17]; exact if_pos rfl
              have hv17_16 : ag 13 (v17 16) ((bs_1 od g lim F)) := by rw [whv17_16]; exact xcp_ag hv16_17
              have whv17_17 : v17 17 = v16 17 := by rw [hv17]; exact if_neg (by decide)
              have hv17_17 : ag 13 (v17 17) ((bs_1 od g lim F)) := by rw [whv17_17]; exact hv16_17
              have whv17_15_2 : v17 15 = v16 15 := by rw [hv17]; exact if_neg (by decide)
              have hv17_15_2 : v17 15 2 = x15 := by rw [whv17_15_2]; exact hv16_15_2
              have frv17 : ∀ k : Nat, (¬ k = 15 ∧ ¬ k = 16 ∧ ¬ k = 17 ∧ ¬ k = 18) → v17 k = vl k := fun k hk => by rw [hv17]; show (if k = 16 then _ else _) = _; rw [if_neg (by omega)]; exact frv16 k hk
              refine vx_iinc hC (lv1 := [(4, xa_i ((t0 : Int) + 1)), (5, xa_i q), (0, xa_r 15), (1, xa_i g), (2, xa_i nn), (3, xa_i lim)]) 1 rfl (by decide) rfl eX2_search_122 ?_
              refine vx_goto hC (tgt := 31) (by decide) eX2_search_125 ?_
              refine vx_lv (lv1 := [(4, xa_i ((t0 : Int) + 1)), (0, xa_r 15), (1, xa_i g), (2, xa_i nn), (3, xa_i lim)]) [0, 2, 3, 4, 5] rfl ?_
              exact ihA cc1 (t0 + 1) (bs_1 od g lim F) m3 v17 (by omega) (by rw [hF, ← bs_n_s]) hv17_16 (by rw [hv17_15_2, hx15, Int.pow_succ]) hfs9 fi3 frv17 (by omega)
            · refine vx_aload_n hC 2 rfl eX2_search_54 ?_
              refine vx_iload hC 0 rfl eX2_search_55 ?_
              refine vx_iload_n hC 5 rfl eX2_search_57 ?_
              refine vx_iload hC 0 rfl eX2_search_58 ?_
              refine vx_iload_n hC 3 rfl eX2_search_60 ?_
              refine vx_iload hC 0 rfl eX2_search_61 ?_
              refine vx_isub hC eX2_search_63 ?_
              refine vx_mmin hC (by omega) ly_X2_89 hRm (by omega) (Nat.le_of_ble_eq_true rfl) eX2_search_64 ?_
              refine vx_top (fun x18 hx18 => ?_)
              have rx18 := mmin_r hx18
              refine vx_mmin hC (by omega) ly_X2_89 hRm (by omega) (Nat.le_of_ble_eq_true rfl) eX2_search_67 ?_
              refine vx_top (fun x19 hx19 => ?_)
              have rx19 := mmin_r hx19
              have hmo : x19 = bs_m g lim q := by have z1 := mz_le_r q (g - q); have z2 := mz_le_r (mz_le q (g - q)) lim; unfold bs_m; omega
              have hbm := bs_m_r (g := g) (lim := lim) (q := q) (by omega) (by omega) (by omega)
              have hok : bs_ok g t0 F := by rw [hF]; exact bs_ok_n hodr hlim.1 t0
              have ht10 := ten_le (t := t0) (by omega)
              have hFr : ∀ z, 0 ≤ z → z ≤ 12 → 0 ≤ F z ∧ F z ≤ 1000000000000000 := by
                intro z z1 z2
                by_cases e9 : z ≤ g
                · have := hok z z1 e9; omega
                · rw [hF, bs_n_hi t0 z (by omega)]; omega
              refine vx_callV_v hC (kX2_chooseStake G d _ _ _ _ _ hO (od q) F q x19 (by omega) (by omega) (fun st t1 t2 => by rw [fi3 21 (by omega)]; exact hao q st (by omega) (by omega) t1 (by omega) (by omega)) (hodr q) aF4 hFr) ly_X2_98 (ot_15 hO) rfl rfl rfl hRm (by omega) (Nat.le_of_ble_eq_true rfl) rfl eX2_search_70 (fun ng21 tg21 ag21 bg21 cg21 hg21 => ?_)
              obtain ⟨qg21_0, qg21_1, rfl, rfl, rfl, frg21⟩ := hg21
              have hg21_16 : ag 13 (bg21 16) (F) := by rw [(frg21 16 (by omega)).2]; exact aF4
              have hg21_15_2 : bg21 15 2 = (10 : Int) ^ t0 := (congrFun (frg21 15 (by omega)).2 _).trans eW4
              have frvig21 : ∀ k : Nat, (¬ k = 15 ∧ ¬ k = 16 ∧ ¬ k = 17 ∧ ¬ k = 18) → ag21 k = vi k := fun k hk => (frg21 k (by omega)).1.trans (fi3 k hk)
              have frvlg21 : ∀ k : Nat, (¬ k = 15 ∧ ¬ k = 16 ∧ ¬ k = 17 ∧ ¬ k = 18) → bg21 k = vl k := fun k hk => (frg21 k (by omega)).2.trans (fl4 k hk)
              have hq9 : bs_run (od q) F q (x19).toNat 1 (-1) (m3 18 q) = bs_q od g lim F q := by rw [bs_q_i (by omega), hmo, show (bs_m g lim q).toNat = ((bs_m g lim q).toNat - 1) + 1 by omega]; exact bs_run_z (by have := (bs_v_r (od := od q) (f := F) (g := g) (q := q) (st := 1) (b := (10 : Int) ^ t0) (hodr q 1) hok (by omega) (by omega) (by omega)).1; omega)
              have aN9 : ∀ z, 0 ≤ z → z < 13 → bg21 17 z = if 1 ≤ z ∧ z < q + 1 then bs_1 od g lim F z else 0 := by
                intro z z1 z2
                rw [qg21_0, hq9]
                by_cases e9 : z = q
                · rw [e9, fu_s, if_pos (by omega)]; unfold bs_1; rw [if_pos (by omega)]
                · rw [fu_n _ _ _ e9, aN z z1 z2]; split <;> split <;> (first | rfl | (exfalso; omega))
              have hf9 : ∀ u, 0 ≤ u → u ≤ g → ag21 18 u = if 1 ≤ u ∧ u < q + 1 then (bs_q od g lim F u).2 else bs_s od g lim (t0 : Int) u := by
                intro z z1 z2
                rw [qg21_1, hq9]
                by_cases e9 : z = q
                · rw [e9, fu_s, if_pos (by omega)]
                · rw [fu_n _ _ _ e9, hf3 z z1 z2]; split <;> split <;> (first | rfl | (exfalso; omega))
              refine vx_iinc hC (lv1 := [(5, xa_i (q + 1)), (4, xa_i (t0 : Int)), (0, xa_r 15), (1, xa_i g), (2, xa_i nn), (3, xa_i lim)]) 0 rfl (by decide) rfl eX2_search_73 ?_
              refine vx_goto hC (tgt := 48) (by decide) eX2_search_76 ?_
              exact ihB (q + 1) ag21 bg21 (by omega) aN9 hf9 hg21_16 hg21_15_2 frvig21 frvlg21 (by omega)
        exact LP48 13 1 ag10 bg10 (by omega) (fun z z1 z2 => by rw [if_neg (by omega)]; exact qg10_0 z z1 z2) (fun u u1 u2 => by rw [if_neg (by omega), ← hfs u u1 u2]; exact congrFun hg10_18 u) hg10_16 hg10_15_2 frvig10 frvlg10 (by omega)
  exact LP31 16 nn.toNat 0 (bs_0 g) ag4 v7 (by omega) rfl hv7_16 hv7_15_2 (fun u u1 u2 => by rw [hz18 u u1 (by omega)]; unfold bs_s; rw [if_pos (by simp)]) frvig4 frv7 (by omega)
