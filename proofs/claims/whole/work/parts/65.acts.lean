def bc (f : Int → Int) : List Int → Int → Int
  | [] => f
  | b :: bs => bc (fu (fu f (1 + f 0) b) 0 (f 0 + 1)) bs
theorem bc_app : ∀ (a b : List Int) (f : Int → Int), bc f (a ++ b) = bc (bc f a) b
  | [], _, _ => rfl
  | x :: a, b, f => by show bc (fu (fu f (1 + f 0) x) 0 (f 0 + 1)) (a ++ b) = _; rw [bc_app a b]; rfl
theorem bc_0 : ∀ (L : List Int) (f : Int → Int), bc f L 0 = f 0 + (L.length : Int)
  | [], f => by rw [bc]; simp
  | x :: a, f => by rw [bc, bc_0 a, fu_s, List.length_cons]; omega
theorem bc_at : ∀ (L : List Int) (f g : Int → Int) (r z : Int), f 0 = r → 0 ≤ r → (∀ w, 0 ≤ w → w < r → f (1 + w) = g w) → 0 ≤ z → z < r + (L.length : Int) → bc f L (1 + z) = bput g r L z
  | [], f, g, r, z, h0, hr, hg, z1, z2 => by rw [bc, bput]; exact hg z z1 (by simpa using z2)
  | x :: a, f, g, r, z, h0, hr, hg, z1, z2 => by
    rw [bc, bput]
    refine bc_at a _ (fu g r x) (r + 1) z (by rw [fu_s, h0]) (by omega) (fun w w1 w2 => ?_) z1 (by rw [List.length_cons] at z2; omega)
    rw [fu_n _ _ _ (by omega), h0]
    by_cases e : w = r
    · rw [e, fu_s, fu_s]
    · rw [fu_n _ _ _ (by omega), fu_n _ _ _ e]; exact hg w w1 (by omega)
theorem pn_cl (kd : Int) : ∃ C T N, vwCl[pn kd]? = some (C, T, N) := by
  unfold pn
  (repeat' split) <;> exact ⟨_, _, _, rfl⟩
theorem pn_k {kd : Int} (h : 0 ≤ kd ∧ kd ≤ 6) : (kd = 1 ∨ kd = 4 → xp_K 0 (pn kd)) ∧ (kd = 2 ∨ kd = 5 → xp_K 9 (pn kd)) ∧ (kd = 3 ∨ kd = 6 → xp_K 7 (pn kd)) ∧ (kd = 4 → xp_K 3 (pn kd)) ∧ (kd = 5 → xp_K 1 (pn kd)) ∧ (kd = 6 → xp_K 10 (pn kd)) := by
  refine ⟨?_, ?_, ?_, ?_, ?_, ?_⟩
  · rintro (rfl | rfl) <;> simp [xp_K, pn]
  · rintro (rfl | rfl) <;> simp [xp_K, pn]
  · rintro (rfl | rfl) <;> simp [xp_K, pn]
  · rintro rfl; simp [xp_K, pn]
  · rintro rfl; simp [xp_K, pn]
  · rintro rfl; simp [xp_K, pn]
set_option maxHeartbeats 4000000 in
set_option maxRecDepth 100000 in
theorem kX4_began (G : xg_T) (d : Nat) (n : Nat) (tau : Nat → Nat × Nat) (vi vl : Nat → Int → Int) (vr : Nat → Int → Option Nat) (hO : xo n tau vr) (b : Int) (hr : 0 ≤ vi 30 0 ∧ vi 30 0 < 20) : xm G yX4_began cX4_began 2 none (d + 1) 0 0 [xa_i b, xa_r 30] n tau vi vl vr (xp_v (fun n1 t1 a1 b1 c1 => (a1 30 = bc (vi 30) [b]) ∧ xs_I (fun k => ¬ k = 30) n tau vi vl vr n1 t1 a1 b1 c1)) := by
  refine xm.of (lv := [(0, xa_i b), (1, xa_r 30)]) (by decide) (Nat.le_of_ble_eq_true rfl) rfl (fun K hC hM hRm => ?_)
  refine vx_aload_n hC 1 rfl eX4_began_0 ?_
  refine vx_iconst hC eX4_began_1 ?_
  refine vx_iaload hC (ot_30 hO) (by omega) (by omega) eX4_began_2 ?_
  refine vx_if_lt hC (tgt := 22) (by omega) (by decide) eX4_began_3 (fun c1 => absurd c1 (by omega)) (fun c1 => ?_)
  refine vx_aload_n hC 1 rfl eX4_began_6 ?_
  refine vx_iconst hC eX4_began_7 ?_
  refine vx_iaload hC (ot_30 hO) (by omega) (by omega) eX4_began_8 ?_
  refine vx_bipush hC (by decide) eX4_began_9 ?_
  refine vx_icmp_ge hC (tgt := 22) (by omega) (by decide) eX4_began_11 (fun c2 => absurd c2 (by omega)) (fun c2 => ?_)
  refine vx_aload_n hC 1 rfl eX4_began_14 ?_
  refine vx_iconst hC eX4_began_15 ?_
  refine vx_aload_n hC 1 rfl eX4_began_16 ?_
  refine vx_iconst hC eX4_began_17 ?_
  refine vx_iaload hC (ot_30 hO) (by omega) (by omega) eX4_began_18 ?_
  refine vx_iadd hC eX4_began_19 ?_
  refine vx_iload_n hC 0 rfl eX4_began_20 ?_
  refine vx_top2 (fun x3 hx3 => ?_)
  refine vx_iastore hC (ot_30 hO) (by omega) (by omega) eX4_began_21 ?_
  refine vx_vi (fun v4 hv4 => ?_)
  obtain ⟨f5, hf5⟩ : ∃ f, f = fu (vi 30) x3 b := ⟨_, rfl⟩
  have hv4_30 : v4 30 = f5 := by rw [hv4, hf5, xu_k]
  have frv4 : ∀ k : Nat, (¬ k = 30) → v4 k = vi k := fun k hk => by rw [hv4, xu_c _ _ _ _ (by omega)]
  refine vx_aload_n hC 1 rfl eX4_began_22 ?_
  refine vx_iconst hC eX4_began_23 ?_
  refine vx_dup2 hC rfl rfl eX4_began_24 ?_
  refine vx_iaload hC (ot_30 hO) (by omega) (by omega) eX4_began_25 ?_
  refine vx_eqi (congrFun hv4_30 _) ?_
  refine vx_eqi (y := vi 30 0) (by rw [hf5, fu_n _ _ _ (by omega)]) ?_
  refine vx_iconst hC eX4_began_26 ?_
  refine vx_iadd hC eX4_began_27 ?_
  refine vx_top (fun x6 hx6 => ?_)
  refine vx_iastore hC (ot_30 hO) (by omega) (by omega) eX4_began_28 ?_
  refine vx_vi (fun v7 hv7 => ?_)
  obtain ⟨f8, hf8⟩ : ∃ f, f = fu (f5) 0 x6 := ⟨_, rfl⟩
  have hv7_30 : v7 30 = f8 := by rw [hv7, hf8, xu_k, hv4_30]
  have frv7 : ∀ k : Nat, (¬ k = 30) → v7 k = vi k := fun k hk => by rw [hv7, xu_c _ _ _ _ (by omega)]; exact frv4 k hk
  exact vx_vret hC hM eX4_began_29 (⟨rfl, (by rw [hv7_30, hf8, hf5]; show _ = fu (fu (vi 30) (1 + vi 30 0) b) 0 (vi 30 0 + 1); simp only [hx3, hx6]), rfl, rfl, rfl, rfl, fun k hk => frv7 k hk⟩)
set_option maxHeartbeats 4000000 in
set_option maxRecDepth 100000 in
theorem kX4_stakesAct (G : xg_T) (d : Nat) (n : Nat) (tau : Nat → Nat × Nat) (vi vl : Nat → Int → Int) (vr : Nat → Int → Option Nat) (hO : xo n tau vr) (kp : Nat) (kd i v : Int) (ht : kp < n ∧ tau kp = (pn kd, 0)) (h45 : 45 ≤ kp) (hkd : 0 ≤ kd ∧ kd ≤ 6) (h1 : vi kp 1 = i) (h2 : vi kp 2 = v) (hr : 0 ≤ vi 30 0 ∧ vi 30 0 ≤ 17) (x : Int) : xm G yX4_stakesAct cX4_stakesAct 3 (some .int) (d + 2) 0 0 [xa_r kp, xa_i x, xa_r 30] n tau vi vl vr (xp_i (fun z9 n1 t1 a1 b1 c1 => (z9 = (((x + i, [1]) : Int × List Int)).1) ∧ (a1 30 = bc (vi 30) (((x + i, [1]) : Int × List Int)).2) ∧ xs_I (fun k => ¬ k = 30) n tau vi vl vr n1 t1 a1 b1 c1)) := by
  refine xm.of (lv := [(0, xa_r kp), (1, xa_i x), (2, xa_r 30)]) (by decide) (Nat.le_of_ble_eq_true rfl) rfl (fun K hC hM hRm => ?_)
  obtain ⟨C9, T9, N9, hc9⟩ := pn_cl kd
  
  refine vx_iconst hC eX4_stakesAct_0 ?_
  refine vx_aload_n hC 2 rfl eX4_stakesAct_1 ?_
  refine vx_callS_v hC (kX4_began G d _ _ _ _ _ hO 1 (by omega)) ly_X4_24 rfl hRm (by omega) (Nat.le_of_ble_eq_true rfl) rfl eX4_stakesAct_2 (fun ng2 tg2 ag2 bg2 cg2 hg2 => ?_)
  obtain ⟨qg2_0, rfl, rfl, rfl, rfl, frg2⟩ := hg2
  have hg2_kp_1 : ag2 kp 1 = i := (congrFun (frg2 kp (by omega)) _).trans h1
  have hg2_kp_2 : ag2 kp 2 = v := (congrFun (frg2 kp (by omega)) _).trans h2
  have frvig2 : ∀ k : Nat, (¬ k = 30) → ag2 k = vi k := fun k hk => (frg2 k (by omega))
  have e3 : ag2 30 = bc (vi 30) (([1])) := by first | exact qg2_0 | (rw [qg2_0]; exact (bc_app _ _ _).symm) | (rw [qg2_0, bc_app])
  have b4 : ag2 30 0 = vi 30 0 + ((([1]) : List Int).length : Int) := by rw [e3, bc_0]
  simp only [List.length_append, List.length_cons, List.length_nil] at b4
  refine vx_iload_n hC 1 rfl eX4_stakesAct_5 ?_
  refine vx_aload_n hC 0 rfl eX4_stakesAct_6 ?_
  refine vx_gi hC 1 ht (lf_X4_15 (xp_pn _)) rfl eX4_stakesAct_7 ?_
  refine vx_eqi hg2_kp_1 ?_
  refine vx_iadd hC eX4_stakesAct_10 ?_
  exact vx_iret hC hM rfl eX4_stakesAct_11 (⟨_, rfl, (by omega), (by first | exact e3 | (rw [e3]; done) | (rw [e3]; rfl)), rfl, rfl, rfl, rfl, fun k hk => frvig2 k hk⟩)
set_option maxHeartbeats 4000000 in
set_option maxRecDepth 100000 in
theorem kX0_stakesAct (G : xg_T) (d : Nat) (n : Nat) (tau : Nat → Nat × Nat) (vi vl : Nat → Int → Int) (vr : Nat → Int → Option Nat) (hO : xo n tau vr) (kp : Nat) (kd i v : Int) (ht : kp < n ∧ tau kp = (pn kd, 0)) (h45 : 45 ≤ kp) (hkd : 0 ≤ kd ∧ kd ≤ 6) (h1 : vi kp 1 = i) (h2 : vi kp 2 = v) (hr : 0 ≤ vi 30 0 ∧ vi 30 0 ≤ 16) (hkk : kd = 1 ∨ kd = 4) (x : Int) : xm G yX0_stakesAct cX0_stakesAct 3 (some .int) (d + 3) 0 0 [xa_r kp, xa_i x, xa_r 30] n tau vi vl vr (xp_i (fun z9 n1 t1 a1 b1 c1 => (z9 = (a_S kd i x).1) ∧ (a1 30 = bc (vi 30) (a_S kd i x).2) ∧ xs_I (fun k => ¬ k = 30) n tau vi vl vr n1 t1 a1 b1 c1)) := by
  refine xm.of (lv := [(0, xa_r kp), (1, xa_i x), (2, xa_r 30)]) (by decide) (Nat.le_of_ble_eq_true rfl) rfl (fun K hC hM hRm => ?_)
  obtain ⟨C9, T9, N9, hc9⟩ := pn_cl kd
  
  refine vx_bipush hC (by decide) eX0_stakesAct_0 ?_
  refine vx_aload_n hC 2 rfl eX0_stakesAct_2 ?_
  refine vx_callSS_v hC (kX4_began G (d + 1) _ _ _ _ _ hO 11 (by omega)) ls_X0_19 rfl hRm (by omega) (Nat.le_of_ble_eq_true rfl) rfl eX0_stakesAct_3 (fun ng2 tg2 ag2 bg2 cg2 hg2 => ?_)
  obtain ⟨qg2_0, rfl, rfl, rfl, rfl, frg2⟩ := hg2
  have hg2_kp_1 : ag2 kp 1 = i := (congrFun (frg2 kp (by omega)) _).trans h1
  have hg2_kp_2 : ag2 kp 2 = v := (congrFun (frg2 kp (by omega)) _).trans h2
  have frvig2 : ∀ k : Nat, (¬ k = 30) → ag2 k = vi k := fun k hk => (frg2 k (by omega))
  have e3 : ag2 30 = bc (vi 30) (([11])) := by first | exact qg2_0 | (rw [qg2_0]; exact (bc_app _ _ _).symm) | (rw [qg2_0, bc_app])
  have b4 : ag2 30 0 = vi 30 0 + ((([11]) : List Int).length : Int) := by rw [e3, bc_0]
  simp only [List.length_append, List.length_cons, List.length_nil] at b4
  refine vx_aload_n hC 0 rfl eX0_stakesAct_6 ?_
  refine vx_iload_n hC 1 rfl eX0_stakesAct_7 ?_
  refine vx_iconst hC eX0_stakesAct_8 ?_
  refine vx_imul hC eX0_stakesAct_9 ?_
  refine vx_aload_n hC 2 rfl eX0_stakesAct_10 ?_
  refine vx_callSU_i hC (kX4_stakesAct G d _ _ _ _ _ hO kp kd i v ht h45 hkd hg2_kp_1 hg2_kp_2 (by omega) (x * 3)) ly_X0_23 ht hc9 rfl hRm (by omega) (Nat.le_of_ble_eq_true rfl) rfl eX0_stakesAct_11 (fun x5 ng6 tg6 ag6 bg6 cg6 hg6 => ?_)
  obtain ⟨hx5, qg6_0, rfl, rfl, rfl, rfl, frg6⟩ := hg6
  have qg6_0b : ag6 30 = bc (bc (vi 30) (([11]))) (((((x * 3) + i, [1]) : Int × List Int)).2) := by first | exact qg6_0 | rw [qg6_0, e3] | (rw [qg6_0]; exact e3)
  have hg6_kp_1 : ag6 kp 1 = i := (congrFun (frg6 kp (by omega)) _).trans hg2_kp_1
  have hg6_kp_2 : ag6 kp 2 = v := (congrFun (frg6 kp (by omega)) _).trans hg2_kp_2
  have frvig6 : ∀ k : Nat, (¬ k = 30) → ag6 k = vi k := fun k hk => (frg6 k (by omega)).trans (frvig2 k hk)
  have e7 : ag6 30 = bc (vi 30) ((([11])) ++ (((((x * 3) + i, [1]) : Int × List Int)).2)) := by first | exact qg6_0b | (rw [qg6_0b]; exact (bc_app _ _ _).symm) | (rw [qg6_0b, bc_app])
  have b8 : ag6 30 0 = vi 30 0 + (((([11])) ++ (((((x * 3) + i, [1]) : Int × List Int)).2) : List Int).length : Int) := by rw [e7, bc_0]
  simp only [List.length_append, List.length_cons, List.length_nil] at b8
  exact vx_iret hC hM rfl eX0_stakesAct_14 (⟨_, rfl, (by unfold a_S; rw [if_pos hkk]; simp only [hx5]), (by first | exact e7 | (rw [e7]; done) | (rw [e7]; unfold a_S; rw [if_pos hkk]; rfl)), rfl, rfl, rfl, rfl, fun k hk => frvig6 k hk⟩)
set_option maxHeartbeats 4000000 in
set_option maxRecDepth 100000 in
theorem kX1_stakesAct (G : xg_T) (d : Nat) (n : Nat) (tau : Nat → Nat × Nat) (vi vl : Nat → Int → Int) (vr : Nat → Int → Option Nat) (hO : xo n tau vr) (kp : Nat) (kd i v : Int) (ht : kp < n ∧ tau kp = (pn kd, 0)) (h45 : 45 ≤ kp) (hkd : 0 ≤ kd ∧ kd ≤ 6) (h1 : vi kp 1 = i) (h2 : vi kp 2 = v) (hr : 0 ≤ vi 30 0 ∧ vi 30 0 ≤ 16) (hkk : kd = 5) (x : Int) : xm G yX1_stakesAct cX1_stakesAct 3 (some .int) (d + 3) 0 0 [xa_r kp, xa_i x, xa_r 30] n tau vi vl vr (xp_i (fun z9 n1 t1 a1 b1 c1 => (z9 = (a_S kd i x).1) ∧ (a1 30 = bc (vi 30) (a_S kd i x).2) ∧ xs_I (fun k => ¬ k = 30) n tau vi vl vr n1 t1 a1 b1 c1)) := by
  refine xm.of (lv := [(0, xa_r kp), (1, xa_i x), (2, xa_r 30)]) (by decide) (Nat.le_of_ble_eq_true rfl) rfl (fun K hC hM hRm => ?_)
  obtain ⟨C9, T9, N9, hc9⟩ := pn_cl kd
  
  refine vx_bipush hC (by decide) eX1_stakesAct_0 ?_
  refine vx_aload_n hC 2 rfl eX1_stakesAct_2 ?_
  refine vx_callSS_v hC (kX4_began G (d + 1) _ _ _ _ _ hO 51 (by omega)) ls_X1_19 rfl hRm (by omega) (Nat.le_of_ble_eq_true rfl) rfl eX1_stakesAct_3 (fun ng2 tg2 ag2 bg2 cg2 hg2 => ?_)
  obtain ⟨qg2_0, rfl, rfl, rfl, rfl, frg2⟩ := hg2
  have hg2_kp_1 : ag2 kp 1 = i := (congrFun (frg2 kp (by omega)) _).trans h1
  have hg2_kp_2 : ag2 kp 2 = v := (congrFun (frg2 kp (by omega)) _).trans h2
  have frvig2 : ∀ k : Nat, (¬ k = 30) → ag2 k = vi k := fun k hk => (frg2 k (by omega))
  have e3 : ag2 30 = bc (vi 30) (([51])) := by first | exact qg2_0 | (rw [qg2_0]; exact (bc_app _ _ _).symm) | (rw [qg2_0, bc_app])
  have b4 : ag2 30 0 = vi 30 0 + ((([51]) : List Int).length : Int) := by rw [e3, bc_0]
  simp only [List.length_append, List.length_cons, List.length_nil] at b4
  refine vx_aload_n hC 0 rfl eX1_stakesAct_6 ?_
  refine vx_iload_n hC 1 rfl eX1_stakesAct_7 ?_
  refine vx_aload_n hC 2 rfl eX1_stakesAct_8 ?_
  refine vx_callSP_i hC (kX4_stakesAct G d _ _ _ _ _ hO kp kd i v ht h45 hkd hg2_kp_1 hg2_kp_2 (by omega) x) ls_X1_25 ht hc9 rfl hRm (by omega) (Nat.le_of_ble_eq_true rfl) rfl eX1_stakesAct_9 (fun x5 ng6 tg6 ag6 bg6 cg6 hg6 => ?_)
  obtain ⟨hx5, qg6_0, rfl, rfl, rfl, rfl, frg6⟩ := hg6
  have qg6_0b : ag6 30 = bc (bc (vi 30) (([51]))) ((((x + i, [1]) : Int × List Int)).2) := by first | exact qg6_0 | rw [qg6_0, e3] | (rw [qg6_0]; exact e3)
  have hg6_kp_1 : ag6 kp 1 = i := (congrFun (frg6 kp (by omega)) _).trans hg2_kp_1
  have hg6_kp_2 : ag6 kp 2 = v := (congrFun (frg6 kp (by omega)) _).trans hg2_kp_2
  have frvig6 : ∀ k : Nat, (¬ k = 30) → ag6 k = vi k := fun k hk => (frg6 k (by omega)).trans (frvig2 k hk)
  have e7 : ag6 30 = bc (vi 30) ((([51])) ++ ((((x + i, [1]) : Int × List Int)).2)) := by first | exact qg6_0b | (rw [qg6_0b]; exact (bc_app _ _ _).symm) | (rw [qg6_0b, bc_app])
  have b8 : ag6 30 0 = vi 30 0 + (((([51])) ++ ((((x + i, [1]) : Int × List Int)).2) : List Int).length : Int) := by rw [e7, bc_0]
  simp only [List.length_append, List.length_cons, List.length_nil] at b8
  refine vx_aload_n hC 0 rfl eX1_stakesAct_12 ?_
  refine vx_gi hC 1 ht (lf_X1_29 ((pn_k hkd).2.2.2.2.1 hkk)) rfl eX1_stakesAct_13 ?_
  refine vx_eqi hg6_kp_1 ?_
  refine vx_ixor hC eX1_stakesAct_16 ?_
  exact vx_iret hC hM rfl eX1_stakesAct_17 (⟨_, rfl, (by unfold a_S ax; rw [if_neg (by omega), if_pos hkk]; simp only [hx5]), (by first | exact e7 | (rw [e7]; done) | (rw [e7]; unfold a_S; rw [if_neg (by omega), if_pos hkk]; rfl)), rfl, rfl, rfl, rfl, fun k hk => frvig6 k hk⟩)
theorem a_S_pl {kd : Int} (h : ¬ (kd = 1 ∨ kd = 4)) (h2 : ¬ kd = 5) (i x : Int) : a_S kd i x = (x + i, [1]) := by unfold a_S; rw [if_neg h, if_neg h2]
section XV
variable {G : xg_T} {K : xk_T} {cc : ByteArray} {own : String} {nL : Nat} {Q : State → Prop} {cells slots n : Nat} {tau : Nat → Nat × Nat} {vi vl : Nat → Int → Int} {vr : Nat → Int → Option Nat} {pc pc1 : Nat} {lv : List (Nat × xa_T)} {st : List xa_T}
theorem vx_S_RX3 (hC : xk_C G K cc RX3 nL) {d1 mc1 ms1 kp : Nat} {kd i v x : Int} (hO : xo n tau vr) (ht : kp < n ∧ tau kp = (pn kd, 0)) (h45 : 45 ≤ kp) (hkd : 0 ≤ kd ∧ kd ≤ 6) (hks : kd = 4) (h1 : vi kp 1 = i) (h2 : vi kp 2 = v) (hr : 0 ≤ vi 30 0 ∧ vi 30 0 ≤ 16) (hRm : xk_Rm K d1 mc1 ms1) (hcs : 4 ≤ d1 ∧ cells ≤ mc1 ∧ slots ≤ ms1) (hw8 : (st.map xa_c).sum ≤ 8) (hd : xd_D cc pc (.invokevirtual 21) 3 pc1) (kk : ∀ a1 : Nat → Int → Int, a1 30 = bc (vi 30) (a_S kd i x).2 → (∀ k, ¬ k = 30 → a1 k = vi k) → xv G K nL Q cells slots n tau a1 vl vr pc1 lv (xa_i (a_S kd i x).1 :: st)) : xv G K nL Q cells slots n tau vi vl vr pc lv (xa_r 30 :: xa_i x :: xa_r kp :: st) := by
  have hz := hks
  · subst hz
    refine vx_callU_i hC (kX0_stakesAct G 0 n tau vi vl vr hO kp 4 i v ht h45 hkd h1 h2 (by omega) (by omega) x) lu_X3_21_3 ht rfl rfl hRm (by omega) hw8 rfl hd (fun z n9 t9 a9 b9 c9 h => ?_)
    obtain ⟨hx, h30, rfl, rfl, rfl, rfl, hfr⟩ := h
    rw [hx]
    exact kk a9 (h30) hfr
end XV
section XV
variable {G : xg_T} {K : xk_T} {cc : ByteArray} {own : String} {nL : Nat} {Q : State → Prop} {cells slots n : Nat} {tau : Nat → Nat × Nat} {vi vl : Nat → Int → Int} {vr : Nat → Int → Option Nat} {pc pc1 : Nat} {lv : List (Nat × xa_T)} {st : List xa_T}
theorem vx_S_RX4 (hC : xk_C G K cc RX4 nL) {d1 mc1 ms1 kp : Nat} {kd i v x : Int} (hO : xo n tau vr) (ht : kp < n ∧ tau kp = (pn kd, 0)) (h45 : 45 ≤ kp) (hkd : 0 ≤ kd ∧ kd ≤ 6) (hks : kd = 0 ∨ kd = 1 ∨ kd = 2 ∨ kd = 3 ∨ kd = 4 ∨ kd = 5 ∨ kd = 6) (h1 : vi kp 1 = i) (h2 : vi kp 2 = v) (hr : 0 ≤ vi 30 0 ∧ vi 30 0 ≤ 16) (hRm : xk_Rm K d1 mc1 ms1) (hcs : 4 ≤ d1 ∧ cells ≤ mc1 ∧ slots ≤ ms1) (hw8 : (st.map xa_c).sum ≤ 8) (hd : xd_D cc pc (.invokevirtual 28) 3 pc1) (kk : ∀ a1 : Nat → Int → Int, a1 30 = bc (vi 30) (a_S kd i x).2 → (∀ k, ¬ k = 30 → a1 k = vi k) → xv G K nL Q cells slots n tau a1 vl vr pc1 lv (xa_i (a_S kd i x).1 :: st)) : xv G K nL Q cells slots n tau vi vl vr pc lv (xa_r 30 :: xa_i x :: xa_r kp :: st) := by
  rcases hks with hz | hz | hz | hz | hz | hz | hz
  · subst hz
    refine vx_callU_i hC (kX4_stakesAct G 0 n tau vi vl vr hO kp 0 i v ht h45 hkd h1 h2 (by omega) x) lu_X4_28_4 ht rfl rfl hRm (by omega) hw8 rfl hd (fun z n9 t9 a9 b9 c9 h => ?_)
    obtain ⟨hx, h30, rfl, rfl, rfl, rfl, hfr⟩ := h
    rw [hx]
    rw [a_S_pl (by omega) (by omega)] at kk
    exact kk a9 h30 hfr
  · subst hz
    refine vx_callU_i hC (kX0_stakesAct G 0 n tau vi vl vr hO kp 1 i v ht h45 hkd h1 h2 (by omega) (by omega) x) lu_X4_28_0 ht rfl rfl hRm (by omega) hw8 rfl hd (fun z n9 t9 a9 b9 c9 h => ?_)
    obtain ⟨hx, h30, rfl, rfl, rfl, rfl, hfr⟩ := h
    rw [hx]
    exact kk a9 (h30) hfr
  · subst hz
    refine vx_callU_i hC (kX4_stakesAct G 0 n tau vi vl vr hO kp 2 i v ht h45 hkd h1 h2 (by omega) x) lu_X4_28_9 ht rfl rfl hRm (by omega) hw8 rfl hd (fun z n9 t9 a9 b9 c9 h => ?_)
    obtain ⟨hx, h30, rfl, rfl, rfl, rfl, hfr⟩ := h
    rw [hx]
    rw [a_S_pl (by omega) (by omega)] at kk
    exact kk a9 h30 hfr
  · subst hz
    refine vx_callU_i hC (kX4_stakesAct G 0 n tau vi vl vr hO kp 3 i v ht h45 hkd h1 h2 (by omega) x) lu_X4_28_7 ht rfl rfl hRm (by omega) hw8 rfl hd (fun z n9 t9 a9 b9 c9 h => ?_)
    obtain ⟨hx, h30, rfl, rfl, rfl, rfl, hfr⟩ := h
    rw [hx]
    rw [a_S_pl (by omega) (by omega)] at kk
    exact kk a9 h30 hfr
  · subst hz
    refine vx_callU_i hC (kX0_stakesAct G 0 n tau vi vl vr hO kp 4 i v ht h45 hkd h1 h2 (by omega) (by omega) x) lu_X4_28_3 ht rfl rfl hRm (by omega) hw8 rfl hd (fun z n9 t9 a9 b9 c9 h => ?_)
    obtain ⟨hx, h30, rfl, rfl, rfl, rfl, hfr⟩ := h
    rw [hx]
    exact kk a9 (h30) hfr
  · subst hz
    refine vx_callU_i hC (kX1_stakesAct G 0 n tau vi vl vr hO kp 5 i v ht h45 hkd h1 h2 (by omega) (by omega) x) lu_X4_28_1 ht rfl rfl hRm (by omega) hw8 rfl hd (fun z n9 t9 a9 b9 c9 h => ?_)
    obtain ⟨hx, h30, rfl, rfl, rfl, rfl, hfr⟩ := h
    rw [hx]
    exact kk a9 (h30) hfr
  · subst hz
    refine vx_callU_i hC (kX4_stakesAct G 0 n tau vi vl vr hO kp 6 i v ht h45 hkd h1 h2 (by omega) x) lu_X4_28_10 ht rfl rfl hRm (by omega) hw8 rfl hd (fun z n9 t9 a9 b9 c9 h => ?_)
    obtain ⟨hx, h30, rfl, rfl, rfl, rfl, hfr⟩ := h
    rw [hx]
    rw [a_S_pl (by omega) (by omega)] at kk
    exact kk a9 h30 hfr
end XV
section XV
variable {G : xg_T} {K : xk_T} {cc : ByteArray} {own : String} {nL : Nat} {Q : State → Prop} {cells slots n : Nat} {tau : Nat → Nat × Nat} {vi vl : Nat → Int → Int} {vr : Nat → Int → Option Nat} {pc pc1 : Nat} {lv : List (Nat × xa_T)} {st : List xa_T}
theorem vx_S_RX11 (hC : xk_C G K cc RX11 nL) {d1 mc1 ms1 kp : Nat} {kd i v x : Int} (hO : xo n tau vr) (ht : kp < n ∧ tau kp = (pn kd, 0)) (h45 : 45 ≤ kp) (hkd : 0 ≤ kd ∧ kd ≤ 6) (hks : kd = 0 ∨ kd = 1 ∨ kd = 2 ∨ kd = 3 ∨ kd = 4 ∨ kd = 5 ∨ kd = 6) (h1 : vi kp 1 = i) (h2 : vi kp 2 = v) (hr : 0 ≤ vi 30 0 ∧ vi 30 0 ≤ 16) (hRm : xk_Rm K d1 mc1 ms1) (hcs : 4 ≤ d1 ∧ cells ≤ mc1 ∧ slots ≤ ms1) (hw8 : (st.map xa_c).sum ≤ 8) (hd : xd_D cc pc (.invokevirtual 215) 3 pc1) (kk : ∀ a1 : Nat → Int → Int, a1 30 = bc (vi 30) (a_S kd i x).2 → (∀ k, ¬ k = 30 → a1 k = vi k) → xv G K nL Q cells slots n tau a1 vl vr pc1 lv (xa_i (a_S kd i x).1 :: st)) : xv G K nL Q cells slots n tau vi vl vr pc lv (xa_r 30 :: xa_i x :: xa_r kp :: st) := by
  rcases hks with hz | hz | hz | hz | hz | hz | hz
  · subst hz
    refine vx_callU_i hC (kX4_stakesAct G 0 n tau vi vl vr hO kp 0 i v ht h45 hkd h1 h2 (by omega) x) lu_X11_215_4 ht rfl rfl hRm (by omega) hw8 rfl hd (fun z n9 t9 a9 b9 c9 h => ?_)
    obtain ⟨hx, h30, rfl, rfl, rfl, rfl, hfr⟩ := h
    rw [hx]
    rw [a_S_pl (by omega) (by omega)] at kk
    exact kk a9 h30 hfr
  · subst hz
    refine vx_callU_i hC (kX0_stakesAct G 0 n tau vi vl vr hO kp 1 i v ht h45 hkd h1 h2 (by omega) (by omega) x) lu_X11_215_0 ht rfl rfl hRm (by omega) hw8 rfl hd (fun z n9 t9 a9 b9 c9 h => ?_)
    obtain ⟨hx, h30, rfl, rfl, rfl, rfl, hfr⟩ := h
    rw [hx]
    exact kk a9 (h30) hfr
  · subst hz
    refine vx_callU_i hC (kX4_stakesAct G 0 n tau vi vl vr hO kp 2 i v ht h45 hkd h1 h2 (by omega) x) lu_X11_215_9 ht rfl rfl hRm (by omega) hw8 rfl hd (fun z n9 t9 a9 b9 c9 h => ?_)
    obtain ⟨hx, h30, rfl, rfl, rfl, rfl, hfr⟩ := h
    rw [hx]
    rw [a_S_pl (by omega) (by omega)] at kk
    exact kk a9 h30 hfr
  · subst hz
    refine vx_callU_i hC (kX4_stakesAct G 0 n tau vi vl vr hO kp 3 i v ht h45 hkd h1 h2 (by omega) x) lu_X11_215_7 ht rfl rfl hRm (by omega) hw8 rfl hd (fun z n9 t9 a9 b9 c9 h => ?_)
    obtain ⟨hx, h30, rfl, rfl, rfl, rfl, hfr⟩ := h
    rw [hx]
    rw [a_S_pl (by omega) (by omega)] at kk
    exact kk a9 h30 hfr
  · subst hz
    refine vx_callU_i hC (kX0_stakesAct G 0 n tau vi vl vr hO kp 4 i v ht h45 hkd h1 h2 (by omega) (by omega) x) lu_X11_215_3 ht rfl rfl hRm (by omega) hw8 rfl hd (fun z n9 t9 a9 b9 c9 h => ?_)
    obtain ⟨hx, h30, rfl, rfl, rfl, rfl, hfr⟩ := h
    rw [hx]
    exact kk a9 (h30) hfr
  · subst hz
    refine vx_callU_i hC (kX1_stakesAct G 0 n tau vi vl vr hO kp 5 i v ht h45 hkd h1 h2 (by omega) (by omega) x) lu_X11_215_1 ht rfl rfl hRm (by omega) hw8 rfl hd (fun z n9 t9 a9 b9 c9 h => ?_)
    obtain ⟨hx, h30, rfl, rfl, rfl, rfl, hfr⟩ := h
    rw [hx]
    exact kk a9 (h30) hfr
  · subst hz
    refine vx_callU_i hC (kX4_stakesAct G 0 n tau vi vl vr hO kp 6 i v ht h45 hkd h1 h2 (by omega) x) lu_X11_215_10 ht rfl rfl hRm (by omega) hw8 rfl hd (fun z n9 t9 a9 b9 c9 h => ?_)
    obtain ⟨hx, h30, rfl, rfl, rfl, rfl, hfr⟩ := h
    rw [hx]
    rw [a_S_pl (by omega) (by omega)] at kk
    exact kk a9 h30 hfr
end XV
theorem a_pT_e (kd i v x : Int) : a_pT kd i v x = ((a_S kd i x).1 - v, 2 :: (a_S kd i x).2) := rfl
set_option maxHeartbeats 4000000 in
set_option maxRecDepth 100000 in
theorem kX4_throwsAct (G : xg_T) (d : Nat) (n : Nat) (tau : Nat → Nat × Nat) (vi vl : Nat → Int → Int) (vr : Nat → Int → Option Nat) (hO : xo n tau vr) (kp : Nat) (kd i v : Int) (ht : kp < n ∧ tau kp = (pn kd, 0)) (h45 : 45 ≤ kp) (hkd : 0 ≤ kd ∧ kd ≤ 6) (h1 : vi kp 1 = i) (h2 : vi kp 2 = v) (hr : 0 ≤ vi 30 0 ∧ vi 30 0 ≤ 14) (x : Int) : xm G yX4_throwsAct cX4_throwsAct 3 (some .int) (d + 4) 0 0 [xa_r kp, xa_i x, xa_r 30] n tau vi vl vr (xp_i (fun z9 n1 t1 a1 b1 c1 => (z9 = (a_pT kd i v x).1) ∧ (a1 30 = bc (vi 30) (a_pT kd i v x).2) ∧ xs_I (fun k => ¬ k = 30) n tau vi vl vr n1 t1 a1 b1 c1)) := by
  refine xm.of (lv := [(0, xa_r kp), (1, xa_i x), (2, xa_r 30)]) (by decide) (Nat.le_of_ble_eq_true rfl) rfl (fun K hC hM hRm => ?_)
  obtain ⟨C9, T9, N9, hc9⟩ := pn_cl kd
  
  refine vx_iconst hC eX4_throwsAct_0 ?_
  refine vx_aload_n hC 2 rfl eX4_throwsAct_1 ?_
  refine vx_callS_v hC (kX4_began G (d + 2) _ _ _ _ _ hO 2 (by omega)) ly_X4_24 rfl hRm (by omega) (Nat.le_of_ble_eq_true rfl) rfl eX4_throwsAct_2 (fun ng2 tg2 ag2 bg2 cg2 hg2 => ?_)
  obtain ⟨qg2_0, rfl, rfl, rfl, rfl, frg2⟩ := hg2
  have hg2_kp_1 : ag2 kp 1 = i := (congrFun (frg2 kp (by omega)) _).trans h1
  have hg2_kp_2 : ag2 kp 2 = v := (congrFun (frg2 kp (by omega)) _).trans h2
  have frvig2 : ∀ k : Nat, (¬ k = 30) → ag2 k = vi k := fun k hk => (frg2 k (by omega))
  have e3 : ag2 30 = bc (vi 30) (([2])) := by first | exact qg2_0 | (rw [qg2_0]; exact (bc_app _ _ _).symm) | (rw [qg2_0, bc_app])
  have b4 : ag2 30 0 = vi 30 0 + ((([2]) : List Int).length : Int) := by rw [e3, bc_0]
  simp only [List.length_append, List.length_cons, List.length_nil] at b4
  refine vx_aload_n hC 0 rfl eX4_throwsAct_5 ?_
  refine vx_iload_n hC 1 rfl eX4_throwsAct_6 ?_
  refine vx_aload_n hC 2 rfl eX4_throwsAct_7 ?_
  refine vx_S_RX4 hC hO ht h45 hkd (by omega) hg2_kp_1 hg2_kp_2 (by omega) hRm (by omega) (Nat.le_of_ble_eq_true rfl) eX4_throwsAct_8 (fun ag5 qg5 frg5 => ?_)
  have wg5 : ag5 30 = bc (bc (vi 30) (([2]))) (a_S kd i x).2 := by first | exact qg5 | (rw [qg5, e3])
  have hg5_1 : ag5 kp 1 = i := (congrFun (frg5 kp (by omega)) _).trans hg2_kp_1
  have hg5_2 : ag5 kp 2 = v := (congrFun (frg5 kp (by omega)) _).trans hg2_kp_2
  have frvig5 : ∀ k : Nat, ¬ k = 30 → ag5 k = vi k := fun k hk => (frg5 k hk).trans (frvig2 k hk)
  have lg5 := a_S_l kd i x
  have e6 : ag5 30 = bc (vi 30) ((([2])) ++ (a_S kd i x).2) := by first | exact wg5 | (rw [wg5]; exact (bc_app _ _ _).symm) | (rw [wg5, bc_app])
  have b7 : ag5 30 0 = vi 30 0 + (((([2])) ++ (a_S kd i x).2 : List Int).length : Int) := by rw [e6, bc_0]
  simp only [List.length_append, List.length_cons, List.length_nil] at b7
  refine vx_aload_n hC 0 rfl eX4_throwsAct_11 ?_
  refine vx_gi hC 2 ht (lf_X4_18 (xp_pn _)) rfl eX4_throwsAct_12 ?_
  refine vx_eqi hg5_2 ?_
  refine vx_isub hC eX4_throwsAct_15 ?_
  exact vx_iret hC hM rfl eX4_throwsAct_16 (⟨_, rfl, (by rfl), (by first | exact e6 | (rw [e6]; done) | (rw [e6]; rfl)), rfl, rfl, rfl, rfl, fun k hk => frvig5 k hk⟩)
set_option maxHeartbeats 4000000 in
set_option maxRecDepth 100000 in
theorem kX9_throwsAct (G : xg_T) (d : Nat) (n : Nat) (tau : Nat → Nat × Nat) (vi vl : Nat → Int → Int) (vr : Nat → Int → Option Nat) (hO : xo n tau vr) (kp : Nat) (kd i v : Int) (ht : kp < n ∧ tau kp = (pn kd, 0)) (h45 : 45 ≤ kp) (hkd : 0 ≤ kd ∧ kd ≤ 6) (h1 : vi kp 1 = i) (h2 : vi kp 2 = v) (hr : 0 ≤ vi 30 0 ∧ vi 30 0 ≤ 13) (hkk : kd = 2 ∨ kd = 5) (x : Int) : xm G yX9_throwsAct cX9_throwsAct 3 (some .int) (d + 5) 0 0 [xa_r kp, xa_i x, xa_r 30] n tau vi vl vr (xp_i (fun z9 n1 t1 a1 b1 c1 => (z9 = (a_T kd i v x).1) ∧ (a1 30 = bc (vi 30) (a_T kd i v x).2) ∧ xs_I (fun k => ¬ k = 30) n tau vi vl vr n1 t1 a1 b1 c1)) := by
  refine xm.of (lv := [(0, xa_r kp), (1, xa_i x), (2, xa_r 30)]) (by decide) (Nat.le_of_ble_eq_true rfl) rfl (fun K hC hM hRm => ?_)
  obtain ⟨C9, T9, N9, hc9⟩ := pn_cl kd
  
  refine vx_bipush hC (by decide) eX9_throwsAct_0 ?_
  refine vx_aload_n hC 2 rfl eX9_throwsAct_2 ?_
  refine vx_callSS_v hC (kX4_began G (d + 3) _ _ _ _ _ hO 21 (by omega)) ls_X9_13 rfl hRm (by omega) (Nat.le_of_ble_eq_true rfl) rfl eX9_throwsAct_3 (fun ng2 tg2 ag2 bg2 cg2 hg2 => ?_)
  obtain ⟨qg2_0, rfl, rfl, rfl, rfl, frg2⟩ := hg2
  have hg2_kp_1 : ag2 kp 1 = i := (congrFun (frg2 kp (by omega)) _).trans h1
  have hg2_kp_2 : ag2 kp 2 = v := (congrFun (frg2 kp (by omega)) _).trans h2
  have frvig2 : ∀ k : Nat, (¬ k = 30) → ag2 k = vi k := fun k hk => (frg2 k (by omega))
  have e3 : ag2 30 = bc (vi 30) (([21])) := by first | exact qg2_0 | (rw [qg2_0]; exact (bc_app _ _ _).symm) | (rw [qg2_0, bc_app])
  have b4 : ag2 30 0 = vi 30 0 + ((([21]) : List Int).length : Int) := by rw [e3, bc_0]
  simp only [List.length_append, List.length_cons, List.length_nil] at b4
  refine vx_aload_n hC 0 rfl eX9_throwsAct_6 ?_
  refine vx_iload_n hC 1 rfl eX9_throwsAct_7 ?_
  refine vx_aload_n hC 2 rfl eX9_throwsAct_8 ?_
  refine vx_callSU_i hC (kX4_throwsAct G d _ _ _ _ _ hO kp kd i v ht h45 hkd hg2_kp_1 hg2_kp_2 (by omega) x) ly_X9_17 ht hc9 rfl hRm (by omega) (Nat.le_of_ble_eq_true rfl) rfl eX9_throwsAct_9 (fun x5 ng6 tg6 ag6 bg6 cg6 hg6 => ?_)
  obtain ⟨hx5, qg6_0, rfl, rfl, rfl, rfl, frg6⟩ := hg6
  have qg6_0b : ag6 30 = bc (bc (vi 30) (([21]))) ((a_pT kd i v x).2) := by first | exact qg6_0 | rw [qg6_0, e3] | (rw [qg6_0]; exact e3)
  have hg6_kp_1 : ag6 kp 1 = i := (congrFun (frg6 kp (by omega)) _).trans hg2_kp_1
  have hg6_kp_2 : ag6 kp 2 = v := (congrFun (frg6 kp (by omega)) _).trans hg2_kp_2
  have frvig6 : ∀ k : Nat, (¬ k = 30) → ag6 k = vi k := fun k hk => (frg6 k (by omega)).trans (frvig2 k hk)
  have e7 : ag6 30 = bc (vi 30) ((([21])) ++ ((a_pT kd i v x).2)) := by first | exact qg6_0b | (rw [qg6_0b]; exact (bc_app _ _ _).symm) | (rw [qg6_0b, bc_app])
  have b8 : ag6 30 0 = vi 30 0 + (((([21])) ++ ((a_pT kd i v x).2) : List Int).length : Int) := by rw [e7, bc_0]
  simp only [List.length_append, List.length_cons, List.length_nil] at b8
  refine vx_ineg hC eX9_throwsAct_12 ?_
  exact vx_iret hC hM rfl eX9_throwsAct_13 (⟨_, rfl, (by unfold a_T; rw [if_pos hkk]; simp only [hx5]), (by first | exact e7 | (rw [e7]; done) | (rw [e7]; unfold a_T; rw [if_pos hkk]; rfl)), rfl, rfl, rfl, rfl, fun k hk => frvig6 k hk⟩)
set_option maxHeartbeats 4000000 in
set_option maxRecDepth 100000 in
theorem kX10_throwsAct (G : xg_T) (d : Nat) (n : Nat) (tau : Nat → Nat × Nat) (vi vl : Nat → Int → Int) (vr : Nat → Int → Option Nat) (hO : xo n tau vr) (kp : Nat) (kd i v : Int) (ht : kp < n ∧ tau kp = (pn kd, 0)) (h45 : 45 ≤ kp) (hkd : 0 ≤ kd ∧ kd ≤ 6) (h1 : vi kp 1 = i) (h2 : vi kp 2 = v) (hr : 0 ≤ vi 30 0 ∧ vi 30 0 ≤ 13) (hkk : kd = 6) (x : Int) : xm G yX10_throwsAct cX10_throwsAct 3 (some .int) (d + 5) 0 0 [xa_r kp, xa_i x, xa_r 30] n tau vi vl vr (xp_i (fun z9 n1 t1 a1 b1 c1 => (z9 = (a_T kd i v x).1) ∧ (a1 30 = bc (vi 30) (a_T kd i v x).2) ∧ xs_I (fun k => ¬ k = 30) n tau vi vl vr n1 t1 a1 b1 c1)) := by
  refine xm.of (lv := [(0, xa_r kp), (1, xa_i x), (2, xa_r 30)]) (by decide) (Nat.le_of_ble_eq_true rfl) rfl (fun K hC hM hRm => ?_)
  obtain ⟨C9, T9, N9, hc9⟩ := pn_cl kd
  
  refine vx_bipush hC (by decide) eX10_throwsAct_0 ?_
  refine vx_aload_n hC 2 rfl eX10_throwsAct_2 ?_
  refine vx_callSS_v hC (kX4_began G (d + 3) _ _ _ _ _ hO 61 (by omega)) ls_X10_11 rfl hRm (by omega) (Nat.le_of_ble_eq_true rfl) rfl eX10_throwsAct_3 (fun ng2 tg2 ag2 bg2 cg2 hg2 => ?_)
  obtain ⟨qg2_0, rfl, rfl, rfl, rfl, frg2⟩ := hg2
  have hg2_kp_1 : ag2 kp 1 = i := (congrFun (frg2 kp (by omega)) _).trans h1
  have hg2_kp_2 : ag2 kp 2 = v := (congrFun (frg2 kp (by omega)) _).trans h2
  have frvig2 : ∀ k : Nat, (¬ k = 30) → ag2 k = vi k := fun k hk => (frg2 k (by omega))
  have e3 : ag2 30 = bc (vi 30) (([61])) := by first | exact qg2_0 | (rw [qg2_0]; exact (bc_app _ _ _).symm) | (rw [qg2_0, bc_app])
  have b4 : ag2 30 0 = vi 30 0 + ((([61]) : List Int).length : Int) := by rw [e3, bc_0]
  simp only [List.length_append, List.length_cons, List.length_nil] at b4
  refine vx_aload_n hC 0 rfl eX10_throwsAct_6 ?_
  refine vx_iload_n hC 1 rfl eX10_throwsAct_7 ?_
  refine vx_aload_n hC 2 rfl eX10_throwsAct_8 ?_
  refine vx_callSP_i hC (kX4_throwsAct G d _ _ _ _ _ hO kp kd i v ht h45 hkd hg2_kp_1 hg2_kp_2 (by omega) x) ls_X10_17 ht hc9 rfl hRm (by omega) (Nat.le_of_ble_eq_true rfl) rfl eX10_throwsAct_9 (fun x5 ng6 tg6 ag6 bg6 cg6 hg6 => ?_)
  obtain ⟨hx5, qg6_0, rfl, rfl, rfl, rfl, frg6⟩ := hg6
  have qg6_0b : ag6 30 = bc (bc (vi 30) (([61]))) ((a_pT kd i v x).2) := by first | exact qg6_0 | rw [qg6_0, e3] | (rw [qg6_0]; exact e3)
  have hg6_kp_1 : ag6 kp 1 = i := (congrFun (frg6 kp (by omega)) _).trans hg2_kp_1
  have hg6_kp_2 : ag6 kp 2 = v := (congrFun (frg6 kp (by omega)) _).trans hg2_kp_2
  have frvig6 : ∀ k : Nat, (¬ k = 30) → ag6 k = vi k := fun k hk => (frg6 k (by omega)).trans (frvig2 k hk)
  have e7 : ag6 30 = bc (vi 30) ((([61])) ++ ((a_pT kd i v x).2)) := by first | exact qg6_0b | (rw [qg6_0b]; exact (bc_app _ _ _).symm) | (rw [qg6_0b, bc_app])
  have b8 : ag6 30 0 = vi 30 0 + (((([61])) ++ ((a_pT kd i v x).2) : List Int).length : Int) := by rw [e7, bc_0]
  simp only [List.length_append, List.length_cons, List.length_nil] at b8
  refine vx_aload_n hC 0 rfl eX10_throwsAct_12 ?_
  refine vx_gi hC 2 ht (lf_X10_21 ((pn_k hkd).2.2.2.2.2 hkk)) rfl eX10_throwsAct_13 ?_
  refine vx_eqi hg6_kp_2 ?_
  refine vx_iadd hC eX10_throwsAct_16 ?_
  exact vx_iret hC hM rfl eX10_throwsAct_17 (⟨_, rfl, (by unfold a_T; rw [if_neg (by omega), if_pos hkk]; simp only [hx5]), (by first | exact e7 | (rw [e7]; done) | (rw [e7]; unfold a_T; rw [if_neg (by omega), if_pos hkk]; rfl)), rfl, rfl, rfl, rfl, fun k hk => frvig6 k hk⟩)
theorem a_T_pl {kd : Int} (h : ¬ (kd = 2 ∨ kd = 5)) (h2 : ¬ kd = 6) (i v x : Int) : a_T kd i v x = a_pT kd i v x := by unfold a_T; rw [if_neg h, if_neg h2]
section XV
variable {G : xg_T} {K : xk_T} {cc : ByteArray} {own : String} {nL : Nat} {Q : State → Prop} {cells slots n : Nat} {tau : Nat → Nat × Nat} {vi vl : Nat → Int → Int} {vr : Nat → Int → Option Nat} {pc pc1 : Nat} {lv : List (Nat × xa_T)} {st : List xa_T}
theorem vx_T_RX4 (hC : xk_C G K cc RX4 nL) {d1 mc1 ms1 kp : Nat} {kd i v x : Int} (hO : xo n tau vr) (ht : kp < n ∧ tau kp = (pn kd, 0)) (h45 : 45 ≤ kp) (hkd : 0 ≤ kd ∧ kd ≤ 6) (hks : kd = 0 ∨ kd = 1 ∨ kd = 2 ∨ kd = 3 ∨ kd = 4 ∨ kd = 5 ∨ kd = 6) (h1 : vi kp 1 = i) (h2 : vi kp 2 = v) (hr : 0 ≤ vi 30 0 ∧ vi 30 0 ≤ 13) (hRm : xk_Rm K d1 mc1 ms1) (hcs : 6 ≤ d1 ∧ cells ≤ mc1 ∧ slots ≤ ms1) (hw8 : (st.map xa_c).sum ≤ 8) (hd : xd_D cc pc (.invokevirtual 32) 3 pc1) (kk : ∀ a1 : Nat → Int → Int, a1 30 = bc (vi 30) (a_T kd i v x).2 → (∀ k, ¬ k = 30 → a1 k = vi k) → xv G K nL Q cells slots n tau a1 vl vr pc1 lv (xa_i (a_T kd i v x).1 :: st)) : xv G K nL Q cells slots n tau vi vl vr pc lv (xa_r 30 :: xa_i x :: xa_r kp :: st) := by
  rcases hks with hz | hz | hz | hz | hz | hz | hz
  · subst hz
    refine vx_callU_i hC (kX4_throwsAct G 0 n tau vi vl vr hO kp 0 i v ht h45 hkd h1 h2 (by omega) x) lu_X4_32_4 ht rfl rfl hRm (by omega) hw8 rfl hd (fun z n9 t9 a9 b9 c9 h => ?_)
    obtain ⟨hx, h30, rfl, rfl, rfl, rfl, hfr⟩ := h
    rw [hx]
    rw [a_T_pl (by omega) (by omega)] at kk
    exact kk a9 h30 hfr
  · subst hz
    refine vx_callU_i hC (kX4_throwsAct G 0 n tau vi vl vr hO kp 1 i v ht h45 hkd h1 h2 (by omega) x) lu_X4_32_0 ht rfl rfl hRm (by omega) hw8 rfl hd (fun z n9 t9 a9 b9 c9 h => ?_)
    obtain ⟨hx, h30, rfl, rfl, rfl, rfl, hfr⟩ := h
    rw [hx]
    rw [a_T_pl (by omega) (by omega)] at kk
    exact kk a9 h30 hfr
  · subst hz
    refine vx_callU_i hC (kX9_throwsAct G 0 n tau vi vl vr hO kp 2 i v ht h45 hkd h1 h2 (by omega) (by omega) x) lu_X4_32_9 ht rfl rfl hRm (by omega) hw8 rfl hd (fun z n9 t9 a9 b9 c9 h => ?_)
    obtain ⟨hx, h30, rfl, rfl, rfl, rfl, hfr⟩ := h
    rw [hx]
    exact kk a9 (h30) hfr
  · subst hz
    refine vx_callU_i hC (kX4_throwsAct G 0 n tau vi vl vr hO kp 3 i v ht h45 hkd h1 h2 (by omega) x) lu_X4_32_7 ht rfl rfl hRm (by omega) hw8 rfl hd (fun z n9 t9 a9 b9 c9 h => ?_)
    obtain ⟨hx, h30, rfl, rfl, rfl, rfl, hfr⟩ := h
    rw [hx]
    rw [a_T_pl (by omega) (by omega)] at kk
    exact kk a9 h30 hfr
  · subst hz
    refine vx_callU_i hC (kX4_throwsAct G 0 n tau vi vl vr hO kp 4 i v ht h45 hkd h1 h2 (by omega) x) lu_X4_32_3 ht rfl rfl hRm (by omega) hw8 rfl hd (fun z n9 t9 a9 b9 c9 h => ?_)
    obtain ⟨hx, h30, rfl, rfl, rfl, rfl, hfr⟩ := h
    rw [hx]
    rw [a_T_pl (by omega) (by omega)] at kk
    exact kk a9 h30 hfr
  · subst hz
    refine vx_callU_i hC (kX9_throwsAct G 0 n tau vi vl vr hO kp 5 i v ht h45 hkd h1 h2 (by omega) (by omega) x) lu_X4_32_1 ht rfl rfl hRm (by omega) hw8 rfl hd (fun z n9 t9 a9 b9 c9 h => ?_)
    obtain ⟨hx, h30, rfl, rfl, rfl, rfl, hfr⟩ := h
    rw [hx]
    exact kk a9 (h30) hfr
  · subst hz
    refine vx_callU_i hC (kX10_throwsAct G 0 n tau vi vl vr hO kp 6 i v ht h45 hkd h1 h2 (by omega) (by omega) x) lu_X4_32_10 ht rfl rfl hRm (by omega) hw8 rfl hd (fun z n9 t9 a9 b9 c9 h => ?_)
    obtain ⟨hx, h30, rfl, rfl, rfl, rfl, hfr⟩ := h
    rw [hx]
    exact kk a9 (h30) hfr
end XV
section XV
variable {G : xg_T} {K : xk_T} {cc : ByteArray} {own : String} {nL : Nat} {Q : State → Prop} {cells slots n : Nat} {tau : Nat → Nat × Nat} {vi vl : Nat → Int → Int} {vr : Nat → Int → Option Nat} {pc pc1 : Nat} {lv : List (Nat × xa_T)} {st : List xa_T}
theorem vx_T_RX11 (hC : xk_C G K cc RX11 nL) {d1 mc1 ms1 kp : Nat} {kd i v x : Int} (hO : xo n tau vr) (ht : kp < n ∧ tau kp = (pn kd, 0)) (h45 : 45 ≤ kp) (hkd : 0 ≤ kd ∧ kd ≤ 6) (hks : kd = 0 ∨ kd = 1 ∨ kd = 2 ∨ kd = 3 ∨ kd = 4 ∨ kd = 5 ∨ kd = 6) (h1 : vi kp 1 = i) (h2 : vi kp 2 = v) (hr : 0 ≤ vi 30 0 ∧ vi 30 0 ≤ 13) (hRm : xk_Rm K d1 mc1 ms1) (hcs : 6 ≤ d1 ∧ cells ≤ mc1 ∧ slots ≤ ms1) (hw8 : (st.map xa_c).sum ≤ 8) (hd : xd_D cc pc (.invokevirtual 219) 3 pc1) (kk : ∀ a1 : Nat → Int → Int, a1 30 = bc (vi 30) (a_T kd i v x).2 → (∀ k, ¬ k = 30 → a1 k = vi k) → xv G K nL Q cells slots n tau a1 vl vr pc1 lv (xa_i (a_T kd i v x).1 :: st)) : xv G K nL Q cells slots n tau vi vl vr pc lv (xa_r 30 :: xa_i x :: xa_r kp :: st) := by
  rcases hks with hz | hz | hz | hz | hz | hz | hz
  · subst hz
    refine vx_callU_i hC (kX4_throwsAct G 0 n tau vi vl vr hO kp 0 i v ht h45 hkd h1 h2 (by omega) x) lu_X11_219_4 ht rfl rfl hRm (by omega) hw8 rfl hd (fun z n9 t9 a9 b9 c9 h => ?_)
    obtain ⟨hx, h30, rfl, rfl, rfl, rfl, hfr⟩ := h
    rw [hx]
    rw [a_T_pl (by omega) (by omega)] at kk
    exact kk a9 h30 hfr
  · subst hz
    refine vx_callU_i hC (kX4_throwsAct G 0 n tau vi vl vr hO kp 1 i v ht h45 hkd h1 h2 (by omega) x) lu_X11_219_0 ht rfl rfl hRm (by omega) hw8 rfl hd (fun z n9 t9 a9 b9 c9 h => ?_)
    obtain ⟨hx, h30, rfl, rfl, rfl, rfl, hfr⟩ := h
    rw [hx]
    rw [a_T_pl (by omega) (by omega)] at kk
    exact kk a9 h30 hfr
  · subst hz
    refine vx_callU_i hC (kX9_throwsAct G 0 n tau vi vl vr hO kp 2 i v ht h45 hkd h1 h2 (by omega) (by omega) x) lu_X11_219_9 ht rfl rfl hRm (by omega) hw8 rfl hd (fun z n9 t9 a9 b9 c9 h => ?_)
    obtain ⟨hx, h30, rfl, rfl, rfl, rfl, hfr⟩ := h
    rw [hx]
    exact kk a9 (h30) hfr
  · subst hz
    refine vx_callU_i hC (kX4_throwsAct G 0 n tau vi vl vr hO kp 3 i v ht h45 hkd h1 h2 (by omega) x) lu_X11_219_7 ht rfl rfl hRm (by omega) hw8 rfl hd (fun z n9 t9 a9 b9 c9 h => ?_)
    obtain ⟨hx, h30, rfl, rfl, rfl, rfl, hfr⟩ := h
    rw [hx]
    rw [a_T_pl (by omega) (by omega)] at kk
    exact kk a9 h30 hfr
  · subst hz
    refine vx_callU_i hC (kX4_throwsAct G 0 n tau vi vl vr hO kp 4 i v ht h45 hkd h1 h2 (by omega) x) lu_X11_219_3 ht rfl rfl hRm (by omega) hw8 rfl hd (fun z n9 t9 a9 b9 c9 h => ?_)
    obtain ⟨hx, h30, rfl, rfl, rfl, rfl, hfr⟩ := h
    rw [hx]
    rw [a_T_pl (by omega) (by omega)] at kk
    exact kk a9 h30 hfr
  · subst hz
    refine vx_callU_i hC (kX9_throwsAct G 0 n tau vi vl vr hO kp 5 i v ht h45 hkd h1 h2 (by omega) (by omega) x) lu_X11_219_1 ht rfl rfl hRm (by omega) hw8 rfl hd (fun z n9 t9 a9 b9 c9 h => ?_)
    obtain ⟨hx, h30, rfl, rfl, rfl, rfl, hfr⟩ := h
    rw [hx]
    exact kk a9 (h30) hfr
  · subst hz
    refine vx_callU_i hC (kX10_throwsAct G 0 n tau vi vl vr hO kp 6 i v ht h45 hkd h1 h2 (by omega) (by omega) x) lu_X11_219_10 ht rfl rfl hRm (by omega) hw8 rfl hd (fun z n9 t9 a9 b9 c9 h => ?_)
    obtain ⟨hx, h30, rfl, rfl, rfl, rfl, hfr⟩ := h
    rw [hx]
    exact kk a9 (h30) hfr
end XV
set_option maxHeartbeats 4000000 in
set_option maxRecDepth 100000 in
theorem kX4_countsAct (G : xg_T) (d : Nat) (n : Nat) (tau : Nat → Nat × Nat) (vi vl : Nat → Int → Int) (vr : Nat → Int → Option Nat) (hO : xo n tau vr) (kp : Nat) (kd i v : Int) (ht : kp < n ∧ tau kp = (pn kd, 0)) (h45 : 45 ≤ kp) (hkd : 0 ≤ kd ∧ kd ≤ 6) (h1 : vi kp 1 = i) (h2 : vi kp 2 = v) (hr : 0 ≤ vi 30 0 ∧ vi 30 0 ≤ 11) (x : Int) : xm G yX4_countsAct cX4_countsAct 3 (some .int) (d + 6) 0 0 [xa_r kp, xa_i x, xa_r 30] n tau vi vl vr (xp_i (fun z9 n1 t1 a1 b1 c1 => (z9 = (a_pC kd i v x).1) ∧ (a1 30 = bc (vi 30) (a_pC kd i v x).2) ∧ xs_I (fun k => ¬ k = 30) n tau vi vl vr n1 t1 a1 b1 c1)) := by
  refine xm.of (lv := [(0, xa_r kp), (1, xa_i x), (2, xa_r 30)]) (by decide) (Nat.le_of_ble_eq_true rfl) rfl (fun K hC hM hRm => ?_)
  obtain ⟨C9, T9, N9, hc9⟩ := pn_cl kd
  
  refine vx_iconst hC eX4_countsAct_0 ?_
  refine vx_aload_n hC 2 rfl eX4_countsAct_1 ?_
  refine vx_callS_v hC (kX4_began G (d + 4) _ _ _ _ _ hO 3 (by omega)) ly_X4_24 rfl hRm (by omega) (Nat.le_of_ble_eq_true rfl) rfl eX4_countsAct_2 (fun ng2 tg2 ag2 bg2 cg2 hg2 => ?_)
  obtain ⟨qg2_0, rfl, rfl, rfl, rfl, frg2⟩ := hg2
  have hg2_kp_1 : ag2 kp 1 = i := (congrFun (frg2 kp (by omega)) _).trans h1
  have hg2_kp_2 : ag2 kp 2 = v := (congrFun (frg2 kp (by omega)) _).trans h2
  have frvig2 : ∀ k : Nat, (¬ k = 30) → ag2 k = vi k := fun k hk => (frg2 k (by omega))
  have e3 : ag2 30 = bc (vi 30) (([3])) := by first | exact qg2_0 | (rw [qg2_0]; exact (bc_app _ _ _).symm) | (rw [qg2_0, bc_app])
  have b4 : ag2 30 0 = vi 30 0 + ((([3]) : List Int).length : Int) := by rw [e3, bc_0]
  simp only [List.length_append, List.length_cons, List.length_nil] at b4
  refine vx_aload_n hC 0 rfl eX4_countsAct_5 ?_
  refine vx_iload_n hC 1 rfl eX4_countsAct_6 ?_
  refine vx_aload_n hC 2 rfl eX4_countsAct_7 ?_
  refine vx_T_RX4 hC hO ht h45 hkd (by omega) hg2_kp_1 hg2_kp_2 (by omega) hRm (by omega) (Nat.le_of_ble_eq_true rfl) eX4_countsAct_8 (fun ag5 qg5 frg5 => ?_)
  have wg5 : ag5 30 = bc (bc (vi 30) (([3]))) (a_T kd i v x).2 := by first | exact qg5 | (rw [qg5, e3])
  have hg5_1 : ag5 kp 1 = i := (congrFun (frg5 kp (by omega)) _).trans hg2_kp_1
  have hg5_2 : ag5 kp 2 = v := (congrFun (frg5 kp (by omega)) _).trans hg2_kp_2
  have frvig5 : ∀ k : Nat, ¬ k = 30 → ag5 k = vi k := fun k hk => (frg5 k hk).trans (frvig2 k hk)
  have lg5 := a_T_l kd i v x
  have e6 : ag5 30 = bc (vi 30) ((([3])) ++ (a_T kd i v x).2) := by first | exact wg5 | (rw [wg5]; exact (bc_app _ _ _).symm) | (rw [wg5, bc_app])
  have b7 : ag5 30 0 = vi 30 0 + (((([3])) ++ (a_T kd i v x).2 : List Int).length : Int) := by rw [e6, bc_0]
  simp only [List.length_append, List.length_cons, List.length_nil] at b7
  refine vx_iconst hC eX4_countsAct_11 ?_
  refine vx_imul hC eX4_countsAct_12 ?_
  exact vx_iret hC hM rfl eX4_countsAct_13 (⟨_, rfl, (by rfl), (by first | exact e6 | (rw [e6]; done) | (rw [e6]; rfl)), rfl, rfl, rfl, rfl, fun k hk => frvig5 k hk⟩)
set_option maxHeartbeats 4000000 in
set_option maxRecDepth 100000 in
theorem kX7_countsAct (G : xg_T) (d : Nat) (n : Nat) (tau : Nat → Nat × Nat) (vi vl : Nat → Int → Int) (vr : Nat → Int → Option Nat) (hO : xo n tau vr) (kp : Nat) (kd i v : Int) (ht : kp < n ∧ tau kp = (pn kd, 0)) (h45 : 45 ≤ kp) (hkd : 0 ≤ kd ∧ kd ≤ 6) (h1 : vi kp 1 = i) (h2 : vi kp 2 = v) (hr : 0 ≤ vi 30 0 ∧ vi 30 0 ≤ 10) (hkk : kd = 3 ∨ kd = 6) (x : Int) : xm G yX7_countsAct cX7_countsAct 3 (some .int) (d + 7) 0 0 [xa_r kp, xa_i x, xa_r 30] n tau vi vl vr (xp_i (fun z9 n1 t1 a1 b1 c1 => (z9 = (a_C kd i v x).1) ∧ (a1 30 = bc (vi 30) (a_C kd i v x).2) ∧ xs_I (fun k => ¬ k = 30) n tau vi vl vr n1 t1 a1 b1 c1)) := by
  refine xm.of (lv := [(0, xa_r kp), (1, xa_i x), (2, xa_r 30)]) (by decide) (Nat.le_of_ble_eq_true rfl) rfl (fun K hC hM hRm => ?_)
  obtain ⟨C9, T9, N9, hc9⟩ := pn_cl kd
  
  refine vx_bipush hC (by decide) eX7_countsAct_0 ?_
  refine vx_aload_n hC 2 rfl eX7_countsAct_2 ?_
  refine vx_callSS_v hC (kX4_began G (d + 5) _ _ _ _ _ hO 31 (by omega)) ls_X7_19 rfl hRm (by omega) (Nat.le_of_ble_eq_true rfl) rfl eX7_countsAct_3 (fun ng2 tg2 ag2 bg2 cg2 hg2 => ?_)
  obtain ⟨qg2_0, rfl, rfl, rfl, rfl, frg2⟩ := hg2
  have hg2_kp_1 : ag2 kp 1 = i := (congrFun (frg2 kp (by omega)) _).trans h1
  have hg2_kp_2 : ag2 kp 2 = v := (congrFun (frg2 kp (by omega)) _).trans h2
  have frvig2 : ∀ k : Nat, (¬ k = 30) → ag2 k = vi k := fun k hk => (frg2 k (by omega))
  have e3 : ag2 30 = bc (vi 30) (([31])) := by first | exact qg2_0 | (rw [qg2_0]; exact (bc_app _ _ _).symm) | (rw [qg2_0, bc_app])
  have b4 : ag2 30 0 = vi 30 0 + ((([31]) : List Int).length : Int) := by rw [e3, bc_0]
  simp only [List.length_append, List.length_cons, List.length_nil] at b4
  refine vx_aload_n hC 0 rfl eX7_countsAct_6 ?_
  refine vx_iload_n hC 1 rfl eX7_countsAct_7 ?_
  refine vx_aload_n hC 2 rfl eX7_countsAct_8 ?_
  refine vx_callSU_i hC (kX4_countsAct G d _ _ _ _ _ hO kp kd i v ht h45 hkd hg2_kp_1 hg2_kp_2 (by omega) x) ly_X7_23 ht hc9 rfl hRm (by omega) (Nat.le_of_ble_eq_true rfl) rfl eX7_countsAct_9 (fun x5 ng6 tg6 ag6 bg6 cg6 hg6 => ?_)
  obtain ⟨hx5, qg6_0, rfl, rfl, rfl, rfl, frg6⟩ := hg6
  have qg6_0b : ag6 30 = bc (bc (vi 30) (([31]))) ((a_pC kd i v x).2) := by first | exact qg6_0 | rw [qg6_0, e3] | (rw [qg6_0]; exact e3)
  have hg6_kp_1 : ag6 kp 1 = i := (congrFun (frg6 kp (by omega)) _).trans hg2_kp_1
  have hg6_kp_2 : ag6 kp 2 = v := (congrFun (frg6 kp (by omega)) _).trans hg2_kp_2
  have frvig6 : ∀ k : Nat, (¬ k = 30) → ag6 k = vi k := fun k hk => (frg6 k (by omega)).trans (frvig2 k hk)
  have e7 : ag6 30 = bc (vi 30) ((([31])) ++ ((a_pC kd i v x).2)) := by first | exact qg6_0b | (rw [qg6_0b]; exact (bc_app _ _ _).symm) | (rw [qg6_0b, bc_app])
  have b8 : ag6 30 0 = vi 30 0 + (((([31])) ++ ((a_pC kd i v x).2) : List Int).length : Int) := by rw [e7, bc_0]
  simp only [List.length_append, List.length_cons, List.length_nil] at b8
  refine vx_bipush hC (by decide) eX7_countsAct_12 ?_
  refine vx_ixor hC eX7_countsAct_14 ?_
  exact vx_iret hC hM rfl eX7_countsAct_15 (⟨_, rfl, (by unfold a_C ax; rw [if_pos hkk]; simp only [hx5]), (by first | exact e7 | (rw [e7]; done) | (rw [e7]; unfold a_C; rw [if_pos hkk]; rfl)), rfl, rfl, rfl, rfl, fun k hk => frvig6 k hk⟩)
set_option maxHeartbeats 4000000 in
set_option maxRecDepth 100000 in
theorem kX3_countsAct (G : xg_T) (d : Nat) (n : Nat) (tau : Nat → Nat × Nat) (vi vl : Nat → Int → Int) (vr : Nat → Int → Option Nat) (hO : xo n tau vr) (kp : Nat) (kd i v : Int) (ht : kp < n ∧ tau kp = (pn kd, 0)) (h45 : 45 ≤ kp) (hkd : 0 ≤ kd ∧ kd ≤ 6) (h1 : vi kp 1 = i) (h2 : vi kp 2 = v) (hr : 0 ≤ vi 30 0 ∧ vi 30 0 ≤ 8) (hkk : kd = 4) (x : Int) : xm G yX3_countsAct cX3_countsAct 4 (some .int) (d + 7) 0 0 [xa_r kp, xa_i x, xa_r 30] n tau vi vl vr (xp_i (fun z9 n1 t1 a1 b1 c1 => (z9 = (a_C kd i v x).1) ∧ (a1 30 = bc (vi 30) (a_C kd i v x).2) ∧ xs_I (fun k => ¬ k = 30) n tau vi vl vr n1 t1 a1 b1 c1)) := by
  refine xm.of (lv := [(0, xa_r kp), (1, xa_i x), (2, xa_r 30)]) (by decide) (Nat.le_of_ble_eq_true rfl) rfl (fun K hC hM hRm => ?_)
  obtain ⟨C9, T9, N9, hc9⟩ := pn_cl kd
  have q4 := a_pC_l kd i v (x - 1)
  refine vx_bipush hC (by decide) eX3_countsAct_0 ?_
  refine vx_aload_n hC 2 rfl eX3_countsAct_2 ?_
  refine vx_callSS_v hC (kX4_began G (d + 5) _ _ _ _ _ hO 41 (by omega)) ls_X3_11 rfl hRm (by omega) (Nat.le_of_ble_eq_true rfl) rfl eX3_countsAct_3 (fun ng2 tg2 ag2 bg2 cg2 hg2 => ?_)
  obtain ⟨qg2_0, rfl, rfl, rfl, rfl, frg2⟩ := hg2
  have hg2_kp_1 : ag2 kp 1 = i := (congrFun (frg2 kp (by omega)) _).trans h1
  have hg2_kp_2 : ag2 kp 2 = v := (congrFun (frg2 kp (by omega)) _).trans h2
  have frvig2 : ∀ k : Nat, (¬ k = 30) → ag2 k = vi k := fun k hk => (frg2 k (by omega))
  have e3 : ag2 30 = bc (vi 30) (([41])) := by first | exact qg2_0 | (rw [qg2_0]; exact (bc_app _ _ _).symm) | (rw [qg2_0, bc_app])
  have b4 : ag2 30 0 = vi 30 0 + ((([41]) : List Int).length : Int) := by rw [e3, bc_0]
  simp only [List.length_append, List.length_cons, List.length_nil] at b4
  refine vx_aload_n hC 0 rfl eX3_countsAct_6 ?_
  refine vx_iload_n hC 1 rfl eX3_countsAct_7 ?_
  refine vx_iconst hC eX3_countsAct_8 ?_
  refine vx_isub hC eX3_countsAct_9 ?_
  refine vx_aload_n hC 2 rfl eX3_countsAct_10 ?_
  refine vx_callSP_i hC (kX4_countsAct G d _ _ _ _ _ hO kp kd i v ht h45 hkd hg2_kp_1 hg2_kp_2 (by omega) (x - 1)) ls_X3_17 ht hc9 rfl hRm (by omega) (Nat.le_of_ble_eq_true rfl) rfl eX3_countsAct_11 (fun x5 ng6 tg6 ag6 bg6 cg6 hg6 => ?_)
  obtain ⟨hx5, qg6_0, rfl, rfl, rfl, rfl, frg6⟩ := hg6
  have qg6_0b : ag6 30 = bc (bc (vi 30) (([41]))) ((a_pC kd i v (x - 1)).2) := by first | exact qg6_0 | rw [qg6_0, e3] | (rw [qg6_0]; exact e3)
  have hg6_kp_1 : ag6 kp 1 = i := (congrFun (frg6 kp (by omega)) _).trans hg2_kp_1
  have hg6_kp_2 : ag6 kp 2 = v := (congrFun (frg6 kp (by omega)) _).trans hg2_kp_2
  have frvig6 : ∀ k : Nat, (¬ k = 30) → ag6 k = vi k := fun k hk => (frg6 k (by omega)).trans (frvig2 k hk)
  have e7 : ag6 30 = bc (vi 30) ((([41])) ++ ((a_pC kd i v (x - 1)).2)) := by first | exact qg6_0b | (rw [qg6_0b]; exact (bc_app _ _ _).symm) | (rw [qg6_0b, bc_app])
  have b8 : ag6 30 0 = vi 30 0 + (((([41])) ++ ((a_pC kd i v (x - 1)).2) : List Int).length : Int) := by rw [e7, bc_0]
  simp only [List.length_append, List.length_cons, List.length_nil] at b8
  refine vx_istore_n hC (lv1 := [(3, xa_i x5), (0, xa_r kp), (1, xa_i x), (2, xa_r 30)]) (by decide) rfl eX3_countsAct_14 ?_
  refine vx_iload_n hC 0 rfl eX3_countsAct_15 ?_
  refine vx_aload_n hC 1 rfl eX3_countsAct_16 ?_
  refine vx_iconst hC eX3_countsAct_17 ?_
  refine vx_aload_n hC 3 rfl eX3_countsAct_18 ?_
  refine vx_S_RX3 hC hO ht h45 hkd (by omega) hg6_kp_1 hg6_kp_2 (by omega) hRm (by omega) (Nat.le_of_ble_eq_true rfl) eX3_countsAct_19 (fun ag9 qg9 frg9 => ?_)
  have wg9 : ag9 30 = bc (bc (vi 30) ((([41])) ++ ((a_pC kd i v (x - 1)).2))) (a_S kd i 2).2 := by first | exact qg9 | (rw [qg9, e7])
  have hg9_1 : ag9 kp 1 = i := (congrFun (frg9 kp (by omega)) _).trans hg6_kp_1
  have hg9_2 : ag9 kp 2 = v := (congrFun (frg9 kp (by omega)) _).trans hg6_kp_2
  have frvig9 : ∀ k : Nat, ¬ k = 30 → ag9 k = vi k := fun k hk => (frg9 k hk).trans (frvig6 k hk)
  have lg9 := a_S_l kd i 2
  have e10 : ag9 30 = bc (vi 30) (((([41])) ++ ((a_pC kd i v (x - 1)).2)) ++ (a_S kd i 2).2) := by first | exact wg9 | (rw [wg9]; exact (bc_app _ _ _).symm) | (rw [wg9, bc_app])
  have b11 : ag9 30 0 = vi 30 0 + ((((([41])) ++ ((a_pC kd i v (x - 1)).2)) ++ (a_S kd i 2).2 : List Int).length : Int) := by rw [e10, bc_0]
  simp only [List.length_append, List.length_cons, List.length_nil] at b11
  refine vx_iadd hC eX3_countsAct_22 ?_
  exact vx_iret hC hM rfl eX3_countsAct_23 (⟨_, rfl, (by unfold a_C; rw [if_neg (by omega), if_pos hkk]; simp only [hx5]), (by first | exact e10 | (rw [e10]; done) | (rw [e10]; unfold a_C; rw [if_neg (by omega), if_pos hkk]; simp only [List.cons_append, List.nil_append, List.append_assoc])), rfl, rfl, rfl, rfl, fun k hk => frvig9 k hk⟩)
theorem a_C_pl {kd : Int} (h : ¬ (kd = 3 ∨ kd = 6)) (h2 : ¬ kd = 4) (i v x : Int) : a_C kd i v x = a_pC kd i v x := by unfold a_C; rw [if_neg h, if_neg h2]
section XV
variable {G : xg_T} {K : xk_T} {cc : ByteArray} {own : String} {nL : Nat} {Q : State → Prop} {cells slots n : Nat} {tau : Nat → Nat × Nat} {vi vl : Nat → Int → Int} {vr : Nat → Int → Option Nat} {pc pc1 : Nat} {lv : List (Nat × xa_T)} {st : List xa_T}
theorem vx_C_RX11 (hC : xk_C G K cc RX11 nL) {d1 mc1 ms1 kp : Nat} {kd i v x : Int} (hO : xo n tau vr) (ht : kp < n ∧ tau kp = (pn kd, 0)) (h45 : 45 ≤ kp) (hkd : 0 ≤ kd ∧ kd ≤ 6) (hks : kd = 0 ∨ kd = 1 ∨ kd = 2 ∨ kd = 3 ∨ kd = 4 ∨ kd = 5 ∨ kd = 6) (h1 : vi kp 1 = i) (h2 : vi kp 2 = v) (hr : 0 ≤ vi 30 0 ∧ vi 30 0 ≤ 8) (hRm : xk_Rm K d1 mc1 ms1) (hcs : 8 ≤ d1 ∧ cells ≤ mc1 ∧ slots ≤ ms1) (hw8 : (st.map xa_c).sum ≤ 8) (hd : xd_D cc pc (.invokevirtual 222) 3 pc1) (kk : ∀ a1 : Nat → Int → Int, a1 30 = bc (vi 30) (a_C kd i v x).2 → (∀ k, ¬ k = 30 → a1 k = vi k) → xv G K nL Q cells slots n tau a1 vl vr pc1 lv (xa_i (a_C kd i v x).1 :: st)) : xv G K nL Q cells slots n tau vi vl vr pc lv (xa_r 30 :: xa_i x :: xa_r kp :: st) := by
  rcases hks with hz | hz | hz | hz | hz | hz | hz
  · subst hz
    refine vx_callU_i hC (kX4_countsAct G 0 n tau vi vl vr hO kp 0 i v ht h45 hkd h1 h2 (by omega) x) lu_X11_222_4 ht rfl rfl hRm (by omega) hw8 rfl hd (fun z n9 t9 a9 b9 c9 h => ?_)
    obtain ⟨hx, h30, rfl, rfl, rfl, rfl, hfr⟩ := h
    rw [hx]
    rw [a_C_pl (by omega) (by omega)] at kk
    exact kk a9 h30 hfr
  · subst hz
    refine vx_callU_i hC (kX4_countsAct G 0 n tau vi vl vr hO kp 1 i v ht h45 hkd h1 h2 (by omega) x) lu_X11_222_0 ht rfl rfl hRm (by omega) hw8 rfl hd (fun z n9 t9 a9 b9 c9 h => ?_)
    obtain ⟨hx, h30, rfl, rfl, rfl, rfl, hfr⟩ := h
    rw [hx]
    rw [a_C_pl (by omega) (by omega)] at kk
    exact kk a9 h30 hfr
  · subst hz
    refine vx_callU_i hC (kX4_countsAct G 0 n tau vi vl vr hO kp 2 i v ht h45 hkd h1 h2 (by omega) x) lu_X11_222_9 ht rfl rfl hRm (by omega) hw8 rfl hd (fun z n9 t9 a9 b9 c9 h => ?_)
    obtain ⟨hx, h30, rfl, rfl, rfl, rfl, hfr⟩ := h
    rw [hx]
    rw [a_C_pl (by omega) (by omega)] at kk
    exact kk a9 h30 hfr
  · subst hz
    refine vx_callU_i hC (kX7_countsAct G 0 n tau vi vl vr hO kp 3 i v ht h45 hkd h1 h2 (by omega) (by omega) x) lu_X11_222_7 ht rfl rfl hRm (by omega) hw8 rfl hd (fun z n9 t9 a9 b9 c9 h => ?_)
    obtain ⟨hx, h30, rfl, rfl, rfl, rfl, hfr⟩ := h
    rw [hx]
    exact kk a9 (h30) hfr
  · subst hz
    refine vx_callU_i hC (kX3_countsAct G 0 n tau vi vl vr hO kp 4 i v ht h45 hkd h1 h2 (by omega) (by omega) x) lu_X11_222_3 ht rfl rfl hRm (by omega) hw8 rfl hd (fun z n9 t9 a9 b9 c9 h => ?_)
    obtain ⟨hx, h30, rfl, rfl, rfl, rfl, hfr⟩ := h
    rw [hx]
    exact kk a9 (h30) hfr
  · subst hz
    refine vx_callU_i hC (kX4_countsAct G 0 n tau vi vl vr hO kp 5 i v ht h45 hkd h1 h2 (by omega) x) lu_X11_222_1 ht rfl rfl hRm (by omega) hw8 rfl hd (fun z n9 t9 a9 b9 c9 h => ?_)
    obtain ⟨hx, h30, rfl, rfl, rfl, rfl, hfr⟩ := h
    rw [hx]
    rw [a_C_pl (by omega) (by omega)] at kk
    exact kk a9 h30 hfr
  · subst hz
    refine vx_callU_i hC (kX7_countsAct G 0 n tau vi vl vr hO kp 6 i v ht h45 hkd h1 h2 (by omega) (by omega) x) lu_X11_222_10 ht rfl rfl hRm (by omega) hw8 rfl hd (fun z n9 t9 a9 b9 c9 h => ?_)
    obtain ⟨hx, h30, rfl, rfl, rfl, rfl, hfr⟩ := h
    rw [hx]
    exact kk a9 (h30) hfr
end XV
theorem cq_act {s im : Int → Int} {has ran : Int} {bod : Int → Int} {n : Nat} {tau : Nat → Nat × Nat} {vi vl a : Nat → Int → Int} {vr : Nat → Int → Option Nat} (hO : xo n tau vr) (hR : RCl s im has ran bod n tau vi vr) (L : List Int) (hl : L.length ≤ 20) (h30 : a 30 = bc (fu (vi 30) 0 0) L) (hfr : ∀ k, ¬ k = 30 → a k = vi k) : cq s im has (L.length : Int) (bput bod 0 L) n tau vi vl n tau a vl vr := by
  refine ⟨⟨Nat.le_refl _, by omega⟩, fun _ _ => rfl, hO, ?_, fun k hk => ⟨hfr k (by omega), rfl⟩⟩
  obtain ⟨h1, h2, h3, h4, h5, h6, h7, h8, h9, h10⟩ := hR
  refine ⟨h1.fr (fun k q => hfr k (by omega)) (Nat.le_refl _) (fun _ _ => rfl) (fun _ _ => rfl), ?_, ?_, ?_, ?_, by omega, h7, ?_, ?_, h10⟩
  · rcases h2 with h2 | h2
    · exact Or.inl h2
    · exact Or.inr ⟨h2.1, h2.2.fr (fun k q => hfr k (by omega)) (Nat.le_refl _) (fun _ _ => rfl) (fun _ _ => rfl)⟩
  · rw [hfr 0 (by omega)]; exact h3
  · rw [h30, bc_0, fu_s]; omega
  · intro z z1 z2
    rw [h30]
    exact bc_at L _ bod 0 z (fu_s _ _ _) (by omega) (fun w w1 w2 => by omega) z1 (by omega)
  · rw [hfr 2 (by omega)]; exact h8
  · rw [hfr 9 (by omega)]; exact h9
theorem sp_act_l (s : Int → Int) (q a x : Int) : (sp_act s q a x).2.length ≤ 8 := by
  have h1 := a_S_l (s (10 + q)) q x
  have h2 := a_T_l (s (10 + q)) q (s (14 + q)) x
  have h3 := a_C_l (s (10 + q)) q (s (14 + q)) x
  unfold sp_act
  split
  · simp
  · split
    · omega
    · split <;> omega
set_option maxHeartbeats 4000000 in
set_option maxRecDepth 100000 in
theorem kX11_act (G : xg_T) (d : Nat) (n : Nat) (tau : Nat → Nat × Nat) (vi vl : Nat → Int → Int) (vr : Nat → Int → Option Nat) (hO : xo n tau vr) (s im : Int → Int) (has ran : Int) (bod : Int → Int) (hR : RCl s im has ran bod n tau vi vr) (hV : ms_V s) (q a x : Int) (hq : -2147483648 ≤ q ∧ q < 2147483648) (ha : -2147483648 ≤ a ∧ a < 2147483648) : xm G yX11_act cX11_act 5 (some .int) (d + 8) 0 0 [xa_r 0, xa_i q, xa_i a, xa_i x] n tau vi vl vr (xp_i (fun z9 n1 t1 a1 b1 c1 => z9 = (sp_act s q a x).1 ∧ cq (s) (im) (has) (((sp_act s q a x).2.length : Int)) (bput bod 0 (sp_act s q a x).2) n tau vi vl n1 t1 a1 b1 c1)) := by
  refine xm.of (lv := [(0, xa_r 0), (1, xa_i q), (2, xa_i a), (3, xa_i x)]) (by decide) (Nat.le_of_ble_eq_true rfl) rfl (fun K hC hM hRm => ?_)
  have hS : rp_S 1 s n tau vi vr := hR.1
  obtain ⟨q1, q3, q7, q8, q9, q10, qt, qp, qr, qpl, qtb⟩ := id hS
  have hW : ms_W s := hV.1
  have h60 := hV.2
  obtain ⟨hr, h0, h1, h2, h3, h4, h5, h6, hp0, hrow, hwon, htape, htab⟩ := id hW
  obtain ⟨-, R2, R3, R4, R5, R6, R7, R8, R9, R10⟩ := id hR
  refine vx_aload_n hC 0 rfl eX11_act_0 ?_
  refine vx_gr hC 5 (ot_0 hO) lf_X11_35 rfl (or_0_5 hO) eX11_act_1 ?_
  refine vx_iconst hC eX11_act_4 ?_
  refine vx_iconst hC eX11_act_5 ?_
  refine vx_iastore hC (ot_30 hO) (by omega) (by omega) eX11_act_6 ?_
  refine vx_vi (fun v1 hv1 => ?_)
  obtain ⟨f2, hf2⟩ : ∃ f, f = fu (vi 30) 0 0 := ⟨_, rfl⟩
  have hv1_30 : v1 30 = f2 := by rw [hv1, hf2, xu_k]
  have frv1 : ∀ k : Nat, (¬ k = 30) → v1 k = vi k := fun k hk => by rw [hv1, xu_c _ _ _ _ (by omega)]
  have e30 : v1 30 = fu (vi 30) 0 0 := by rw [hv1_30, hf2]
  have e300 : v1 30 0 = 0 := by rw [e30, fu_s]
  have hS0 := hS
  replace hS : rp_S 1 s n tau v1 vr := hS0.fr (fun k hk => frv1 k (by omega)) (Nat.le_refl _) (fun _ _ => rfl) (fun _ _ => rfl)
  refine vx_aload_n hC 0 rfl eX11_act_7 ?_
  refine vx_gr hC 0 (ot_0 hO) lf_X11_12 rfl (or_0_0 hO) eX11_act_8 ?_
  refine vx_iload_n hC 1 rfl eX11_act_11 ?_
  refine vx_callV_q hC (kX6_playerAt G (d + 6) _ _ _ _ _ hO s hS hV q (by omega)) ly_X11_93 (ot_1 hO) rfl rfl rfl hRm (by omega) (Nat.le_of_ble_eq_true rfl) rfl eX11_act_12 (fun r3 n9 t9 a9 b9 c9 hr3 => ?_)
  obtain ⟨hr3, rfl, rfl, rfl, rfl, rfl⟩ := hr3
  rcases hr3 with ⟨rfl, hno⟩ | ⟨kp, rfl, hyes, hkp⟩
  · refine vx_astore hC (lv1 := [(4, xa_n), (0, xa_r 0), (1, xa_i q), (2, xa_i a), (3, xa_i x)]) (by decide) rfl eX11_act_15 ?_
    refine vx_aload hC 0 rfl eX11_act_17 ?_
    refine vx_ifnonnull hC (tgt := 24) (by decide) eX11_act_19 (fun k h => by cases h) (fun _ => ?_)
    refine vx_iconst hC eX11_act_22 ?_
    have hL9 : (sp_act s q a x).2 = [] := by unfold sp_act; (repeat (first | rw [if_pos (by omega)] | rw [if_neg (by omega)]))
    have hl9 := sp_act_l s q a x
    exact vx_iret hC hM rfl eX11_act_23 (⟨_, rfl, by unfold sp_act; (repeat (first | rw [if_pos (by omega)] | rw [if_neg (by omega)])), cq_act hO hR (sp_act s q a x).2 (by omega) (by rw [hL9]; exact e30) frv1⟩)
  · obtain ⟨k1, k2, k3, k4, k5, k6⟩ := id hkp
    obtain ⟨g1, g2, g3, g4⟩ := hp0 q (by omega) (by omega)
    refine vx_astore hC (lv1 := [(4, xa_r kp), (0, xa_r 0), (1, xa_i q), (2, xa_i a), (3, xa_i x)]) (by decide) rfl eX11_act_15 ?_
    refine vx_aload hC 0 rfl eX11_act_17 ?_
    refine vx_ifnonnull hC (tgt := 24) (by decide) eX11_act_19 (fun _ _ => ?_) (fun h => by cases h)
    refine vx_iload_n hC 3 rfl eX11_act_24 ?_
    rcases (show a = 0 ∨ a = 1 ∨ a = 2 ∨ (¬ a = 0 ∧ ¬ a = 1 ∧ ¬ a = 2) by omega) with c4 | c4 | c4 | c4
    · refine vx_tableIn hC (tgt := 52) (by omega) (by omega) (by rw [c4]; rfl) (by decide) eX11_act_25 ?_
      refine vx_aload hC 0 rfl eX11_act_52 ?_
      refine vx_iload_n hC 4 rfl eX11_act_54 ?_
      refine vx_aload_n hC 1 rfl eX11_act_55 ?_
      refine vx_gr hC 5 (ot_0 hO) lf_X11_35 rfl (or_0_5 hO) eX11_act_56 ?_
      refine vx_S_RX11 hC hO ⟨k1.2, k2⟩ k1.1 (by omega) (by omega) k4 k5 (by omega) hRm (by omega) (Nat.le_of_ble_eq_true rfl) eX11_act_59 (fun ag5 qg5 frg5 => ?_)
      have wg5 : ag5 30 = bc (fu (vi 30) 0 0) (a_S (s (10 + q)) q x).2 := by rw [qg5, e30]
      have frvig5 : ∀ k : Nat, ¬ k = 30 → ag5 k = vi k := fun k hk => (frg5 k hk).trans (frv1 k hk)
      have hL9 : (sp_act s q a x).2 = (a_S (s (10 + q)) q x).2 := by unfold sp_act; (repeat (first | rw [if_pos (by omega)] | rw [if_neg (by omega)]))
      have hl9 := sp_act_l s q a x
      exact vx_iret hC hM rfl eX11_act_62 (⟨_, rfl, by unfold sp_act; (repeat (first | rw [if_pos (by omega)] | rw [if_neg (by omega)])), cq_act hO hR (sp_act s q a x).2 (by omega) (by rw [hL9]; exact wg5) frvig5⟩)
    · refine vx_tableIn hC (tgt := 63) (by omega) (by omega) (by rw [c4]; rfl) (by decide) eX11_act_25 ?_
      refine vx_aload hC 0 rfl eX11_act_63 ?_
      refine vx_iload_n hC 4 rfl eX11_act_65 ?_
      refine vx_aload_n hC 1 rfl eX11_act_66 ?_
      refine vx_gr hC 5 (ot_0 hO) lf_X11_35 rfl (or_0_5 hO) eX11_act_67 ?_
      refine vx_T_RX11 hC hO ⟨k1.2, k2⟩ k1.1 (by omega) (by omega) k4 k5 (by omega) hRm (by omega) (Nat.le_of_ble_eq_true rfl) eX11_act_70 (fun ag6 qg6 frg6 => ?_)
      have wg6 : ag6 30 = bc (fu (vi 30) 0 0) (a_T (s (10 + q)) q (s (14 + q)) x).2 := by rw [qg6, e30]
      have frvig6 : ∀ k : Nat, ¬ k = 30 → ag6 k = vi k := fun k hk => (frg6 k hk).trans (frv1 k hk)
      have hL9 : (sp_act s q a x).2 = (a_T (s (10 + q)) q (s (14 + q)) x).2 := by unfold sp_act; (repeat (first | rw [if_pos (by omega)] | rw [if_neg (by omega)]))
      have hl9 := sp_act_l s q a x
      exact vx_iret hC hM rfl eX11_act_73 (⟨_, rfl, by unfold sp_act; (repeat (first | rw [if_pos (by omega)] | rw [if_neg (by omega)])), cq_act hO hR (sp_act s q a x).2 (by omega) (by rw [hL9]; exact wg6) frvig6⟩)
    · refine vx_tableIn hC (tgt := 74) (by omega) (by omega) (by rw [c4]; rfl) (by decide) eX11_act_25 ?_
      refine vx_aload hC 0 rfl eX11_act_74 ?_
      refine vx_iload_n hC 4 rfl eX11_act_76 ?_
      refine vx_aload_n hC 1 rfl eX11_act_77 ?_
      refine vx_gr hC 5 (ot_0 hO) lf_X11_35 rfl (or_0_5 hO) eX11_act_78 ?_
      refine vx_C_RX11 hC hO ⟨k1.2, k2⟩ k1.1 (by omega) (by omega) k4 k5 (by omega) hRm (by omega) (Nat.le_of_ble_eq_true rfl) eX11_act_81 (fun ag7 qg7 frg7 => ?_)
      have wg7 : ag7 30 = bc (fu (vi 30) 0 0) (a_C (s (10 + q)) q (s (14 + q)) x).2 := by rw [qg7, e30]
      have frvig7 : ∀ k : Nat, ¬ k = 30 → ag7 k = vi k := fun k hk => (frg7 k hk).trans (frv1 k hk)
      have hL9 : (sp_act s q a x).2 = (a_C (s (10 + q)) q (s (14 + q)) x).2 := by unfold sp_act; (repeat (first | rw [if_pos (by omega)] | rw [if_neg (by omega)]))
      have hl9 := sp_act_l s q a x
      exact vx_iret hC hM rfl eX11_act_84 (⟨_, rfl, by unfold sp_act; (repeat (first | rw [if_pos (by omega)] | rw [if_neg (by omega)])), cq_act hO hR (sp_act s q a x).2 (by omega) (by rw [hL9]; exact wg7) frvig7⟩)
    · refine vx_tableOut hC (tgt := 85) (by omega) (by omega) (by decide) eX11_act_25 ?_
      refine vx_iconst hC eX11_act_85 ?_
      have hL9 : (sp_act s q a x).2 = [] := by unfold sp_act; (repeat (first | rw [if_pos (by omega)] | rw [if_neg (by omega)]))
      have hl9 := sp_act_l s q a x
      exact vx_iret hC hM rfl eX11_act_86 (⟨_, rfl, by unfold sp_act; (repeat (first | rw [if_pos (by omega)] | rw [if_neg (by omega)])), cq_act hO hR (sp_act s q a x).2 (by omega) (by rw [hL9]; exact e30) frv1⟩)
