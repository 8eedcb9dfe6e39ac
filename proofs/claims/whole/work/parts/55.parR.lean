theorem pput_push1 (u : Int → Int) {ac x i1 i2 v2 : Int} (L : List Int) (h0 : 0 ≤ ac ∧ ac ≤ 4) (h1 : i1 = 176 + 140 * ac + (L.length : Int)) (h2 : i2 = 171 + ac) (h3 : v2 = (L.length : Int) + 1) : fu (fu (pput u ac L) i1 x) i2 v2 = pput u ac (L ++ [x]) := by
  subst h1 h2 h3
  exact pput_push u L h0.1 h0.2
theorem pLt_step {h : Int → Int} {L : List Int} {j : Nat} {w sp : Int} (hj : j < L.length) : pLt h (L.drop j) w sp = pLt h (L.drop (j + 1)) (pMw h (L.getD j 0) w sp) (pMs h (L.getD j 0) w sp) := by
  rw [List.drop_eq_getElem_cons hj, pLt]
  simp [List.getD, hj]
theorem pLt_end {h : Int → Int} {L : List Int} {j : Nat} {w sp : Int} (hj : L.length ≤ j) : pLt h (L.drop j) w sp = (w, sp) := by
  rw [List.drop_eq_nil_of_le hj, pLt]
theorem tb_nn (i : Nat) (hi : i < 8) : ∀ x ∈ xw_byt.getD i [], 0 ≤ x := by
  have : ∀ i, i < 8 → ∀ x ∈ xw_byt.getD i [], 0 ≤ x := by decide
  exact this i hi
set_option maxHeartbeats 4000000 in
set_option maxRecDepth 100000 in
theorem kX12_hereP (G : xg_T) (d : Nat) (n : Nat) (tau : Nat → Nat × Nat) (vi vl : Nat → Int → Int) (vr : Nat → Int → Option Nat) (hO : xo n tau vr) (h u : Int → Int) (ac en sp w op : Int) (L : List Int) (h32 : vi 32 = pput u ac L) (h4 : vi 31 4 = ac) (h5 : vi 31 5 = sp) (h6 : vi 31 6 = en) (h7 : vi 31 7 = w) (h8 : vi 31 8 = op) (hac : 0 ≤ ac ∧ ac ≤ 4) (hen : pH h u en) (hsp : 0 ≤ sp ∧ sp ≤ en) (hw : w = 0 ∨ w = 1) (hL : (L.length : Int) ≤ sp)  : xm G yX12_here cX12_here 1 (some .int) (d + 1) 0 0 [xa_r 31] n tau vi vl vr (xp_i (fun z9 n1 t1 a1 b1 c1 => z9 = h sp ∧ xs_0 n tau vi vl vr n1 t1 a1 b1 c1)) := by
  refine xm.of (lv := [(0, xa_r 31)]) (by decide) (Nat.le_of_ble_eq_true rfl) rfl (fun K hC hM hRm => ?_)
  have he := hen.1
  have hh := hen.2
  have hhs := hh sp
  refine vx_aload_n hC 0 rfl eX12_here_0 ?_
  refine vx_gi hC 5 (ot_31 hO) lf_X12_61 rfl eX12_here_1 ?_
  refine vx_eqi h5 ?_
  refine vx_aload_n hC 0 rfl eX12_here_4 ?_
  refine vx_gi hC 6 (ot_31 hO) lf_X12_64 rfl eX12_here_5 ?_
  refine vx_eqi h6 ?_
  refine vx_icmp_ge hC (tgt := 26) (by omega) (by decide) eX12_here_8 (fun c1 => ?_) (fun c1 => ?_)
  · refine vx_iconst hC eX12_here_26 ?_
    exact vx_iret hC hM rfl eX12_here_27 (⟨_, rfl, by first | (rw [pput_lo _ _ _ hac.1 (by omega)]; exact (hhs.2.1 (by omega) (by omega)).symm) | exact (hhs.1 (by omega)).symm, xs_0.rf _ _ _ _ _⟩)
  · refine vx_aload_n hC 0 rfl eX12_here_11 ?_
    refine vx_gr hC 1 (ot_31 hO) lf_X12_9 rfl (or_31_1 hO) eX12_here_12 ?_
    refine vx_bipush hC (by decide) eX12_here_15 ?_
    refine vx_aload_n hC 0 rfl eX12_here_17 ?_
    refine vx_gi hC 5 (ot_31 hO) lf_X12_61 rfl eX12_here_18 ?_
    refine vx_eqi h5 ?_
    refine vx_iadd hC eX12_here_21 ?_
    refine vx_iaload hC (ot_32 hO) (by omega) (by omega) eX12_here_22 ?_
    refine vx_eqi (congrFun h32 _) ?_
    refine vx_goto hC (tgt := 27) (by decide) eX12_here_23 ?_
    exact vx_iret hC hM rfl eX12_here_27 (⟨_, rfl, by first | (rw [pput_lo _ _ _ hac.1 (by omega)]; exact (hhs.2.1 (by omega) (by omega)).symm) | exact (hhs.1 (by omega)).symm, xs_0.rf _ _ _ _ _⟩)
set_option maxHeartbeats 4000000 in
set_option maxRecDepth 100000 in
theorem kX12_must (G : xg_T) (d : Nat) (n : Nat) (tau : Nat → Nat × Nat) (vi vl : Nat → Int → Int) (vr : Nat → Int → Option Nat) (hO : xo n tau vr) (h u : Int → Int) (ac en sp w op : Int) (L : List Int) (h32 : vi 32 = pput u ac L) (h4 : vi 31 4 = ac) (h5 : vi 31 5 = sp) (h6 : vi 31 6 = en) (h7 : vi 31 7 = w) (h8 : vi 31 8 = op) (hac : 0 ≤ ac ∧ ac ≤ 4) (hen : pH h u en) (hsp : 0 ≤ sp ∧ sp ≤ en) (hw : w = 0 ∨ w = 1) (hL : (L.length : Int) ≤ sp) (c : Int) (hc : 0 ≤ c ∧ c ≤ 127) : xm G yX12_must cX12_must 2 none (d + 2) 0 0 [xa_r 31, xa_i c] n tau vi vl vr (xp_v (fun n1 t1 a1 b1 c1 => (a1 32 = pput u ac L) ∧ (a1 31 4 = ac) ∧ (a1 31 5 = (pMs h c w sp)) ∧ (a1 31 6 = en) ∧ (a1 31 7 = (pMw h c w sp)) ∧ (a1 31 8 = op) ∧ (a1 31 3 = vi 31 3) ∧ (a1 31 22 = vi 31 22) ∧ xs_I (fun k => ¬ k = 31 ∧ ¬ k = 32) n tau vi vl vr n1 t1 a1 b1 c1)) := by
  refine xm.of (lv := [(0, xa_r 31), (1, xa_i c)]) (by decide) (Nat.le_of_ble_eq_true rfl) rfl (fun K hC hM hRm => ?_)
  have he := hen.1
  have hh := hen.2
  have hhs := hh sp
  refine vx_aload_n hC 0 rfl eX12_must_0 ?_
  refine vx_aload_n hC 0 rfl eX12_must_1 ?_
  refine vx_gi hC 7 (ot_31 hO) lf_X12_67 rfl eX12_must_2 ?_
  refine vx_eqi h7 ?_
  refine vx_if_ne hC (tgt := 16) (by omega) (by decide) eX12_must_5 (fun c1 => ?_) (fun c1 => ?_)
  · refine vx_iconst hC eX12_must_16 ?_
    refine vx_goto hC (tgt := 21) (by decide) eX12_must_17 ?_
    refine vx_pi hC 7 (ot_31 hO) lp_X12_67 rfl (Or.inl rfl) (Or.inr ⟨rfl, by omega⟩) eX12_must_21 ?_
    refine vx_vi (fun v2 hv2 => ?_)
    have hv2_32 : v2 32 = pput u ac L := by rw [hv2, xu_c _ _ _ _ (by decide), h32]
    have hv2_31_4 : v2 31 4 = ac := by rw [hv2, xu_k, fu_n _ _ _ (by decide), h4]
    have hv2_31_5 : v2 31 5 = sp := by rw [hv2, xu_k, fu_n _ _ _ (by decide), h5]
    have hv2_31_6 : v2 31 6 = en := by rw [hv2, xu_k, fu_n _ _ _ (by decide), h6]
    have hv2_31_7 : v2 31 7 = 1 := by rw [hv2, xu_k, fu_s]
    have hv2_31_8 : v2 31 8 = op := by rw [hv2, xu_k, fu_n _ _ _ (by decide), h8]
    have hv2_31_3 : v2 31 3 = vi 31 3 := by rw [hv2, xu_k, fu_n _ _ _ (by decide)]
    have hv2_31_22 : v2 31 22 = vi 31 22 := by rw [hv2, xu_k, fu_n _ _ _ (by decide)]
    have frv2 : ∀ k : Nat, (¬ k = 31 ∧ ¬ k = 32) → v2 k = vi k := fun k hk => by rw [hv2, xu_c _ _ _ _ (by omega)]
    refine vx_aload_n hC 0 rfl eX12_must_24 ?_
    refine vx_dup hC rfl eX12_must_25 ?_
    refine vx_gi hC 5 (ot_31 hO) lf_X12_61 rfl eX12_must_26 ?_
    refine vx_eqi hv2_31_5 ?_
    refine vx_aload_n hC 0 rfl eX12_must_29 ?_
    refine vx_gi hC 7 (ot_31 hO) lf_X12_67 rfl eX12_must_30 ?_
    refine vx_eqi hv2_31_7 ?_
    refine vx_if_eq hC (tgt := 40) (by omega) (by decide) eX12_must_33 (fun c3 => absurd c3 (by omega)) (fun c3 => ?_)
    refine vx_iconst hC eX12_must_36 ?_
    refine vx_goto hC (tgt := 41) (by decide) eX12_must_37 ?_
    refine vx_iadd hC eX12_must_41 ?_
    refine vx_top (fun x4 hx4 => ?_)
    refine vx_pi hC 5 (ot_31 hO) lp_X12_61 rfl (Or.inl rfl) (Or.inl rfl) eX12_must_42 ?_
    refine vx_vi (fun v5 hv5 => ?_)
    have hv5_32 : v5 32 = pput u ac L := by rw [hv5, xu_c _ _ _ _ (by decide), hv2_32]
    have hv5_31_4 : v5 31 4 = ac := by rw [hv5, xu_k, fu_n _ _ _ (by decide), hv2_31_4]
    have hv5_31_5 : v5 31 5 = x4 := by rw [hv5, xu_k, fu_s]
    have hv5_31_6 : v5 31 6 = en := by rw [hv5, xu_k, fu_n _ _ _ (by decide), hv2_31_6]
    have hv5_31_7 : v5 31 7 = 1 := by rw [hv5, xu_k, fu_n _ _ _ (by decide), hv2_31_7]
    have hv5_31_8 : v5 31 8 = op := by rw [hv5, xu_k, fu_n _ _ _ (by decide), hv2_31_8]
    have hv5_31_3 : v5 31 3 = vi 31 3 := by rw [hv5, xu_k, fu_n _ _ _ (by decide), hv2_31_3]
    have hv5_31_22 : v5 31 22 = vi 31 22 := by rw [hv5, xu_k, fu_n _ _ _ (by decide), hv2_31_22]
    have frv5 : ∀ k : Nat, (¬ k = 31 ∧ ¬ k = 32) → v5 k = vi k := fun k hk => by rw [hv5, xu_c _ _ _ _ (by omega)]; exact frv2 k hk
    exact vx_vret hC hM eX12_must_45 (⟨rfl, hv5_32, hv5_31_4, (by rw [hv5_31_5]; unfold pMs; split <;> omega), hv5_31_6, (by rw [hv5_31_7]; unfold pMw; split <;> omega), hv5_31_8, hv5_31_3, hv5_31_22, rfl, rfl, rfl, rfl, fun k hk => frv5 k hk⟩)
  · refine vx_aload_n hC 0 rfl eX12_must_8 ?_
    refine vx_callV_i hC (kX12_hereP G d _ _ _ _ _ hO h u ac en sp w op L h32 h4 h5 h6 h7 h8 hac hen (by omega) (by omega) (by omega)) ly_X12_71 (ot_31 hO) rfl rfl rfl hRm (by omega) (Nat.le_of_ble_eq_true rfl) rfl eX12_must_9 (fun x6 n9 t9 a9 b9 c9 hx6 => ?_)
    obtain ⟨hx6, rfl, rfl, rfl, rfl, rfl⟩ := hx6
    have hrx6 := hh sp
    refine vx_iload_n hC 1 rfl eX12_must_12 ?_
    refine vx_icmp_eq hC (tgt := 20) (by omega) (by decide) eX12_must_13 (fun c7 => ?_) (fun c7 => ?_)
    · refine vx_iconst hC eX12_must_20 ?_
      refine vx_pi hC 7 (ot_31 hO) lp_X12_67 rfl (Or.inl rfl) (Or.inr ⟨rfl, by omega⟩) eX12_must_21 ?_
      refine vx_vi (fun v8 hv8 => ?_)
      have hv8_32 : v8 32 = pput u ac L := by rw [hv8, xu_c _ _ _ _ (by decide), h32]
      have hv8_31_4 : v8 31 4 = ac := by rw [hv8, xu_k, fu_n _ _ _ (by decide), h4]
      have hv8_31_5 : v8 31 5 = sp := by rw [hv8, xu_k, fu_n _ _ _ (by decide), h5]
      have hv8_31_6 : v8 31 6 = en := by rw [hv8, xu_k, fu_n _ _ _ (by decide), h6]
      have hv8_31_7 : v8 31 7 = 0 := by rw [hv8, xu_k, fu_s]
      have hv8_31_8 : v8 31 8 = op := by rw [hv8, xu_k, fu_n _ _ _ (by decide), h8]
      have hv8_31_3 : v8 31 3 = vi 31 3 := by rw [hv8, xu_k, fu_n _ _ _ (by decide)]
      have hv8_31_22 : v8 31 22 = vi 31 22 := by rw [hv8, xu_k, fu_n _ _ _ (by decide)]
      have frv8 : ∀ k : Nat, (¬ k = 31 ∧ ¬ k = 32) → v8 k = vi k := fun k hk => by rw [hv8, xu_c _ _ _ _ (by omega)]
      refine vx_aload_n hC 0 rfl eX12_must_24 ?_
      refine vx_dup hC rfl eX12_must_25 ?_
      refine vx_gi hC 5 (ot_31 hO) lf_X12_61 rfl eX12_must_26 ?_
      refine vx_eqi hv8_31_5 ?_
      refine vx_aload_n hC 0 rfl eX12_must_29 ?_
      refine vx_gi hC 7 (ot_31 hO) lf_X12_67 rfl eX12_must_30 ?_
      refine vx_eqi hv8_31_7 ?_
      refine vx_if_eq hC (tgt := 40) (by omega) (by decide) eX12_must_33 (fun c9 => ?_) (fun c9 => absurd c9 (by omega))
      refine vx_iconst hC eX12_must_40 ?_
      refine vx_iadd hC eX12_must_41 ?_
      refine vx_top (fun x10 hx10 => ?_)
      refine vx_pi hC 5 (ot_31 hO) lp_X12_61 rfl (Or.inl rfl) (Or.inl rfl) eX12_must_42 ?_
      refine vx_vi (fun v11 hv11 => ?_)
      have hv11_32 : v11 32 = pput u ac L := by rw [hv11, xu_c _ _ _ _ (by decide), hv8_32]
      have hv11_31_4 : v11 31 4 = ac := by rw [hv11, xu_k, fu_n _ _ _ (by decide), hv8_31_4]
      have hv11_31_5 : v11 31 5 = x10 := by rw [hv11, xu_k, fu_s]
      have hv11_31_6 : v11 31 6 = en := by rw [hv11, xu_k, fu_n _ _ _ (by decide), hv8_31_6]
      have hv11_31_7 : v11 31 7 = 0 := by rw [hv11, xu_k, fu_n _ _ _ (by decide), hv8_31_7]
      have hv11_31_8 : v11 31 8 = op := by rw [hv11, xu_k, fu_n _ _ _ (by decide), hv8_31_8]
      have hv11_31_3 : v11 31 3 = vi 31 3 := by rw [hv11, xu_k, fu_n _ _ _ (by decide), hv8_31_3]
      have hv11_31_22 : v11 31 22 = vi 31 22 := by rw [hv11, xu_k, fu_n _ _ _ (by decide), hv8_31_22]
      have frv11 : ∀ k : Nat, (¬ k = 31 ∧ ¬ k = 32) → v11 k = vi k := fun k hk => by rw [hv11, xu_c _ _ _ _ (by omega)]; exact frv8 k hk
      exact vx_vret hC hM eX12_must_45 (⟨rfl, hv11_32, hv11_31_4, (by rw [hv11_31_5]; unfold pMs; split <;> omega), hv11_31_6, (by rw [hv11_31_7]; unfold pMw; split <;> omega), hv11_31_8, hv11_31_3, hv11_31_22, rfl, rfl, rfl, rfl, fun k hk => frv11 k hk⟩)
    · refine vx_iconst hC eX12_must_16 ?_
      refine vx_goto hC (tgt := 21) (by decide) eX12_must_17 ?_
      refine vx_pi hC 7 (ot_31 hO) lp_X12_67 rfl (Or.inl rfl) (Or.inr ⟨rfl, by omega⟩) eX12_must_21 ?_
      refine vx_vi (fun v12 hv12 => ?_)
      have hv12_32 : v12 32 = pput u ac L := by rw [hv12, xu_c _ _ _ _ (by decide), h32]
      have hv12_31_4 : v12 31 4 = ac := by rw [hv12, xu_k, fu_n _ _ _ (by decide), h4]
      have hv12_31_5 : v12 31 5 = sp := by rw [hv12, xu_k, fu_n _ _ _ (by decide), h5]
      have hv12_31_6 : v12 31 6 = en := by rw [hv12, xu_k, fu_n _ _ _ (by decide), h6]
      have hv12_31_7 : v12 31 7 = 1 := by rw [hv12, xu_k, fu_s]
      have hv12_31_8 : v12 31 8 = op := by rw [hv12, xu_k, fu_n _ _ _ (by decide), h8]
      have hv12_31_3 : v12 31 3 = vi 31 3 := by rw [hv12, xu_k, fu_n _ _ _ (by decide)]
      have hv12_31_22 : v12 31 22 = vi 31 22 := by rw [hv12, xu_k, fu_n _ _ _ (by decide)]
      have frv12 : ∀ k : Nat, (¬ k = 31 ∧ ¬ k = 32) → v12 k = vi k := fun k hk => by rw [hv12, xu_c _ _ _ _ (by omega)]
      refine vx_aload_n hC 0 rfl eX12_must_24 ?_
      refine vx_dup hC rfl eX12_must_25 ?_
      refine vx_gi hC 5 (ot_31 hO) lf_X12_61 rfl eX12_must_26 ?_
      refine vx_eqi hv12_31_5 ?_
      refine vx_aload_n hC 0 rfl eX12_must_29 ?_
      refine vx_gi hC 7 (ot_31 hO) lf_X12_67 rfl eX12_must_30 ?_
      refine vx_eqi hv12_31_7 ?_
      refine vx_if_eq hC (tgt := 40) (by omega) (by decide) eX12_must_33 (fun c13 => absurd c13 (by omega)) (fun c13 => ?_)
      refine vx_iconst hC eX12_must_36 ?_
      refine vx_goto hC (tgt := 41) (by decide) eX12_must_37 ?_
      refine vx_iadd hC eX12_must_41 ?_
      refine vx_top (fun x14 hx14 => ?_)
      refine vx_pi hC 5 (ot_31 hO) lp_X12_61 rfl (Or.inl rfl) (Or.inl rfl) eX12_must_42 ?_
      refine vx_vi (fun v15 hv15 => ?_)
      have hv15_32 : v15 32 = pput u ac L := by rw [hv15, xu_c _ _ _ _ (by decide), hv12_32]
      have hv15_31_4 : v15 31 4 = ac := by rw [hv15, xu_k, fu_n _ _ _ (by decide), hv12_31_4]
      have hv15_31_5 : v15 31 5 = x14 := by rw [hv15, xu_k, fu_s]
      have hv15_31_6 : v15 31 6 = en := by rw [hv15, xu_k, fu_n _ _ _ (by decide), hv12_31_6]
      have hv15_31_7 : v15 31 7 = 1 := by rw [hv15, xu_k, fu_n _ _ _ (by decide), hv12_31_7]
      have hv15_31_8 : v15 31 8 = op := by rw [hv15, xu_k, fu_n _ _ _ (by decide), hv12_31_8]
      have hv15_31_3 : v15 31 3 = vi 31 3 := by rw [hv15, xu_k, fu_n _ _ _ (by decide), hv12_31_3]
      have hv15_31_22 : v15 31 22 = vi 31 22 := by rw [hv15, xu_k, fu_n _ _ _ (by decide), hv12_31_22]
      have frv15 : ∀ k : Nat, (¬ k = 31 ∧ ¬ k = 32) → v15 k = vi k := fun k hk => by rw [hv15, xu_c _ _ _ _ (by omega)]; exact frv12 k hk
      exact vx_vret hC hM eX12_must_45 (⟨rfl, hv15_32, hv15_31_4, (by rw [hv15_31_5]; unfold pMs; split <;> omega), hv15_31_6, (by rw [hv15_31_7]; unfold pMw; split <;> omega), hv15_31_8, hv15_31_3, hv15_31_22, rfl, rfl, rfl, rfl, fun k hk => frv15 k hk⟩)
set_option maxHeartbeats 4000000 in
set_option maxRecDepth 100000 in
theorem kX12_emits (G : xg_T) (d : Nat) (n : Nat) (tau : Nat → Nat × Nat) (vi vl : Nat → Int → Int) (vr : Nat → Int → Option Nat) (hO : xo n tau vr) (h u : Int → Int) (ac en sp w op : Int) (L : List Int) (h32 : vi 32 = pput u ac L) (h4 : vi 31 4 = ac) (h5 : vi 31 5 = sp) (h6 : vi 31 6 = en) (h7 : vi 31 7 = w) (h8 : vi 31 8 = op) (hac : 0 ≤ ac ∧ ac ≤ 4) (hen : pH h u en) (hsp : 0 ≤ sp ∧ sp ≤ en) (hw : w = 0 ∨ w = 1) (hL : (L.length : Int) ≤ sp) (x : Int) : xm G yX12_emits cX12_emits 2 none (d + 1) 0 0 [xa_r 31, xa_i x] n tau vi vl vr (xp_v (fun n1 t1 a1 b1 c1 => (a1 32 = pput u ac (pE w L x)) ∧ (a1 31 4 = ac) ∧ (a1 31 5 = sp) ∧ (a1 31 6 = en) ∧ (a1 31 7 = w) ∧ (a1 31 8 = op) ∧ (a1 31 3 = vi 31 3) ∧ (a1 31 22 = vi 31 22) ∧ xs_I (fun k => ¬ k = 31 ∧ ¬ k = 32) n tau vi vl vr n1 t1 a1 b1 c1)) := by
  refine xm.of (lv := [(0, xa_r 31), (1, xa_i x)]) (by decide) (Nat.le_of_ble_eq_true rfl) rfl (fun K hC hM hRm => ?_)
  have he := hen.1
  have hh := hen.2
  have hhs := hh sp
  refine vx_aload_n hC 0 rfl eX12_emits_0 ?_
  refine vx_gi hC 7 (ot_31 hO) lf_X12_67 rfl eX12_emits_1 ?_
  refine vx_eqi h7 ?_
  refine vx_if_ne hC (tgt := 56) (by omega) (by decide) eX12_emits_4 (fun c1 => ?_) (fun c1 => ?_)
  · exact vx_vret hC hM eX12_emits_56 (⟨rfl, (by unfold pE; first | (rw [if_neg (by omega)]; exact h32)), h4, h5, h6, h7, h8, rfl, rfl, rfl, rfl, rfl, rfl, fun k hk => rfl⟩)
  · refine vx_aload_n hC 0 rfl eX12_emits_7 ?_
    refine vx_gr hC 1 (ot_31 hO) lf_X12_9 rfl (or_31_1 hO) eX12_emits_8 ?_
    refine vx_sipush hC (by decide) eX12_emits_11 ?_
    refine vx_sipush hC (by decide) eX12_emits_14 ?_
    refine vx_aload_n hC 0 rfl eX12_emits_17 ?_
    refine vx_gi hC 4 (ot_31 hO) lf_X12_88 rfl eX12_emits_18 ?_
    refine vx_eqi h4 ?_
    refine vx_imul hC eX12_emits_21 ?_
    refine vx_iadd hC eX12_emits_22 ?_
    refine vx_aload_n hC 0 rfl eX12_emits_23 ?_
    refine vx_gr hC 1 (ot_31 hO) lf_X12_9 rfl (or_31_1 hO) eX12_emits_24 ?_
    refine vx_sipush hC (by decide) eX12_emits_27 ?_
    refine vx_aload_n hC 0 rfl eX12_emits_30 ?_
    refine vx_gi hC 4 (ot_31 hO) lf_X12_88 rfl eX12_emits_31 ?_
    refine vx_eqi h4 ?_
    refine vx_iadd hC eX12_emits_34 ?_
    refine vx_iaload hC (ot_32 hO) (by omega) (by omega) eX12_emits_35 ?_
    refine vx_eqi (congrFun h32 _) ?_
    refine vx_eqi (y := (L.length : Int)) (pput_m _ _ _) ?_
    refine vx_iadd hC eX12_emits_36 ?_
    refine vx_iload_n hC 1 rfl eX12_emits_37 ?_
    refine vx_top2 (fun x2 hx2 => ?_)
    refine vx_iastore hC (ot_32 hO) (by omega) (by omega) eX12_emits_38 ?_
    refine vx_vi (fun v3 hv3 => ?_)
    obtain ⟨f4, hf4⟩ : ∃ f, f = fu (pput u ac L) x2 x := ⟨_, rfl⟩
    have hv3_32 : v3 32 = f4 := by rw [hv3, hf4, xu_k, h32]
    have hv3_31_4 : v3 31 4 = ac := by rw [hv3, xu_c _ _ _ _ (by decide), h4]
    have hv3_31_5 : v3 31 5 = sp := by rw [hv3, xu_c _ _ _ _ (by decide), h5]
    have hv3_31_6 : v3 31 6 = en := by rw [hv3, xu_c _ _ _ _ (by decide), h6]
    have hv3_31_7 : v3 31 7 = w := by rw [hv3, xu_c _ _ _ _ (by decide), h7]
    have hv3_31_8 : v3 31 8 = op := by rw [hv3, xu_c _ _ _ _ (by decide), h8]
    have hv3_31_3 : v3 31 3 = vi 31 3 := by rw [hv3, xu_c _ _ _ _ (by decide)]
    have hv3_31_22 : v3 31 22 = vi 31 22 := by rw [hv3, xu_c _ _ _ _ (by decide)]
    have frv3 : ∀ k : Nat, (¬ k = 31 ∧ ¬ k = 32) → v3 k = vi k := fun k hk => by rw [hv3, xu_c _ _ _ _ (by omega)]
    refine vx_aload_n hC 0 rfl eX12_emits_39 ?_
    refine vx_gr hC 1 (ot_31 hO) lf_X12_9 rfl (or_31_1 hO) eX12_emits_40 ?_
    refine vx_sipush hC (by decide) eX12_emits_43 ?_
    refine vx_aload_n hC 0 rfl eX12_emits_46 ?_
    refine vx_gi hC 4 (ot_31 hO) lf_X12_88 rfl eX12_emits_47 ?_
    refine vx_eqi hv3_31_4 ?_
    refine vx_iadd hC eX12_emits_50 ?_
    refine vx_dup2 hC rfl rfl eX12_emits_51 ?_
    refine vx_iaload hC (ot_32 hO) (by omega) (by omega) eX12_emits_52 ?_
    refine vx_eqi (congrFun hv3_32 _) ?_
    refine vx_eqi (y := (L.length : Int)) (by rw [hf4, fu_n _ _ _ (by omega)]; exact pput_m _ _ _) ?_
    refine vx_iconst hC eX12_emits_53 ?_
    refine vx_iadd hC eX12_emits_54 ?_
    refine vx_top (fun x5 hx5 => ?_)
    refine vx_top2 (fun x6 hx6 => ?_)
    refine vx_iastore hC (ot_32 hO) (by omega) (by omega) eX12_emits_55 ?_
    refine vx_vi (fun v7 hv7 => ?_)
    obtain ⟨f8, hf8⟩ : ∃ f, f = fu (f4) x6 x5 := ⟨_, rfl⟩
    have hv7_32 : v7 32 = f8 := by rw [hv7, hf8, xu_k, hv3_32]
    have hv7_31_4 : v7 31 4 = ac := by rw [hv7, xu_c _ _ _ _ (by decide), hv3_31_4]
    have hv7_31_5 : v7 31 5 = sp := by rw [hv7, xu_c _ _ _ _ (by decide), hv3_31_5]
    have hv7_31_6 : v7 31 6 = en := by rw [hv7, xu_c _ _ _ _ (by decide), hv3_31_6]
    have hv7_31_7 : v7 31 7 = w := by rw [hv7, xu_c _ _ _ _ (by decide), hv3_31_7]
    have hv7_31_8 : v7 31 8 = op := by rw [hv7, xu_c _ _ _ _ (by decide), hv3_31_8]
    have hv7_31_3 : v7 31 3 = vi 31 3 := by rw [hv7, xu_c _ _ _ _ (by decide), hv3_31_3]
    have hv7_31_22 : v7 31 22 = vi 31 22 := by rw [hv7, xu_c _ _ _ _ (by decide), hv3_31_22]
    have frv7 : ∀ k : Nat, (¬ k = 31 ∧ ¬ k = 32) → v7 k = vi k := fun k hk => by rw [hv7, xu_c _ _ _ _ (by omega)]; exact frv3 k hk
    exact vx_vret hC hM eX12_emits_56 (⟨rfl, (by rw [hv7_32, hf8, hf4]; unfold pE; rw [if_pos (by omega)]; exact pput_push1 u L hac (by omega) (by omega) (by omega)), hv7_31_4, hv7_31_5, hv7_31_6, hv7_31_7, hv7_31_8, hv7_31_3, hv7_31_22, rfl, rfl, rfl, rfl, fun k hk => frv7 k hk⟩)
set_option maxHeartbeats 4000000 in
set_option maxRecDepth 100000 in
theorem kX12_figures (G : xg_T) (d : Nat) (n : Nat) (tau : Nat → Nat × Nat) (vi vl : Nat → Int → Int) (vr : Nat → Int → Option Nat) (hO : xo n tau vr) (h u : Int → Int) (ac en sp w op : Int) (L : List Int) (h32 : vi 32 = pput u ac L) (h4 : vi 31 4 = ac) (h5 : vi 31 5 = sp) (h6 : vi 31 6 = en) (h7 : vi 31 7 = w) (h8 : vi 31 8 = op) (hac : 0 ≤ ac ∧ ac ≤ 4) (hen : pH h u en) (hsp : 0 ≤ sp ∧ sp ≤ en) (hw : w = 0 ∨ w = 1) (hL : (L.length : Int) ≤ sp)  : xm G yX12_figures cX12_figures 3 (some .int) (d + 2) 0 0 [xa_r 31] n tau vi vl vr (xp_i (fun z9 n1 t1 a1 b1 c1 => (z9 = pNv h w sp) ∧ (a1 32 = pput u ac L) ∧ (a1 31 4 = ac) ∧ (a1 31 5 = (pNs h w sp)) ∧ (a1 31 6 = en) ∧ (a1 31 7 = (pNw h w sp)) ∧ (a1 31 8 = op) ∧ (a1 31 3 = vi 31 3) ∧ (a1 31 22 = vi 31 22) ∧ xs_I (fun k => ¬ k = 31 ∧ ¬ k = 32) n tau vi vl vr n1 t1 a1 b1 c1)) := by
  refine xm.of (lv := [(0, xa_r 31)]) (by decide) (Nat.le_of_ble_eq_true rfl) rfl (fun K hC hM hRm => ?_)
  have he := hen.1
  have hh := hen.2
  have hhs := hh sp
  have hhs1 := hh (sp + 1)
  refine vx_aload_n hC 0 rfl eX12_figures_0 ?_
  refine vx_aload_n hC 0 rfl eX12_figures_1 ?_
  refine vx_gi hC 7 (ot_31 hO) lf_X12_67 rfl eX12_figures_2 ?_
  refine vx_eqi h7 ?_
  refine vx_if_ne hC (tgt := 22) (by omega) (by decide) eX12_figures_5 (fun c1 => ?_) (fun c1 => ?_)
  · refine vx_iconst hC eX12_figures_22 ?_
    refine vx_goto hC (tgt := 27) (by decide) eX12_figures_23 ?_
    refine vx_pi hC 7 (ot_31 hO) lp_X12_67 rfl (Or.inl rfl) (Or.inr ⟨rfl, by omega⟩) eX12_figures_27 ?_
    refine vx_vi (fun v2 hv2 => ?_)
    have hv2_32 : v2 32 = pput u ac L := by rw [hv2, xu_c _ _ _ _ (by decide), h32]
    have hv2_31_4 : v2 31 4 = ac := by rw [hv2, xu_k, fu_n _ _ _ (by decide), h4]
    have hv2_31_5 : v2 31 5 = sp := by rw [hv2, xu_k, fu_n _ _ _ (by decide), h5]
    have hv2_31_6 : v2 31 6 = en := by rw [hv2, xu_k, fu_n _ _ _ (by decide), h6]
    have hv2_31_7 : v2 31 7 = 1 := by rw [hv2, xu_k, fu_s]
    have hv2_31_8 : v2 31 8 = op := by rw [hv2, xu_k, fu_n _ _ _ (by decide), h8]
    have hv2_31_3 : v2 31 3 = vi 31 3 := by rw [hv2, xu_k, fu_n _ _ _ (by decide)]
    have hv2_31_22 : v2 31 22 = vi 31 22 := by rw [hv2, xu_k, fu_n _ _ _ (by decide)]
    have frv2 : ∀ k : Nat, (¬ k = 31 ∧ ¬ k = 32) → v2 k = vi k := fun k hk => by rw [hv2, xu_c _ _ _ _ (by omega)]
    refine vx_iconst hC eX12_figures_30 ?_
    refine vx_istore_n hC (lv1 := [(1, xa_i 0), (0, xa_r 31)]) (by decide) rfl eX12_figures_31 ?_
    refine vx_iconst hC eX12_figures_32 ?_
    refine vx_istore_n hC (lv1 := [(2, xa_i 0), (1, xa_i 0), (0, xa_r 31)]) (by decide) rfl eX12_figures_33 ?_
    refine vx_iload_n hC 0 rfl eX12_figures_34 ?_
    refine vx_iconst hC eX12_figures_35 ?_
    refine vx_icmp_ge hC (tgt := 97) (by omega) (by decide) eX12_figures_36 (fun c3 => absurd c3 (by omega)) (fun c3 => ?_)
    refine vx_aload_n hC 2 rfl eX12_figures_39 ?_
    refine vx_gi hC 7 (ot_31 hO) lf_X12_67 rfl eX12_figures_40 ?_
    refine vx_eqi hv2_31_7 ?_
    refine vx_if_ne hC (tgt := 97) (by omega) (by decide) eX12_figures_43 (fun c4 => ?_) (fun c4 => absurd c4 (by omega))
    refine vx_iload_n hC 1 rfl eX12_figures_97 ?_
    exact vx_iret hC hM rfl eX12_figures_98 (⟨_, rfl, (by unfold pNv; (repeat' split) <;> omega), hv2_32, hv2_31_4, (by rw [hv2_31_5]; unfold pNs; (repeat' split) <;> omega), hv2_31_6, (by rw [hv2_31_7]; unfold pNw; (repeat' split) <;> omega), hv2_31_8, hv2_31_3, hv2_31_22, rfl, rfl, rfl, rfl, fun k hk => frv2 k hk⟩)
  · refine vx_aload_n hC 0 rfl eX12_figures_8 ?_
    refine vx_callV_i hC (kX12_hereP G d _ _ _ _ _ hO h u ac en sp w op L h32 h4 h5 h6 h7 h8 hac hen (by omega) (by omega) (by omega)) ly_X12_71 (ot_31 hO) rfl rfl rfl hRm (by omega) (Nat.le_of_ble_eq_true rfl) rfl eX12_figures_9 (fun x5 n9 t9 a9 b9 c9 hx5 => ?_)
    obtain ⟨hx5, rfl, rfl, rfl, rfl, rfl⟩ := hx5
    have hrx5 := hh sp
    refine vx_bipush hC (by decide) eX12_figures_12 ?_
    refine vx_bipush hC (by decide) eX12_figures_14 ?_
    refine vx_callS_i hC (kX12_in G d _ _ _ _ _ _ _ _ (by omega) (by omega) (by omega)) ly_X12_57 rfl hRm (by omega) (Nat.le_of_ble_eq_true rfl) rfl eX12_figures_16 (fun x6 n9 t9 a9 b9 c9 hx6 => ?_)
    obtain ⟨hx6, rfl, rfl, rfl, rfl, rfl⟩ := hx6
    refine vx_if_ne hC (tgt := 26) (by omega) (by decide) eX12_figures_19 (fun c7 => ?_) (fun c7 => ?_)
    · refine vx_iconst hC eX12_figures_26 ?_
      refine vx_pi hC 7 (ot_31 hO) lp_X12_67 rfl (Or.inl rfl) (Or.inr ⟨rfl, by omega⟩) eX12_figures_27 ?_
      refine vx_vi (fun v8 hv8 => ?_)
      have hv8_32 : v8 32 = pput u ac L := by rw [hv8, xu_c _ _ _ _ (by decide), h32]
      have hv8_31_4 : v8 31 4 = ac := by rw [hv8, xu_k, fu_n _ _ _ (by decide), h4]
      have hv8_31_5 : v8 31 5 = sp := by rw [hv8, xu_k, fu_n _ _ _ (by decide), h5]
      have hv8_31_6 : v8 31 6 = en := by rw [hv8, xu_k, fu_n _ _ _ (by decide), h6]
      have hv8_31_7 : v8 31 7 = 0 := by rw [hv8, xu_k, fu_s]
      have hv8_31_8 : v8 31 8 = op := by rw [hv8, xu_k, fu_n _ _ _ (by decide), h8]
      have hv8_31_3 : v8 31 3 = vi 31 3 := by rw [hv8, xu_k, fu_n _ _ _ (by decide)]
      have hv8_31_22 : v8 31 22 = vi 31 22 := by rw [hv8, xu_k, fu_n _ _ _ (by decide)]
      have frv8 : ∀ k : Nat, (¬ k = 31 ∧ ¬ k = 32) → v8 k = vi k := fun k hk => by rw [hv8, xu_c _ _ _ _ (by omega)]
      refine vx_iconst hC eX12_figures_30 ?_
      refine vx_istore_n hC (lv1 := [(1, xa_i 0), (0, xa_r 31)]) (by decide) rfl eX12_figures_31 ?_
      refine vx_iconst hC eX12_figures_32 ?_
      refine vx_istore_n hC (lv1 := [(2, xa_i 0), (1, xa_i 0), (0, xa_r 31)]) (by decide) rfl eX12_figures_33 ?_
      refine vx_iload_n hC 0 rfl eX12_figures_34 ?_
      refine vx_iconst hC eX12_figures_35 ?_
      refine vx_icmp_ge hC (tgt := 97) (by omega) (by decide) eX12_figures_36 (fun c9 => absurd c9 (by omega)) (fun c9 => ?_)
      refine vx_aload_n hC 2 rfl eX12_figures_39 ?_
      refine vx_gi hC 7 (ot_31 hO) lf_X12_67 rfl eX12_figures_40 ?_
      refine vx_eqi hv8_31_7 ?_
      refine vx_if_ne hC (tgt := 97) (by omega) (by decide) eX12_figures_43 (fun c10 => absurd c10 (by omega)) (fun c10 => ?_)
      refine vx_aload_n hC 2 rfl eX12_figures_46 ?_
      refine vx_callV_i hC (kX12_hereP G d _ _ _ _ _ hO h u ac en sp 0 op L hv8_32 hv8_31_4 hv8_31_5 hv8_31_6 hv8_31_7 hv8_31_8 hac hen (by omega) (by omega) (by omega)) ly_X12_71 (ot_31 hO) rfl rfl rfl hRm (by omega) (Nat.le_of_ble_eq_true rfl) rfl eX12_figures_47 (fun x11 n9 t9 a9 b9 c9 hx11 => ?_)
      obtain ⟨hx11, rfl, rfl, rfl, rfl, rfl⟩ := hx11
      have hrx11 := hh sp
      refine vx_bipush hC (by decide) eX12_figures_50 ?_
      refine vx_bipush hC (by decide) eX12_figures_52 ?_
      refine vx_callS_i hC (kX12_in G d _ _ _ _ _ _ _ _ (by omega) (by omega) (by omega)) ly_X12_57 rfl hRm (by omega) (Nat.le_of_ble_eq_true rfl) rfl eX12_figures_54 (fun x12 n9 t9 a9 b9 c9 hx12 => ?_)
      obtain ⟨hx12, rfl, rfl, rfl, rfl, rfl⟩ := hx12
      refine vx_if_eq hC (tgt := 97) (by omega) (by decide) eX12_figures_57 (fun c13 => ?_) (fun c13 => ?_)
      · refine vx_iload_n hC 1 rfl eX12_figures_97 ?_
        exact vx_iret hC hM rfl eX12_figures_98 (⟨_, rfl, (by unfold pNv; (repeat' split) <;> omega), hv8_32, hv8_31_4, (by rw [hv8_31_5]; unfold pNs; (repeat' split) <;> omega), hv8_31_6, (by rw [hv8_31_7]; unfold pNw; (repeat' split) <;> omega), hv8_31_8, hv8_31_3, hv8_31_22, rfl, rfl, rfl, rfl, fun k hk => frv8 k hk⟩)
      · refine vx_iload_n hC 0 rfl eX12_figures_60 ?_
        refine vx_if_eq hC (tgt := 68) (by omega) (by decide) eX12_figures_61 (fun c14 => ?_) (fun c14 => absurd c14 (by omega))
        refine vx_bipush hC (by decide) eX12_figures_68 ?_
        refine vx_iload_n hC 1 rfl eX12_figures_70 ?_
        refine vx_imul hC eX12_figures_71 ?_
        refine vx_aload_n hC 2 rfl eX12_figures_72 ?_
        refine vx_callV_i hC (kX12_hereP G d _ _ _ _ _ hO h u ac en sp 0 op L hv8_32 hv8_31_4 hv8_31_5 hv8_31_6 hv8_31_7 hv8_31_8 hac hen (by omega) (by omega) (by omega)) ly_X12_71 (ot_31 hO) rfl rfl rfl hRm (by omega) (Nat.le_of_ble_eq_true rfl) rfl eX12_figures_73 (fun x15 n9 t9 a9 b9 c9 hx15 => ?_)
        obtain ⟨hx15, rfl, rfl, rfl, rfl, rfl⟩ := hx15
        have hrx15 := hh sp
        refine vx_iadd hC eX12_figures_76 ?_
        refine vx_bipush hC (by decide) eX12_figures_77 ?_
        refine vx_isub hC eX12_figures_79 ?_
        refine vx_top (fun x16 hx16 => ?_)
        refine vx_istore_n hC (lv1 := [(1, xa_i x16), (2, xa_i 0), (0, xa_r 31)]) (by decide) rfl eX12_figures_80 ?_
        refine vx_aload_n hC 2 rfl eX12_figures_81 ?_
        refine vx_dup hC rfl eX12_figures_82 ?_
        refine vx_gi hC 5 (ot_31 hO) lf_X12_61 rfl eX12_figures_83 ?_
        refine vx_eqi hv8_31_5 ?_
        refine vx_iconst hC eX12_figures_86 ?_
        refine vx_iadd hC eX12_figures_87 ?_
        refine vx_pi hC 5 (ot_31 hO) lp_X12_61 rfl (Or.inl rfl) (Or.inl rfl) eX12_figures_88 ?_
        refine vx_vi (fun v17 hv17 => ?_)
        have hv17_32 : v17 32 = pput u ac L := by rw [hv17, xu_c _ _ _ _ (by decide), hv8_32]
        have hv17_31_4 : v17 31 4 = ac := by rw [hv17, xu_k, fu_n _ _ _ (by decide), hv8_31_4]
        have hv17_31_5 : v17 31 5 = (sp + 1) := by rw [hv17, xu_k, fu_s]
        have hv17_31_6 : v17 31 6 = en := by rw [hv17, xu_k, fu_n _ _ _ (by decide), hv8_31_6]
        have hv17_31_7 : v17 31 7 = 0 := by rw [hv17, xu_k, fu_n _ _ _ (by decide), hv8_31_7]
        have hv17_31_8 : v17 31 8 = op := by rw [hv17, xu_k, fu_n _ _ _ (by decide), hv8_31_8]
        have hv17_31_3 : v17 31 3 = vi 31 3 := by rw [hv17, xu_k, fu_n _ _ _ (by decide), hv8_31_3]
        have hv17_31_22 : v17 31 22 = vi 31 22 := by rw [hv17, xu_k, fu_n _ _ _ (by decide), hv8_31_22]
        have frv17 : ∀ k : Nat, (¬ k = 31 ∧ ¬ k = 32) → v17 k = vi k := fun k hk => by rw [hv17, xu_c _ _ _ _ (by omega)]; exact frv8 k hk
        refine vx_iinc hC (lv1 := [(2, xa_i (0 + 1)), (1, xa_i x16), (0, xa_r 31)]) 1 rfl (by decide) rfl eX12_figures_91 ?_
        refine vx_goto hC (tgt := 34) (by decide) eX12_figures_94 ?_
        refine vx_iload_n hC 0 rfl eX12_figures_34 ?_
        refine vx_iconst hC eX12_figures_35 ?_
        refine vx_icmp_ge hC (tgt := 97) (by omega) (by decide) eX12_figures_36 (fun c18 => absurd c18 (by omega)) (fun c18 => ?_)
        refine vx_aload_n hC 2 rfl eX12_figures_39 ?_
        refine vx_gi hC 7 (ot_31 hO) lf_X12_67 rfl eX12_figures_40 ?_
        refine vx_eqi hv17_31_7 ?_
        refine vx_if_ne hC (tgt := 97) (by omega) (by decide) eX12_figures_43 (fun c19 => absurd c19 (by omega)) (fun c19 => ?_)
        refine vx_aload_n hC 2 rfl eX12_figures_46 ?_
        refine vx_callV_i hC (kX12_hereP G d _ _ _ _ _ hO h u ac en (sp + 1) 0 op L hv17_32 hv17_31_4 hv17_31_5 hv17_31_6 hv17_31_7 hv17_31_8 hac hen (by omega) (by omega) (by omega)) ly_X12_71 (ot_31 hO) rfl rfl rfl hRm (by omega) (Nat.le_of_ble_eq_true rfl) rfl eX12_figures_47 (fun x20 n9 t9 a9 b9 c9 hx20 => ?_)
        obtain ⟨hx20, rfl, rfl, rfl, rfl, rfl⟩ := hx20
        have hrx20 := hh (sp + 1)
        refine vx_bipush hC (by decide) eX12_figures_50 ?_
        refine vx_bipush hC (by decide) eX12_figures_52 ?_
        refine vx_callS_i hC (kX12_in G d _ _ _ _ _ _ _ _ (by omega) (by omega) (by omega)) ly_X12_57 rfl hRm (by omega) (Nat.le_of_ble_eq_true rfl) rfl eX12_figures_54 (fun x21 n9 t9 a9 b9 c9 hx21 => ?_)
        obtain ⟨hx21, rfl, rfl, rfl, rfl, rfl⟩ := hx21
        refine vx_if_eq hC (tgt := 97) (by omega) (by decide) eX12_figures_57 (fun c22 => ?_) (fun c22 => ?_)
        · refine vx_iload_n hC 1 rfl eX12_figures_97 ?_
          exact vx_iret hC hM rfl eX12_figures_98 (⟨_, rfl, (by unfold pNv; (repeat' split) <;> omega), hv17_32, hv17_31_4, (by rw [hv17_31_5]; unfold pNs; (repeat' split) <;> omega), hv17_31_6, (by rw [hv17_31_7]; unfold pNw; (repeat' split) <;> omega), hv17_31_8, hv17_31_3, hv17_31_22, rfl, rfl, rfl, rfl, fun k hk => frv17 k hk⟩)
        · refine vx_iload_n hC 0 rfl eX12_figures_60 ?_
          refine vx_if_eq hC (tgt := 68) (by omega) (by decide) eX12_figures_61 (fun c23 => absurd c23 (by omega)) (fun c23 => ?_)
          refine vx_iload_n hC 1 rfl eX12_figures_64 ?_
          refine vx_if_le hC (tgt := 97) (by omega) (by decide) eX12_figures_65 (fun c24 => ?_) (fun c24 => ?_)
          · refine vx_iload_n hC 1 rfl eX12_figures_97 ?_
            exact vx_iret hC hM rfl eX12_figures_98 (⟨_, rfl, (by unfold pNv; (repeat' split) <;> omega), hv17_32, hv17_31_4, (by rw [hv17_31_5]; unfold pNs; (repeat' split) <;> omega), hv17_31_6, (by rw [hv17_31_7]; unfold pNw; (repeat' split) <;> omega), hv17_31_8, hv17_31_3, hv17_31_22, rfl, rfl, rfl, rfl, fun k hk => frv17 k hk⟩)
          · refine vx_bipush hC (by decide) eX12_figures_68 ?_
            refine vx_iload_n hC 1 rfl eX12_figures_70 ?_
            refine vx_imul hC eX12_figures_71 ?_
            refine vx_aload_n hC 2 rfl eX12_figures_72 ?_
            refine vx_callV_i hC (kX12_hereP G d _ _ _ _ _ hO h u ac en (sp + 1) 0 op L hv17_32 hv17_31_4 hv17_31_5 hv17_31_6 hv17_31_7 hv17_31_8 hac hen (by omega) (by omega) (by omega)) ly_X12_71 (ot_31 hO) rfl rfl rfl hRm (by omega) (Nat.le_of_ble_eq_true rfl) rfl eX12_figures_73 (fun x25 n9 t9 a9 b9 c9 hx25 => ?_)
            obtain ⟨hx25, rfl, rfl, rfl, rfl, rfl⟩ := hx25
            have hrx25 := hh (sp + 1)
            refine vx_iadd hC eX12_figures_76 ?_
            refine vx_bipush hC (by decide) eX12_figures_77 ?_
            refine vx_isub hC eX12_figures_79 ?_
            refine vx_top (fun x26 hx26 => ?_)
            refine vx_istore_n hC (lv1 := [(1, xa_i x26), (2, xa_i (0 + 1)), (0, xa_r 31)]) (by decide) rfl eX12_figures_80 ?_
            refine vx_aload_n hC 2 rfl eX12_figures_81 ?_
            refine vx_dup hC rfl eX12_figures_82 ?_
            refine vx_gi hC 5 (ot_31 hO) lf_X12_61 rfl eX12_figures_83 ?_
            refine vx_eqi hv17_31_5 ?_
            refine vx_iconst hC eX12_figures_86 ?_
            refine vx_iadd hC eX12_figures_87 ?_
            refine vx_pi hC 5 (ot_31 hO) lp_X12_61 rfl (Or.inl rfl) (Or.inl rfl) eX12_figures_88 ?_
            refine vx_vi (fun v27 hv27 => ?_)
            have hv27_32 : v27 32 = pput u ac L := by rw [hv27, xu_c _ _ _ _ (by decide), hv17_32]
            have hv27_31_4 : v27 31 4 = ac := by rw [hv27, xu_k, fu_n _ _ _ (by decide), hv17_31_4]
            have hv27_31_5 : v27 31 5 = ((sp + 1) + 1) := by rw [hv27, xu_k, fu_s]
            have hv27_31_6 : v27 31 6 = en := by rw [hv27, xu_k, fu_n _ _ _ (by decide), hv17_31_6]
            have hv27_31_7 : v27 31 7 = 0 := by rw [hv27, xu_k, fu_n _ _ _ (by decide), hv17_31_7]
            have hv27_31_8 : v27 31 8 = op := by rw [hv27, xu_k, fu_n _ _ _ (by decide), hv17_31_8]
            have hv27_31_3 : v27 31 3 = vi 31 3 := by rw [hv27, xu_k, fu_n _ _ _ (by decide), hv17_31_3]
            have hv27_31_22 : v27 31 22 = vi 31 22 := by rw [hv27, xu_k, fu_n _ _ _ (by decide), hv17_31_22]
            have frv27 : ∀ k : Nat, (¬ k = 31 ∧ ¬ k = 32) → v27 k = vi k := fun k hk => by rw [hv27, xu_c _ _ _ _ (by omega)]; exact frv17 k hk
            refine vx_iinc hC (lv1 := [(2, xa_i ((0 + 1) + 1)), (1, xa_i x26), (0, xa_r 31)]) 1 rfl (by decide) rfl eX12_figures_91 ?_
            refine vx_goto hC (tgt := 34) (by decide) eX12_figures_94 ?_
            refine vx_iload_n hC 0 rfl eX12_figures_34 ?_
            refine vx_iconst hC eX12_figures_35 ?_
            refine vx_icmp_ge hC (tgt := 97) (by omega) (by decide) eX12_figures_36 (fun c28 => ?_) (fun c28 => absurd c28 (by omega))
            refine vx_iload_n hC 1 rfl eX12_figures_97 ?_
            exact vx_iret hC hM rfl eX12_figures_98 (⟨_, rfl, (by unfold pNv; (repeat' split) <;> omega), hv27_32, hv27_31_4, (by rw [hv27_31_5]; unfold pNs; (repeat' split) <;> omega), hv27_31_6, (by rw [hv27_31_7]; unfold pNw; (repeat' split) <;> omega), hv27_31_8, hv27_31_3, hv27_31_22, rfl, rfl, rfl, rfl, fun k hk => frv27 k hk⟩)
    · refine vx_iconst hC eX12_figures_22 ?_
      refine vx_goto hC (tgt := 27) (by decide) eX12_figures_23 ?_
      refine vx_pi hC 7 (ot_31 hO) lp_X12_67 rfl (Or.inl rfl) (Or.inr ⟨rfl, by omega⟩) eX12_figures_27 ?_
      refine vx_vi (fun v29 hv29 => ?_)
      have hv29_32 : v29 32 = pput u ac L := by rw [hv29, xu_c _ _ _ _ (by decide), h32]
      have hv29_31_4 : v29 31 4 = ac := by rw [hv29, xu_k, fu_n _ _ _ (by decide), h4]
      have hv29_31_5 : v29 31 5 = sp := by rw [hv29, xu_k, fu_n _ _ _ (by decide), h5]
      have hv29_31_6 : v29 31 6 = en := by rw [hv29, xu_k, fu_n _ _ _ (by decide), h6]
      have hv29_31_7 : v29 31 7 = 1 := by rw [hv29, xu_k, fu_s]
      have hv29_31_8 : v29 31 8 = op := by rw [hv29, xu_k, fu_n _ _ _ (by decide), h8]
      have hv29_31_3 : v29 31 3 = vi 31 3 := by rw [hv29, xu_k, fu_n _ _ _ (by decide)]
      have hv29_31_22 : v29 31 22 = vi 31 22 := by rw [hv29, xu_k, fu_n _ _ _ (by decide)]
      have frv29 : ∀ k : Nat, (¬ k = 31 ∧ ¬ k = 32) → v29 k = vi k := fun k hk => by rw [hv29, xu_c _ _ _ _ (by omega)]
      refine vx_iconst hC eX12_figures_30 ?_
      refine vx_istore_n hC (lv1 := [(1, xa_i 0), (0, xa_r 31)]) (by decide) rfl eX12_figures_31 ?_
      refine vx_iconst hC eX12_figures_32 ?_
      refine vx_istore_n hC (lv1 := [(2, xa_i 0), (1, xa_i 0), (0, xa_r 31)]) (by decide) rfl eX12_figures_33 ?_
      refine vx_iload_n hC 0 rfl eX12_figures_34 ?_
      refine vx_iconst hC eX12_figures_35 ?_
      refine vx_icmp_ge hC (tgt := 97) (by omega) (by decide) eX12_figures_36 (fun c30 => absurd c30 (by omega)) (fun c30 => ?_)
      refine vx_aload_n hC 2 rfl eX12_figures_39 ?_
      refine vx_gi hC 7 (ot_31 hO) lf_X12_67 rfl eX12_figures_40 ?_
      refine vx_eqi hv29_31_7 ?_
      refine vx_if_ne hC (tgt := 97) (by omega) (by decide) eX12_figures_43 (fun c31 => ?_) (fun c31 => absurd c31 (by omega))
      refine vx_iload_n hC 1 rfl eX12_figures_97 ?_
      exact vx_iret hC hM rfl eX12_figures_98 (⟨_, rfl, (by unfold pNv; (repeat' split) <;> omega), hv29_32, hv29_31_4, (by rw [hv29_31_5]; unfold pNs; (repeat' split) <;> omega), hv29_31_6, (by rw [hv29_31_7]; unfold pNw; (repeat' split) <;> omega), hv29_31_8, hv29_31_3, hv29_31_22, rfl, rfl, rfl, rfl, fun k hk => frv29 k hk⟩)
set_option maxHeartbeats 4000000 in
set_option maxRecDepth 100000 in
theorem kX12_among (G : xg_T) (d : Nat) (n : Nat) (tau : Nat → Nat × Nat) (vi vl : Nat → Int → Int) (vr : Nat → Int → Option Nat) (hO : xo n tau vr) (h u : Int → Int) (ac en sp w op : Int) (L : List Int) (h32 : vi 32 = pput u ac L) (h4 : vi 31 4 = ac) (h5 : vi 31 5 = sp) (h6 : vi 31 6 = en) (h7 : vi 31 7 = w) (h8 : vi 31 8 = op) (hac : 0 ≤ ac ∧ ac ≤ 4) (hen : pH h u en) (hsp : 0 ≤ sp ∧ sp ≤ en) (hw : w = 0 ∨ w = 1) (hL : (L.length : Int) ≤ sp) (i : Nat) (hi : i < 8) : xm G yX12_among cX12_among 3 (some .int) (d + 5) 0 0 [xa_r 31, xa_r (1000002 + i)] n tau vi vl vr (xp_i (fun z9 n1 t1 a1 b1 c1 => (z9 = tix (h sp) (xw_byt.getD i []) 0) ∧ (a1 32 = pput u ac L) ∧ (a1 31 4 = ac) ∧ (a1 31 5 = (if tix (h sp) (xw_byt.getD i []) 0 = -1 then sp else sp + 1)) ∧ (a1 31 6 = en) ∧ (a1 31 7 = w) ∧ (a1 31 8 = op) ∧ (a1 31 3 = vi 31 3) ∧ (a1 31 22 = vi 31 22) ∧ xs_I (fun k => ¬ k = 31 ∧ ¬ k = 32) n tau vi vl vr n1 t1 a1 b1 c1)) := by
  refine xm.of (lv := [(0, xa_r 31), (1, xa_r (1000002 + i))]) (by decide) (Nat.le_of_ble_eq_true rfl) rfl (fun K hC hM hRm => ?_)
  have he := hen.1
  have hh := hen.2
  have hhs := hh sp
  have h10 := tb_l10 i hi
  refine vx_iconst hC eX12_among_0 ?_
  refine vx_istore_n hC (lv1 := [(2, xa_i 0), (0, xa_r 31), (1, xa_r (1000002 + i))]) (by decide) rfl eX12_among_1 ?_
  have LP2 : ∀ (j : Nat) (kk : Int) (hkk : 0 ≤ kk ∧ kk ≤ ((xw_byt.getD i []).length : Int)) (hres : tix (h sp) ((xw_byt.getD i []).drop kk.toNat) kk = tix (h sp) (xw_byt.getD i []) 0) (hj : ((xw_byt.getD i []).length : Int) - kk < (j : Int)), xv G K 3 (xk_Q G K (xp_i (fun z9 n1 t1 a1 b1 c1 => (z9 = tix (h sp) (xw_byt.getD i []) 0) ∧ (a1 32 = pput u ac L) ∧ (a1 31 4 = ac) ∧ (a1 31 5 = (if tix (h sp) (xw_byt.getD i []) 0 = -1 then sp else sp + 1)) ∧ (a1 31 6 = en) ∧ (a1 31 7 = w) ∧ (a1 31 8 = op) ∧ (a1 31 3 = vi 31 3) ∧ (a1 31 22 = vi 31 22) ∧ xs_I (fun k => ¬ k = 31 ∧ ¬ k = 32) n tau vi vl vr n1 t1 a1 b1 c1)) 0 0) 0 0 n tau vi vl vr 2 [(2, xa_i kk), (0, xa_r 31), (1, xa_r (1000002 + i))] [] := by
    intro j
    induction j with
    | zero => intro kk hkk hres hj; exfalso; omega
    | succ j ih =>
      intro kk hkk hres hj
      refine vx_iload_n hC 0 rfl eX12_among_2 ?_
      refine vx_aload_n hC 2 rfl eX12_among_3 ?_
      refine vx_callX_i hC (kJ0_length_8abf5 G (d + 2) _ _ _ _ _ _ hi) ly_X12_75 hi rfl rfl hRm (by omega) (Nat.le_of_ble_eq_true rfl) rfl eX12_among_4 (fun x1 n9 t9 a9 b9 c9 hx1 => ?_)
      obtain ⟨hx1, rfl, rfl, rfl, rfl, rfl⟩ := hx1
      refine vx_icmp_ge hC (tgt := 40) (by omega) (by decide) eX12_among_7 (fun c2 => ?_) (fun c2 => ?_)
      · refine vx_iconst hC eX12_among_40 ?_
        exact vx_iret hC hM rfl eX12_among_41 (⟨_, rfl, (by rw [← hres]; first | (rw [tix_end (by omega)]) | (rw [tix_step (by omega), if_pos (by omega)])), h32, h4, (by rw [h5, ← hres]; first | (rw [tix_end (by omega), if_pos rfl]) | (rw [tix_step (by omega), if_pos (show (xw_byt.getD i []).getD kk.toNat 0 = h sp by omega), if_neg (by omega)]; omega)), h6, h7, h8, rfl, rfl, rfl, rfl, rfl, rfl, fun k hk => rfl⟩)
      · have hb := tb_b i hi kk.toNat (by omega)
        refine vx_aload_n hC 1 rfl eX12_among_10 ?_
        refine vx_callV_i hC (kX12_hereP G (d + 3) _ _ _ _ _ hO h u ac en sp w op L h32 h4 h5 h6 h7 h8 hac hen (by omega) (by omega) (by omega)) ly_X12_71 (ot_31 hO) rfl rfl rfl hRm (by omega) (Nat.le_of_ble_eq_true rfl) rfl eX12_among_11 (fun x3 n9 t9 a9 b9 c9 hx3 => ?_)
        obtain ⟨hx3, rfl, rfl, rfl, rfl, rfl⟩ := hx3
        have hrx3 := hh sp
        refine vx_aload_n hC 2 rfl eX12_among_14 ?_
        refine vx_iload_n hC 0 rfl eX12_among_15 ?_
        refine vx_callX_i hC (kJ0_charAt_5068e G d _ _ _ _ _ _ hi kk (by omega)) ly_X12_80 hi rfl rfl hRm (by omega) (Nat.le_of_ble_eq_true rfl) rfl eX12_among_16 (fun x4 n9 t9 a9 b9 c9 hx4 => ?_)
        obtain ⟨hx4, rfl, rfl, rfl, rfl, rfl⟩ := hx4
        refine vx_icmp_ne hC (tgt := 34) (by omega) (by decide) eX12_among_19 (fun c5 => ?_) (fun c5 => ?_)
        · refine vx_iinc hC (lv1 := [(2, xa_i (kk + 1)), (0, xa_r 31), (1, xa_r (1000002 + i))]) 0 rfl (by decide) rfl eX12_among_34 ?_
          refine vx_goto hC (tgt := 2) (by decide) eX12_among_37 ?_
          exact ih (kk + 1) (by omega) (by rw [← hres, tix_step (j := kk.toNat) (k := kk) (by omega), if_neg (by omega), show (kk + 1).toNat = kk.toNat + 1 by omega]) (by omega)
        · refine vx_aload_n hC 1 rfl eX12_among_22 ?_
          refine vx_dup hC rfl eX12_among_23 ?_
          refine vx_gi hC 5 (ot_31 hO) lf_X12_61 rfl eX12_among_24 ?_
          refine vx_eqi h5 ?_
          refine vx_iconst hC eX12_among_27 ?_
          refine vx_iadd hC eX12_among_28 ?_
          refine vx_top (fun x6 hx6 => ?_)
          refine vx_pi hC 5 (ot_31 hO) lp_X12_61 rfl (Or.inl rfl) (Or.inl rfl) eX12_among_29 ?_
          refine vx_vi (fun v7 hv7 => ?_)
          have hv7_32 : v7 32 = pput u ac L := by rw [hv7, xu_c _ _ _ _ (by decide), h32]
          have hv7_31_4 : v7 31 4 = ac := by rw [hv7, xu_k, fu_n _ _ _ (by decide), h4]
          have hv7_31_5 : v7 31 5 = x6 := by rw [hv7, xu_k, fu_s]
          have hv7_31_6 : v7 31 6 = en := by rw [hv7, xu_k, fu_n _ _ _ (by decide), h6]
          have hv7_31_7 : v7 31 7 = w := by rw [hv7, xu_k, fu_n _ _ _ (by decide), h7]
          have hv7_31_8 : v7 31 8 = op := by rw [hv7, xu_k, fu_n _ _ _ (by decide), h8]
          have hv7_31_3 : v7 31 3 = vi 31 3 := by rw [hv7, xu_k, fu_n _ _ _ (by decide)]
          have hv7_31_22 : v7 31 22 = vi 31 22 := by rw [hv7, xu_k, fu_n _ _ _ (by decide)]
          have frv7 : ∀ k : Nat, (¬ k = 31 ∧ ¬ k = 32) → v7 k = vi k := fun k hk => by rw [hv7, xu_c _ _ _ _ (by omega)]
          refine vx_iload_n hC 0 rfl eX12_among_32 ?_
          exact vx_iret hC hM rfl eX12_among_33 (⟨_, rfl, (by rw [← hres]; first | (rw [tix_end (by omega)]) | (rw [tix_step (by omega), if_pos (by omega)])), hv7_32, hv7_31_4, (by rw [hv7_31_5, ← hres]; first | (rw [tix_end (by omega), if_pos rfl]) | (rw [tix_step (by omega), if_pos (show (xw_byt.getD i []).getD kk.toNat 0 = h sp by omega), if_neg (by omega)]; omega)), hv7_31_6, hv7_31_7, hv7_31_8, hv7_31_3, hv7_31_22, rfl, rfl, rfl, rfl, fun k hk => frv7 k hk⟩)
  exact LP2 11 0 (by omega) rfl (by omega)
set_option maxHeartbeats 4000000 in
set_option maxRecDepth 100000 in
theorem kX12_spells (G : xg_T) (d : Nat) (n : Nat) (tau : Nat → Nat × Nat) (vi vl : Nat → Int → Int) (vr : Nat → Int → Option Nat) (hO : xo n tau vr) (h u : Int → Int) (ac en sp w op : Int) (L : List Int) (h32 : vi 32 = pput u ac L) (h4 : vi 31 4 = ac) (h5 : vi 31 5 = sp) (h6 : vi 31 6 = en) (h7 : vi 31 7 = w) (h8 : vi 31 8 = op) (hac : 0 ≤ ac ∧ ac ≤ 4) (hen : pH h u en) (hsp : 0 ≤ sp ∧ sp ≤ en) (hw : w = 0 ∨ w = 1) (hL : (L.length : Int) ≤ sp) (i : Nat) (hi : i < 8) : xm G yX12_spells cX12_spells 3 none (d + 5) 0 0 [xa_r 31, xa_r (1000002 + i)] n tau vi vl vr (xp_v (fun n1 t1 a1 b1 c1 => (a1 32 = pput u ac L) ∧ (a1 31 4 = ac) ∧ (a1 31 5 = (pLt h (xw_byt.getD i []) w sp).2) ∧ (a1 31 6 = en) ∧ (a1 31 7 = (pLt h (xw_byt.getD i []) w sp).1) ∧ (a1 31 8 = op) ∧ (a1 31 3 = vi 31 3) ∧ (a1 31 22 = vi 31 22) ∧ xs_I (fun k => ¬ k = 31 ∧ ¬ k = 32) n tau vi vl vr n1 t1 a1 b1 c1)) := by
  refine xm.of (lv := [(0, xa_r 31), (1, xa_r (1000002 + i))]) (by decide) (Nat.le_of_ble_eq_true rfl) rfl (fun K hC hM hRm => ?_)
  have he := hen.1
  have hh := hen.2
  have hhs := hh sp
  have h10 := tb_l10 i hi
  refine vx_iconst hC eX12_spells_0 ?_
  refine vx_istore_n hC (lv1 := [(2, xa_i 0), (0, xa_r 31), (1, xa_r (1000002 + i))]) (by decide) rfl eX12_spells_1 ?_
  have LP2 : ∀ (j : Nat) (kk : Int) (sp1 : Int) (w1 : Int) (m2 : Nat → Int → Int) (hkk : 0 ≤ kk ∧ kk ≤ ((xw_byt.getD i []).length : Int)) (hs1 : sp ≤ sp1 ∧ sp1 ≤ en) (hw1 : w1 = 0 ∨ w1 = 1) (hres : pLt h ((xw_byt.getD i []).drop kk.toNat) w1 sp1 = pLt h (xw_byt.getD i []) w sp) (eq0 : m2 32 = pput u ac L) (eq1 : m2 31 4 = ac) (eq2 : m2 31 5 = sp1) (eq3 : m2 31 6 = en) (eq4 : m2 31 7 = w1) (eq5 : m2 31 8 = op) (eq6 : m2 31 3 = vi 31 3) (eq7 : m2 31 22 = vi 31 22) (frq : ∀ k : Nat, (¬ k = 31 ∧ ¬ k = 32) → m2 k = vi k) (hj : ((xw_byt.getD i []).length : Int) - kk < (j : Int)), xv G K 3 (xk_Q G K (xp_v (fun n1 t1 a1 b1 c1 => (a1 32 = pput u ac L) ∧ (a1 31 4 = ac) ∧ (a1 31 5 = (pLt h (xw_byt.getD i []) w sp).2) ∧ (a1 31 6 = en) ∧ (a1 31 7 = (pLt h (xw_byt.getD i []) w sp).1) ∧ (a1 31 8 = op) ∧ (a1 31 3 = vi 31 3) ∧ (a1 31 22 = vi 31 22) ∧ xs_I (fun k => ¬ k = 31 ∧ ¬ k = 32) n tau vi vl vr n1 t1 a1 b1 c1)) 0 0) 0 0 n tau m2 vl vr 2 [(2, xa_i kk), (0, xa_r 31), (1, xa_r (1000002 + i))] [] := by
    intro j
    induction j with
    | zero => intro kk sp1 w1 m2 hkk hs1 hw1 hres eq0 eq1 eq2 eq3 eq4 eq5 eq6 eq7 frq hj; exfalso; omega
    | succ j ih =>
      intro kk sp1 w1 m2 hkk hs1 hw1 hres eq0 eq1 eq2 eq3 eq4 eq5 eq6 eq7 frq hj
      refine vx_iload_n hC 0 rfl eX12_spells_2 ?_
      refine vx_aload_n hC 2 rfl eX12_spells_3 ?_
      refine vx_callX_i hC (kJ0_length_8abf5 G (d + 2) _ _ _ _ _ _ hi) ly_X12_75 hi rfl rfl hRm (by omega) (Nat.le_of_ble_eq_true rfl) rfl eX12_spells_4 (fun x1 n9 t9 a9 b9 c9 hx1 => ?_)
      obtain ⟨hx1, rfl, rfl, rfl, rfl, rfl⟩ := hx1
      refine vx_icmp_ge hC (tgt := 25) (by omega) (by decide) eX12_spells_7 (fun c2 => ?_) (fun c2 => ?_)
      · exact vx_vret hC hM eX12_spells_25 (⟨rfl, eq0, eq1, (by rw [← hres, pLt_end (by omega)]; exact eq2), eq3, (by rw [← hres, pLt_end (by omega)]; exact eq4), eq5, eq6, eq7, rfl, rfl, rfl, rfl, fun k hk => frq k hk⟩)
      · have hb := tb_b i hi kk.toNat (by omega)
        refine vx_aload_n hC 1 rfl eX12_spells_10 ?_
        refine vx_aload_n hC 2 rfl eX12_spells_11 ?_
        refine vx_iload_n hC 0 rfl eX12_spells_12 ?_
        refine vx_callX_i hC (kJ0_charAt_5068e G d _ _ _ _ _ _ hi kk (by omega)) ly_X12_80 hi rfl rfl hRm (by omega) (Nat.le_of_ble_eq_true rfl) rfl eX12_spells_13 (fun x3 n9 t9 a9 b9 c9 hx3 => ?_)
        obtain ⟨hx3, rfl, rfl, rfl, rfl, rfl⟩ := hx3
        have hby := hx3
        refine vx_callV_v hC (kX12_must G (d + 2) _ _ _ _ _ hO h u ac en sp1 w1 op L eq0 eq1 eq2 eq3 eq4 eq5 hac hen (by omega) (by omega) (by omega) x3 (by omega)) ly_X12_84 (ot_31 hO) rfl rfl rfl hRm (by omega) (Nat.le_of_ble_eq_true rfl) rfl eX12_spells_16 (fun ng5 tg5 ag5 bg5 cg5 hg5 => ?_)
        obtain ⟨qg5_0, qg5_1, qg5_2, qg5_3, qg5_4, qg5_5, qg5_6, qg5_7, rfl, rfl, rfl, rfl, frg5⟩ := hg5
        have qg5_0b : ag5 32 = pput u ac L := by first | exact qg5_0 | rw [qg5_0, eq0] | (rw [qg5_0]; exact eq0)
        have qg5_1b : ag5 31 4 = ac := by first | exact qg5_1 | rw [qg5_1, eq1] | (rw [qg5_1]; exact eq1)
        have qg5_2b : ag5 31 5 = pMs h x3 w1 sp1 := by first | exact qg5_2 | rw [qg5_2, eq2] | (rw [qg5_2]; exact eq2)
        have qg5_3b : ag5 31 6 = en := by first | exact qg5_3 | rw [qg5_3, eq3] | (rw [qg5_3]; exact eq3)
        have qg5_4b : ag5 31 7 = pMw h x3 w1 sp1 := by first | exact qg5_4 | rw [qg5_4, eq4] | (rw [qg5_4]; exact eq4)
        have qg5_5b : ag5 31 8 = op := by first | exact qg5_5 | rw [qg5_5, eq5] | (rw [qg5_5]; exact eq5)
        have qg5_6b : ag5 31 3 = vi 31 3 := by first | exact qg5_6 | rw [qg5_6, eq6] | (rw [qg5_6]; exact eq6)
        have qg5_7b : ag5 31 22 = vi 31 22 := by first | exact qg5_7 | rw [qg5_7, eq7] | (rw [qg5_7]; exact eq7)
        have frvig5 : ∀ k : Nat, (¬ k = 31 ∧ ¬ k = 32) → ag5 k = vi k := fun k hk => (frg5 k (by omega)).trans (frq k hk)
        obtain ⟨sp6, hsp6⟩ : ∃ z : Int, z = pMs h x3 w1 sp1 := ⟨_, rfl⟩
        have esp6 : ag5 31 5 = sp6 := by rw [hsp6]; exact qg5_2b
        obtain ⟨w7, hw7⟩ : ∃ z : Int, z = pMw h x3 w1 sp1 := ⟨_, rfl⟩
        have ew7 : ag5 31 7 = w7 := by rw [hw7]; exact qg5_4b
        have hfsp6 := pM_r (c := x3) (w := w1) hen (by omega) (sp := sp1) (by omega)
        rw [← hsp6, ← hw7] at hfsp6
        refine vx_iinc hC (lv1 := [(2, xa_i (kk + 1)), (0, xa_r 31), (1, xa_r (1000002 + i))]) 0 rfl (by decide) rfl eX12_spells_19 ?_
        refine vx_goto hC (tgt := 2) (by decide) eX12_spells_22 ?_
        exact ih (kk + 1) sp6 w7 ag5 (by omega) (by omega) (by omega) (by rw [← hres, pLt_step (L := xw_byt.getD i []) (j := kk.toNat) (by omega), show (kk + 1).toNat = kk.toNat + 1 by omega, hsp6, hw7, hby]) qg5_0b qg5_1b esp6 qg5_3b ew7 qg5_5b qg5_6b qg5_7b frvig5 (by omega)
  exact LP2 11 0 sp w vi (by omega) (by omega) (by omega) rfl h32 h4 h5 h6 h7 h8 rfl rfl (fun _ _ => rfl) (by omega)
set_option maxHeartbeats 4000000 in
set_option maxRecDepth 100000 in
theorem kX12_factorW (G : xg_T) (d : Nat) (n : Nat) (tau : Nat → Nat × Nat) (vi vl : Nat → Int → Int) (vr : Nat → Int → Option Nat) (hO : xo n tau vr) (h7 : vi 31 7 = 1) : xm G yX12_factor cX12_factor 5 none (d + 1) 0 0 [xa_r 31] n tau vi vl vr (xp_v (fun n1 t1 a1 b1 c1 => xs_0 n tau vi vl vr n1 t1 a1 b1 c1)) := by
  refine xm.of (lv := [(0, xa_r 31)]) (by decide) (Nat.le_of_ble_eq_true rfl) rfl (fun K hC hM hRm => ?_)
  refine vx_aload_n hC 0 rfl eX12_factor_0 ?_
  refine vx_gi hC 7 (ot_31 hO) lf_X12_67 rfl eX12_factor_1 ?_
  refine vx_eqi h7 ?_
  refine vx_if_eq hC (tgt := 8) (by omega) (by decide) eX12_factor_4 (fun c1 => absurd c1 (by omega)) (fun c1 => ?_)
  exact vx_vret hC hM eX12_factor_7 (⟨rfl, xs_0.rf _ _ _ _ _⟩)
set_option maxHeartbeats 4000000 in
set_option maxRecDepth 100000 in
theorem kX12_everyW (G : xg_T) (d : Nat) (n : Nat) (tau : Nat → Nat × Nat) (vi vl : Nat → Int → Int) (vr : Nat → Int → Option Nat) (hO : xo n tau vr) (h7 : vi 31 7 = 1) : xm G yX12_every cX12_every 1 none (d + 2) 0 0 [xa_r 31] n tau vi vl vr (xp_v (fun n1 t1 a1 b1 c1 => xs_0 n tau vi vl vr n1 t1 a1 b1 c1)) := by
  refine xm.of (lv := [(0, xa_r 31)]) (by decide) (Nat.le_of_ble_eq_true rfl) rfl (fun K hC hM hRm => ?_)
  refine vx_aload_n hC 0 rfl eX12_every_0 ?_
  refine vx_callV_v hC (kX12_factorW G d _ _ _ _ _ hO h7) ly_X12_94 (ot_31 hO) rfl rfl rfl hRm (by omega) (Nat.le_of_ble_eq_true rfl) rfl eX12_every_1 (fun n9 t9 a9 b9 c9 hx1 => ?_)
  obtain ⟨rfl, rfl, rfl, rfl, rfl⟩ := hx1
  refine vx_aload_n hC 0 rfl eX12_every_4 ?_
  refine vx_gi hC 7 (ot_31 hO) lf_X12_67 rfl eX12_every_5 ?_
  refine vx_eqi h7 ?_
  refine vx_if_ne hC (tgt := 43) (by omega) (by decide) eX12_every_8 (fun c2 => ?_) (fun c2 => absurd c2 (by omega))
  exact vx_vret hC hM eX12_every_43 (⟨rfl, xs_0.rf _ _ _ _ _⟩)
set_option maxHeartbeats 4000000 in
set_option maxRecDepth 100000 in
theorem kX12_someW (G : xg_T) (d : Nat) (n : Nat) (tau : Nat → Nat × Nat) (vi vl : Nat → Int → Int) (vr : Nat → Int → Option Nat) (hO : xo n tau vr) (h7 : vi 31 7 = 1) : xm G yX12_some cX12_some 1 none (d + 3) 0 0 [xa_r 31] n tau vi vl vr (xp_v (fun n1 t1 a1 b1 c1 => xs_0 n tau vi vl vr n1 t1 a1 b1 c1)) := by
  refine xm.of (lv := [(0, xa_r 31)]) (by decide) (Nat.le_of_ble_eq_true rfl) rfl (fun K hC hM hRm => ?_)
  refine vx_aload_n hC 0 rfl eX12_some_0 ?_
  refine vx_callV_v hC (kX12_everyW G d _ _ _ _ _ hO h7) ly_X12_114 (ot_31 hO) rfl rfl rfl hRm (by omega) (Nat.le_of_ble_eq_true rfl) rfl eX12_some_1 (fun n9 t9 a9 b9 c9 hx1 => ?_)
  obtain ⟨rfl, rfl, rfl, rfl, rfl⟩ := hx1
  refine vx_aload_n hC 0 rfl eX12_some_4 ?_
  refine vx_gi hC 7 (ot_31 hO) lf_X12_67 rfl eX12_some_5 ?_
  refine vx_eqi h7 ?_
  refine vx_if_ne hC (tgt := 43) (by omega) (by decide) eX12_some_8 (fun c2 => ?_) (fun c2 => absurd c2 (by omega))
  exact vx_vret hC hM eX12_some_43 (⟨rfl, xs_0.rf _ _ _ _ _⟩)
def FC (G : xg_T) (y : MethodName) (cc : ByteArray) (nL ky : Nat) (h u : Int → Int) (ac en op : Int) (P : Int → pr_T) : Prop := ∀ (d n : Nat) (tau : Nat → Nat × Nat) (vi vl : Nat → Int → Int) (vr : Nat → Int → Option Nat), xo n tau vr → ∀ (sp : Int) (L : List Int), vi 32 = pput u ac L → vi 31 4 = ac → vi 31 5 = sp → vi 31 6 = en → vi 31 7 = 0 → vi 31 8 = op → (0 ≤ sp ∧ sp ≤ en) → (L.length : Int) ≤ sp → xm G y cc nL none (d + ky) 0 0 [xa_r 31] n tau vi vl vr (xp_v (fun n1 t1 a1 b1 c1 => (a1 32 = pput u ac (L ++ (P sp).2.2)) ∧ (a1 31 4 = ac) ∧ (a1 31 5 = (P sp).2.1) ∧ (a1 31 6 = en) ∧ (a1 31 7 = 1 - (P sp).1) ∧ (a1 31 8 = op) ∧ (a1 31 3 = vi 31 3) ∧ (a1 31 22 = vi 31 22) ∧ xs_I (fun k => ¬ k = 31 ∧ ¬ k = 32) n tau vi vl vr n1 t1 a1 b1 c1))
set_option maxHeartbeats 4000000 in
set_option maxRecDepth 100000 in
theorem kX12_everyS (G : xg_T) (h u : Int → Int) (ac en : Int) (hac : 0 ≤ ac ∧ ac ≤ 4) (hen : pH h u en) (op : Int) (ky b : Nat) (hky : 6 ≤ ky) (P : Int → pr_T) (hP : ∀ sp, 0 ≤ sp ∧ sp ≤ en → pOK en b sp (P sp)) (hF : FC G yX12_factor cX12_factor 5 (ky) h u ac en op (P)) : FC G yX12_every cX12_every 1 (ky + 1) h u ac en op (pSeq P h 38 (-2)) := by
  unfold FC
  intro d n tau vi vl vr hO sp L h32 h4 h5 h6 h7 h8 hsp hL
  refine xm.of (lv := [(0, xa_r 31)]) (by decide) (Nat.le_of_ble_eq_true rfl) rfl (fun K hC hM hRm => ?_)
  have he := hen.1
  have hh := hen.2
  have hhs := hh sp
  refine vx_aload_n hC 0 rfl eX12_every_0 ?_
  refine vx_callV_v hC (hF d _ _ _ _ _ hO sp L h32 h4 h5 h6 h7 h8 (by omega) (by omega)) ly_X12_94 (ot_31 hO) rfl rfl rfl hRm (by omega) (Nat.le_of_ble_eq_true rfl) rfl eX12_every_1 (fun ng2 tg2 ag2 bg2 cg2 hg2 => ?_)
  obtain ⟨qg2_0, qg2_1, qg2_2, qg2_3, qg2_4, qg2_5, qg2_6, qg2_7, rfl, rfl, rfl, rfl, frg2⟩ := hg2
  have qg2_0b : ag2 32 = pput u ac L ++ (P sp).2.2 := by first | exact qg2_0 | rw [qg2_0, h32] | (rw [qg2_0]; exact h32)
  have qg2_1b : ag2 31 4 = ac := by first | exact qg2_1 | rw [qg2_1, h4] | (rw [qg2_1]; exact h4)
  have qg2_2b : ag2 31 5 = (P sp).2.1 := by first | exact qg2_2 | rw [qg2_2, h5] | (rw [qg2_2]; exact h5)
  have qg2_3b : ag2 31 6 = en := by first | exact qg2_3 | rw [qg2_3, h6] | (rw [qg2_3]; exact h6)
  have qg2_4b : ag2 31 7 = 1 - (P sp).1 := by first | exact qg2_4 | rw [qg2_4, h7] | (rw [qg2_4]; exact h7)
  have qg2_5b : ag2 31 8 = op := by first | exact qg2_5 | rw [qg2_5, h8] | (rw [qg2_5]; exact h8)
  have frvig2 : ∀ k : Nat, (¬ k = 31 ∧ ¬ k = 32) → ag2 k = vi k := fun k hk => (frg2 k (by omega))
  obtain ⟨sp3, hsp3⟩ : ∃ z : Int, z = (P sp).2.1 := ⟨_, rfl⟩
  have esp3 : ag2 31 5 = sp3 := by rw [hsp3]; exact qg2_2b
  obtain ⟨w4, hw4⟩ : ∃ z : Int, z = 1 - (P sp).1 := ⟨_, rfl⟩
  have ew4 : ag2 31 7 = w4 := by rw [hw4]; exact qg2_4b
  obtain ⟨L5, hL5⟩ : ∃ z : List Int, z = L ++ (P sp).2.2 := ⟨_, rfl⟩
  have eL5 : ag2 32 = pput u ac L5 := by rw [hL5]; exact qg2_0b
  have hosp3 := hP sp (by omega)
  have hlL5 : (L5.length : Int) = (L.length : Int) + ((P sp).2.2.length : Int) := by rw [hL5, List.length_append]; omega
  obtain ⟨o1sp3, o2sp3, o3sp3, o4sp3, o5sp3⟩ := hosp3
  have LP4 : ∀ (j : Nat) (c : Nat) (sp1 : Int) (w1 : Int) (acc : List Int) (m2 : Nat → Int → Int) (hc : en - sp1 < (c : Int) ∧ sp ≤ sp1 ∧ sp1 ≤ en) (hacc : (acc.length : Int) ≤ sp1 - sp) (hinv : (w1 = 0 ∧ pLoop P h 38 (-2) c sp1 acc = pSeq P h 38 (-2) sp) ∨ (w1 = 1 ∧ (0, sp1, acc) = pSeq P h 38 (-2) sp)) (eq0 : m2 32 = pput u ac (L ++ acc)) (eq1 : m2 31 4 = ac) (eq2 : m2 31 5 = sp1) (eq3 : m2 31 6 = en) (eq4 : m2 31 7 = w1) (eq5 : m2 31 8 = op) (eq6 : m2 31 3 = vi 31 3) (eq7 : m2 31 22 = vi 31 22) (frq : ∀ k : Nat, (¬ k = 31 ∧ ¬ k = 32) → m2 k = vi k) (hj : (c : Int) < (j : Int)), xv G K 1 (xk_Q G K (xp_v (fun n1 t1 a1 b1 c1 => (a1 32 = pput u ac (L ++ ((pSeq P h 38 (-2)) sp).2.2)) ∧ (a1 31 4 = ac) ∧ (a1 31 5 = ((pSeq P h 38 (-2)) sp).2.1) ∧ (a1 31 6 = en) ∧ (a1 31 7 = 1 - ((pSeq P h 38 (-2)) sp).1) ∧ (a1 31 8 = op) ∧ (a1 31 3 = vi 31 3) ∧ (a1 31 22 = vi 31 22) ∧ xs_I (fun k => ¬ k = 31 ∧ ¬ k = 32) n tau vi vl vr n1 t1 a1 b1 c1)) 0 0) 0 0 n tau m2 vl vr 4 [(0, xa_r 31)] [] := by
    intro j
    induction j with
    | zero => intro c sp1 w1 acc m2 hc hacc hinv eq0 eq1 eq2 eq3 eq4 eq5 eq6 eq7 frq hj; exfalso; omega
    | succ j ih =>
      intro c sp1 w1 acc m2 hc hacc hinv eq0 eq1 eq2 eq3 eq4 eq5 eq6 eq7 frq hj
      refine vx_aload_n hC 0 rfl eX12_every_4 ?_
      refine vx_gi hC 7 (ot_31 hO) lf_X12_67 rfl eX12_every_5 ?_
      refine vx_eqi eq4 ?_
      refine vx_if_ne hC (tgt := 43) (by omega) (by decide) eX12_every_8 (fun c6 => ?_) (fun c6 => ?_)
      · have hE9 : (1 - w1, sp1, acc) = pSeq P h 38 (-2) sp := by rcases hinv with ⟨h8, h9⟩ | ⟨h8, h9⟩; (rw [h8]; exact pLoop_end h9 (by omega)); (rw [h8]; exact h9)
        exact vx_vret hC hM eX12_every_43 (⟨rfl, (by rw [← hE9]; exact eq0), eq1, (by rw [← hE9]; exact eq2), eq3, (by rw [← hE9]; show _ = 1 - (1 - w1); rw [eq4]; omega), eq5, eq6, eq7, rfl, rfl, rfl, rfl, fun k hk => frq k hk⟩)
      · have hla : ((L ++ acc).length : Int) = (L.length : Int) + (acc.length : Int) := by rw [List.length_append]; omega
        have hres9 : pLoop P h 38 (-2) c sp1 acc = pSeq P h 38 (-2) sp := by rcases hinv with ⟨h8, h9⟩ | ⟨h8, h9⟩; exact h9; omega
        refine vx_aload_n hC 0 rfl eX12_every_11 ?_
        refine vx_callV_i hC (kX12_hereP G d _ _ _ _ _ hO h u ac en sp1 w1 op (L ++ acc) eq0 eq1 eq2 eq3 eq4 eq5 hac hen (by omega) (by omega) (by omega)) ly_X12_71 (ot_31 hO) rfl rfl rfl hRm (by omega) (Nat.le_of_ble_eq_true rfl) rfl eX12_every_12 (fun x7 n9 t9 a9 b9 c9 hx7 => ?_)
        obtain ⟨hx7, rfl, rfl, rfl, rfl, rfl⟩ := hx7
        have hrx7 := hh sp1
        refine vx_bipush hC (by decide) eX12_every_15 ?_
        refine vx_icmp_ne hC (tgt := 43) (by omega) (by decide) eX12_every_17 (fun c8 => ?_) (fun c8 => ?_)
        · have hE9 : (1 - w1, sp1, acc) = pSeq P h 38 (-2) sp := by rcases hinv with ⟨h8, h9⟩ | ⟨h8, h9⟩; (rw [h8]; exact pLoop_end h9 (by omega)); (rw [h8]; exact h9)
          exact vx_vret hC hM eX12_every_43 (⟨rfl, (by rw [← hE9]; exact eq0), eq1, (by rw [← hE9]; exact eq2), eq3, (by rw [← hE9]; show _ = 1 - (1 - w1); rw [eq4]; omega), eq5, eq6, eq7, rfl, rfl, rfl, rfl, fun k hk => frq k hk⟩)
        · obtain ⟨c1, rfl⟩ : ∃ c1, c = c1 + 1 := ⟨c - 1, by omega⟩
          refine vx_aload_n hC 0 rfl eX12_every_20 ?_
          refine vx_dup hC rfl eX12_every_21 ?_
          refine vx_gi hC 5 (ot_31 hO) lf_X12_61 rfl eX12_every_22 ?_
          refine vx_eqi eq2 ?_
          refine vx_iconst hC eX12_every_25 ?_
          refine vx_iadd hC eX12_every_26 ?_
          refine vx_pi hC 5 (ot_31 hO) lp_X12_61 rfl (Or.inl rfl) (Or.inl rfl) eX12_every_27 ?_
          refine vx_vi (fun v9 hv9 => ?_)
          have hv9_32 : v9 32 = pput u ac (L ++ acc) := by rw [hv9, xu_c _ _ _ _ (by decide), eq0]
          have hv9_31_4 : v9 31 4 = ac := by rw [hv9, xu_k, fu_n _ _ _ (by decide), eq1]
          have hv9_31_5 : v9 31 5 = (sp1 + 1) := by rw [hv9, xu_k, fu_s]
          have hv9_31_6 : v9 31 6 = en := by rw [hv9, xu_k, fu_n _ _ _ (by decide), eq3]
          have hv9_31_7 : v9 31 7 = w1 := by rw [hv9, xu_k, fu_n _ _ _ (by decide), eq4]
          have hv9_31_8 : v9 31 8 = op := by rw [hv9, xu_k, fu_n _ _ _ (by decide), eq5]
          have hv9_31_3 : v9 31 3 = vi 31 3 := by rw [hv9, xu_k, fu_n _ _ _ (by decide), eq6]
          have hv9_31_22 : v9 31 22 = vi 31 22 := by rw [hv9, xu_k, fu_n _ _ _ (by decide), eq7]
          have frv9 : ∀ k : Nat, (¬ k = 31 ∧ ¬ k = 32) → v9 k = vi k := fun k hk => by rw [hv9, xu_c _ _ _ _ (by omega)]; exact frq k hk
          refine vx_aload_n hC 0 rfl eX12_every_30 ?_
          refine vx_callV_v hC (hF d _ _ _ _ _ hO (sp1 + 1) (L ++ acc) hv9_32 hv9_31_4 hv9_31_5 hv9_31_6 hv9_31_7 hv9_31_8 (by omega) (by omega)) ly_X12_94 (ot_31 hO) rfl rfl rfl hRm (by omega) (Nat.le_of_ble_eq_true rfl) rfl eX12_every_31 (fun ng11 tg11 ag11 bg11 cg11 hg11 => ?_)
          obtain ⟨qg11_0, qg11_1, qg11_2, qg11_3, qg11_4, qg11_5, qg11_6, qg11_7, rfl, rfl, rfl, rfl, frg11⟩ := hg11
          have qg11_0b : ag11 32 = pput u ac (L ++ acc) ++ (P (sp1 + 1)).2.2 := by first | exact qg11_0 | rw [qg11_0, hv9_32] | (rw [qg11_0]; exact hv9_32)
          have qg11_1b : ag11 31 4 = ac := by first | exact qg11_1 | rw [qg11_1, hv9_31_4] | (rw [qg11_1]; exact hv9_31_4)
          have qg11_2b : ag11 31 5 = (P (sp1 + 1)).2.1 := by first | exact qg11_2 | rw [qg11_2, hv9_31_5] | (rw [qg11_2]; exact hv9_31_5)
          have qg11_3b : ag11 31 6 = en := by first | exact qg11_3 | rw [qg11_3, hv9_31_6] | (rw [qg11_3]; exact hv9_31_6)
          have qg11_4b : ag11 31 7 = 1 - (P (sp1 + 1)).1 := by first | exact qg11_4 | rw [qg11_4, hv9_31_7] | (rw [qg11_4]; exact hv9_31_7)
          have qg11_5b : ag11 31 8 = op := by first | exact qg11_5 | rw [qg11_5, hv9_31_8] | (rw [qg11_5]; exact hv9_31_8)
          have qg11_6b : ag11 31 3 = vi 31 3 := by first | exact qg11_6 | rw [qg11_6, hv9_31_3] | (rw [qg11_6]; exact hv9_31_3)
          have qg11_7b : ag11 31 22 = vi 31 22 := by first | exact qg11_7 | rw [qg11_7, hv9_31_22] | (rw [qg11_7]; exact hv9_31_22)
          have frvig11 : ∀ k : Nat, (¬ k = 31 ∧ ¬ k = 32) → ag11 k = vi k := fun k hk => (frg11 k (by omega)).trans (frv9 k hk)
          obtain ⟨sp12, hsp12⟩ : ∃ z : Int, z = (P (sp1 + 1)).2.1 := ⟨_, rfl⟩
          have esp12 : ag11 31 5 = sp12 := by rw [hsp12]; exact qg11_2b
          obtain ⟨w13, hw13⟩ : ∃ z : Int, z = 1 - (P (sp1 + 1)).1 := ⟨_, rfl⟩
          have ew13 : ag11 31 7 = w13 := by rw [hw13]; exact qg11_4b
          obtain ⟨L14, hL14⟩ : ∃ z : List Int, z = (L ++ acc) ++ (P (sp1 + 1)).2.2 := ⟨_, rfl⟩
          have eL14 : ag11 32 = pput u ac L14 := by rw [hL14]; exact qg11_0b
          have hosp12 := hP (sp1 + 1) (by omega)
          have hlL14 : (L14.length : Int) = ((L ++ acc).length : Int) + ((P (sp1 + 1)).2.2.length : Int) := by rw [hL14, List.length_append]; omega
          obtain ⟨o1sp12, o2sp12, o3sp12, o4sp12, o5sp12⟩ := hosp12
          refine vx_aload_n hC 0 rfl eX12_every_34 ?_
          refine vx_bipush hC (by decide) eX12_every_35 ?_
          refine vx_callV_v hC (kX12_emits G d _ _ _ _ _ hO h u ac en sp12 w13 op L14 eL14 qg11_1b esp12 qg11_3b ew13 qg11_5b hac hen (by omega) (by omega) (by omega) (-2)) ly_X12_97 (ot_31 hO) rfl rfl rfl hRm (by omega) (Nat.le_of_ble_eq_true rfl) rfl eX12_every_37 (fun ng16 tg16 ag16 bg16 cg16 hg16 => ?_)
          obtain ⟨qg16_0, qg16_1, qg16_2, qg16_3, qg16_4, qg16_5, qg16_6, qg16_7, rfl, rfl, rfl, rfl, frg16⟩ := hg16
          have qg16_0b : ag16 32 = pput u ac pE w13 L14 (-2) := by first | exact qg16_0 | rw [qg16_0, eL14] | (rw [qg16_0]; exact eL14)
          have qg16_1b : ag16 31 4 = ac := by first | exact qg16_1 | rw [qg16_1, qg11_1b] | (rw [qg16_1]; exact qg11_1b)
          have qg16_2b : ag16 31 5 = sp12 := by first | exact qg16_2 | rw [qg16_2, esp12] | (rw [qg16_2]; exact esp12)
          have qg16_3b : ag16 31 6 = en := by first | exact qg16_3 | rw [qg16_3, qg11_3b] | (rw [qg16_3]; exact qg11_3b)
          have qg16_4b : ag16 31 7 = w13 := by first | exact qg16_4 | rw [qg16_4, ew13] | (rw [qg16_4]; exact ew13)
          have qg16_5b : ag16 31 8 = op := by first | exact qg16_5 | rw [qg16_5, qg11_5b] | (rw [qg16_5]; exact qg11_5b)
          have qg16_6b : ag16 31 3 = vi 31 3 := by first | exact qg16_6 | rw [qg16_6, qg11_6b] | (rw [qg16_6]; exact qg11_6b)
          have qg16_7b : ag16 31 22 = vi 31 22 := by first | exact qg16_7 | rw [qg16_7, qg11_7b] | (rw [qg16_7]; exact qg11_7b)
          have frvig16 : ∀ k : Nat, (¬ k = 31 ∧ ¬ k = 32) → ag16 k = vi k := fun k hk => (frg16 k (by omega)).trans (frvig11 k hk)
          obtain ⟨L17, hL17⟩ : ∃ z : List Int, z = pE w13 L14 (-2) := ⟨_, rfl⟩
          have eL17 : ag16 32 = pput u ac L17 := by rw [hL17]; exact qg16_0b
          have hfL17 := pE_len w13 L14 (-2)
          rw [← hL17] at hfL17
          have hLe : L17 = L ++ pE (1 - (P (sp1 + 1)).1) (acc ++ (P (sp1 + 1)).2.2) (-2) := by rw [hL17, hL14, hw13, ← pE_app, List.append_assoc]
          have hpl := pE_len (1 - (P (sp1 + 1)).1) (acc ++ (P (sp1 + 1)).2.2) (-2)
          have hla2 : ((acc ++ (P (sp1 + 1)).2.2).length : Int) = (acc.length : Int) + ((P (sp1 + 1)).2.2.length : Int) := by rw [List.length_append]; omega
          refine vx_goto hC (tgt := 4) (by decide) eX12_every_40 ?_
          exact ih c1 sp12 w13 (pE (1 - (P (sp1 + 1)).1) (acc ++ (P (sp1 + 1)).2.2) (-2)) ag16 (by omega) (by omega) (by rw [hsp12, hw13]; exact pLoop_step hres9 (by omega) o1sp12) (by rw [← hLe]; exact eL17) qg16_1b qg16_2b qg16_3b qg16_4b qg16_5b qg16_6b qg16_7b frvig16 (by omega)
  exact LP4 102 101 sp3 w4 (P sp).2.2 ag2 (by omega) (by omega) (by rw [hsp3, hw4]; exact pSeq_start o1sp3) (by rw [← hL5]; exact eL5) qg2_1b esp3 qg2_3b ew4 qg2_5b qg2_6 qg2_7 frvig2 (by omega)
set_option maxHeartbeats 4000000 in
set_option maxRecDepth 100000 in
theorem kX12_someS (G : xg_T) (h u : Int → Int) (ac en : Int) (hac : 0 ≤ ac ∧ ac ≤ 4) (hen : pH h u en) (op : Int) (ky b : Nat) (hky : 6 ≤ ky) (P : Int → pr_T) (hP : ∀ sp, 0 ≤ sp ∧ sp ≤ en → pOK en b sp (P sp)) (hF : FC G yX12_every cX12_every 1 (ky) h u ac en op (P)) : FC G yX12_some cX12_some 1 (ky + 1) h u ac en op (pSeq P h 124 (-3)) := by
  unfold FC
  intro d n tau vi vl vr hO sp L h32 h4 h5 h6 h7 h8 hsp hL
  refine xm.of (lv := [(0, xa_r 31)]) (by decide) (Nat.le_of_ble_eq_true rfl) rfl (fun K hC hM hRm => ?_)
  have he := hen.1
  have hh := hen.2
  have hhs := hh sp
  refine vx_aload_n hC 0 rfl eX12_some_0 ?_
  refine vx_callV_v hC (hF d _ _ _ _ _ hO sp L h32 h4 h5 h6 h7 h8 (by omega) (by omega)) ly_X12_114 (ot_31 hO) rfl rfl rfl hRm (by omega) (Nat.le_of_ble_eq_true rfl) rfl eX12_some_1 (fun ng2 tg2 ag2 bg2 cg2 hg2 => ?_)
  obtain ⟨qg2_0, qg2_1, qg2_2, qg2_3, qg2_4, qg2_5, qg2_6, qg2_7, rfl, rfl, rfl, rfl, frg2⟩ := hg2
  have qg2_0b : ag2 32 = pput u ac L ++ (P sp).2.2 := by first | exact qg2_0 | rw [qg2_0, h32] | (rw [qg2_0]; exact h32)
  have qg2_1b : ag2 31 4 = ac := by first | exact qg2_1 | rw [qg2_1, h4] | (rw [qg2_1]; exact h4)
  have qg2_2b : ag2 31 5 = (P sp).2.1 := by first | exact qg2_2 | rw [qg2_2, h5] | (rw [qg2_2]; exact h5)
  have qg2_3b : ag2 31 6 = en := by first | exact qg2_3 | rw [qg2_3, h6] | (rw [qg2_3]; exact h6)
  have qg2_4b : ag2 31 7 = 1 - (P sp).1 := by first | exact qg2_4 | rw [qg2_4, h7] | (rw [qg2_4]; exact h7)
  have qg2_5b : ag2 31 8 = op := by first | exact qg2_5 | rw [qg2_5, h8] | (rw [qg2_5]; exact h8)
  have frvig2 : ∀ k : Nat, (¬ k = 31 ∧ ¬ k = 32) → ag2 k = vi k := fun k hk => (frg2 k (by omega))
  obtain ⟨sp3, hsp3⟩ : ∃ z : Int, z = (P sp).2.1 := ⟨_, rfl⟩
  have esp3 : ag2 31 5 = sp3 := by rw [hsp3]; exact qg2_2b
  obtain ⟨w4, hw4⟩ : ∃ z : Int, z = 1 - (P sp).1 := ⟨_, rfl⟩
  have ew4 : ag2 31 7 = w4 := by rw [hw4]; exact qg2_4b
  obtain ⟨L5, hL5⟩ : ∃ z : List Int, z = L ++ (P sp).2.2 := ⟨_, rfl⟩
  have eL5 : ag2 32 = pput u ac L5 := by rw [hL5]; exact qg2_0b
  have hosp3 := hP sp (by omega)
  have hlL5 : (L5.length : Int) = (L.length : Int) + ((P sp).2.2.length : Int) := by rw [hL5, List.length_append]; omega
  obtain ⟨o1sp3, o2sp3, o3sp3, o4sp3, o5sp3⟩ := hosp3
  have LP4 : ∀ (j : Nat) (c : Nat) (sp1 : Int) (w1 : Int) (acc : List Int) (m2 : Nat → Int → Int) (hc : en - sp1 < (c : Int) ∧ sp ≤ sp1 ∧ sp1 ≤ en) (hacc : (acc.length : Int) ≤ sp1 - sp) (hinv : (w1 = 0 ∧ pLoop P h 124 (-3) c sp1 acc = pSeq P h 124 (-3) sp) ∨ (w1 = 1 ∧ (0, sp1, acc) = pSeq P h 124 (-3) sp)) (eq0 : m2 32 = pput u ac (L ++ acc)) (eq1 : m2 31 4 = ac) (eq2 : m2 31 5 = sp1) (eq3 : m2 31 6 = en) (eq4 : m2 31 7 = w1) (eq5 : m2 31 8 = op) (eq6 : m2 31 3 = vi 31 3) (eq7 : m2 31 22 = vi 31 22) (frq : ∀ k : Nat, (¬ k = 31 ∧ ¬ k = 32) → m2 k = vi k) (hj : (c : Int) < (j : Int)), xv G K 1 (xk_Q G K (xp_v (fun n1 t1 a1 b1 c1 => (a1 32 = pput u ac (L ++ ((pSeq P h 124 (-3)) sp).2.2)) ∧ (a1 31 4 = ac) ∧ (a1 31 5 = ((pSeq P h 124 (-3)) sp).2.1) ∧ (a1 31 6 = en) ∧ (a1 31 7 = 1 - ((pSeq P h 124 (-3)) sp).1) ∧ (a1 31 8 = op) ∧ (a1 31 3 = vi 31 3) ∧ (a1 31 22 = vi 31 22) ∧ xs_I (fun k => ¬ k = 31 ∧ ¬ k = 32) n tau vi vl vr n1 t1 a1 b1 c1)) 0 0) 0 0 n tau m2 vl vr 4 [(0, xa_r 31)] [] := by
    intro j
    induction j with
    | zero => intro c sp1 w1 acc m2 hc hacc hinv eq0 eq1 eq2 eq3 eq4 eq5 eq6 eq7 frq hj; exfalso; omega
    | succ j ih =>
      intro c sp1 w1 acc m2 hc hacc hinv eq0 eq1 eq2 eq3 eq4 eq5 eq6 eq7 frq hj
      refine vx_aload_n hC 0 rfl eX12_some_4 ?_
      refine vx_gi hC 7 (ot_31 hO) lf_X12_67 rfl eX12_some_5 ?_
      refine vx_eqi eq4 ?_
      refine vx_if_ne hC (tgt := 43) (by omega) (by decide) eX12_some_8 (fun c6 => ?_) (fun c6 => ?_)
      · have hE9 : (1 - w1, sp1, acc) = pSeq P h 124 (-3) sp := by rcases hinv with ⟨h8, h9⟩ | ⟨h8, h9⟩; (rw [h8]; exact pLoop_end h9 (by omega)); (rw [h8]; exact h9)
        exact vx_vret hC hM eX12_some_43 (⟨rfl, (by rw [← hE9]; exact eq0), eq1, (by rw [← hE9]; exact eq2), eq3, (by rw [← hE9]; show _ = 1 - (1 - w1); rw [eq4]; omega), eq5, eq6, eq7, rfl, rfl, rfl, rfl, fun k hk => frq k hk⟩)
      · have hla : ((L ++ acc).length : Int) = (L.length : Int) + (acc.length : Int) := by rw [List.length_append]; omega
        have hres9 : pLoop P h 124 (-3) c sp1 acc = pSeq P h 124 (-3) sp := by rcases hinv with ⟨h8, h9⟩ | ⟨h8, h9⟩; exact h9; omega
        refine vx_aload_n hC 0 rfl eX12_some_11 ?_
        refine vx_callV_i hC (kX12_hereP G d _ _ _ _ _ hO h u ac en sp1 w1 op (L ++ acc) eq0 eq1 eq2 eq3 eq4 eq5 hac hen (by omega) (by omega) (by omega)) ly_X12_71 (ot_31 hO) rfl rfl rfl hRm (by omega) (Nat.le_of_ble_eq_true rfl) rfl eX12_some_12 (fun x7 n9 t9 a9 b9 c9 hx7 => ?_)
        obtain ⟨hx7, rfl, rfl, rfl, rfl, rfl⟩ := hx7
        have hrx7 := hh sp1
        refine vx_bipush hC (by decide) eX12_some_15 ?_
        refine vx_icmp_ne hC (tgt := 43) (by omega) (by decide) eX12_some_17 (fun c8 => ?_) (fun c8 => ?_)
        · have hE9 : (1 - w1, sp1, acc) = pSeq P h 124 (-3) sp := by rcases hinv with ⟨h8, h9⟩ | ⟨h8, h9⟩; (rw [h8]; exact pLoop_end h9 (by omega)); (rw [h8]; exact h9)
          exact vx_vret hC hM eX12_some_43 (⟨rfl, (by rw [← hE9]; exact eq0), eq1, (by rw [← hE9]; exact eq2), eq3, (by rw [← hE9]; show _ = 1 - (1 - w1); rw [eq4]; omega), eq5, eq6, eq7, rfl, rfl, rfl, rfl, fun k hk => frq k hk⟩)
        · obtain ⟨c1, rfl⟩ : ∃ c1, c = c1 + 1 := ⟨c - 1, by omega⟩
          refine vx_aload_n hC 0 rfl eX12_some_20 ?_
          refine vx_dup hC rfl eX12_some_21 ?_
          refine vx_gi hC 5 (ot_31 hO) lf_X12_61 rfl eX12_some_22 ?_
          refine vx_eqi eq2 ?_
          refine vx_iconst hC eX12_some_25 ?_
          refine vx_iadd hC eX12_some_26 ?_
          refine vx_pi hC 5 (ot_31 hO) lp_X12_61 rfl (Or.inl rfl) (Or.inl rfl) eX12_some_27 ?_
          refine vx_vi (fun v9 hv9 => ?_)
          have hv9_32 : v9 32 = pput u ac (L ++ acc) := by rw [hv9, xu_c _ _ _ _ (by decide), eq0]
          have hv9_31_4 : v9 31 4 = ac := by rw [hv9, xu_k, fu_n _ _ _ (by decide), eq1]
          have hv9_31_5 : v9 31 5 = (sp1 + 1) := by rw [hv9, xu_k, fu_s]
          have hv9_31_6 : v9 31 6 = en := by rw [hv9, xu_k, fu_n _ _ _ (by decide), eq3]
          have hv9_31_7 : v9 31 7 = w1 := by rw [hv9, xu_k, fu_n _ _ _ (by decide), eq4]
          have hv9_31_8 : v9 31 8 = op := by rw [hv9, xu_k, fu_n _ _ _ (by decide), eq5]
          have hv9_31_3 : v9 31 3 = vi 31 3 := by rw [hv9, xu_k, fu_n _ _ _ (by decide), eq6]
          have hv9_31_22 : v9 31 22 = vi 31 22 := by rw [hv9, xu_k, fu_n _ _ _ (by decide), eq7]
          have frv9 : ∀ k : Nat, (¬ k = 31 ∧ ¬ k = 32) → v9 k = vi k := fun k hk => by rw [hv9, xu_c _ _ _ _ (by omega)]; exact frq k hk
          refine vx_aload_n hC 0 rfl eX12_some_30 ?_
          refine vx_callV_v hC (hF d _ _ _ _ _ hO (sp1 + 1) (L ++ acc) hv9_32 hv9_31_4 hv9_31_5 hv9_31_6 hv9_31_7 hv9_31_8 (by omega) (by omega)) ly_X12_114 (ot_31 hO) rfl rfl rfl hRm (by omega) (Nat.le_of_ble_eq_true rfl) rfl eX12_some_31 (fun ng11 tg11 ag11 bg11 cg11 hg11 => ?_)
          obtain ⟨qg11_0, qg11_1, qg11_2, qg11_3, qg11_4, qg11_5, qg11_6, qg11_7, rfl, rfl, rfl, rfl, frg11⟩ := hg11
          have qg11_0b : ag11 32 = pput u ac (L ++ acc) ++ (P (sp1 + 1)).2.2 := by first | exact qg11_0 | rw [qg11_0, hv9_32] | (rw [qg11_0]; exact hv9_32)
          have qg11_1b : ag11 31 4 = ac := by first | exact qg11_1 | rw [qg11_1, hv9_31_4] | (rw [qg11_1]; exact hv9_31_4)
          have qg11_2b : ag11 31 5 = (P (sp1 + 1)).2.1 := by first | exact qg11_2 | rw [qg11_2, hv9_31_5] | (rw [qg11_2]; exact hv9_31_5)
          have qg11_3b : ag11 31 6 = en := by first | exact qg11_3 | rw [qg11_3, hv9_31_6] | (rw [qg11_3]; exact hv9_31_6)
          have qg11_4b : ag11 31 7 = 1 - (P (sp1 + 1)).1 := by first | exact qg11_4 | rw [qg11_4, hv9_31_7] | (rw [qg11_4]; exact hv9_31_7)
          have qg11_5b : ag11 31 8 = op := by first | exact qg11_5 | rw [qg11_5, hv9_31_8] | (rw [qg11_5]; exact hv9_31_8)
          have qg11_6b : ag11 31 3 = vi 31 3 := by first | exact qg11_6 | rw [qg11_6, hv9_31_3] | (rw [qg11_6]; exact hv9_31_3)
          have qg11_7b : ag11 31 22 = vi 31 22 := by first | exact qg11_7 | rw [qg11_7, hv9_31_22] | (rw [qg11_7]; exact hv9_31_22)
          have frvig11 : ∀ k : Nat, (¬ k = 31 ∧ ¬ k = 32) → ag11 k = vi k := fun k hk => (frg11 k (by omega)).trans (frv9 k hk)
          obtain ⟨sp12, hsp12⟩ : ∃ z : Int, z = (P (sp1 + 1)).2.1 := ⟨_, rfl⟩
          have esp12 : ag11 31 5 = sp12 := by rw [hsp12]; exact qg11_2b
          obtain ⟨w13, hw13⟩ : ∃ z : Int, z = 1 - (P (sp1 + 1)).1 := ⟨_, rfl⟩
          have ew13 : ag11 31 7 = w13 := by rw [hw13]; exact qg11_4b
          obtain ⟨L14, hL14⟩ : ∃ z : List Int, z = (L ++ acc) ++ (P (sp1 + 1)).2.2 := ⟨_, rfl⟩
          have eL14 : ag11 32 = pput u ac L14 := by rw [hL14]; exact qg11_0b
          have hosp12 := hP (sp1 + 1) (by omega)
          have hlL14 : (L14.length : Int) = ((L ++ acc).length : Int) + ((P (sp1 + 1)).2.2.length : Int) := by rw [hL14, List.length_append]; omega
          obtain ⟨o1sp12, o2sp12, o3sp12, o4sp12, o5sp12⟩ := hosp12
          refine vx_aload_n hC 0 rfl eX12_some_34 ?_
          refine vx_bipush hC (by decide) eX12_some_35 ?_
          refine vx_callV_v hC (kX12_emits G d _ _ _ _ _ hO h u ac en sp12 w13 op L14 eL14 qg11_1b esp12 qg11_3b ew13 qg11_5b hac hen (by omega) (by omega) (by omega) (-3)) ly_X12_97 (ot_31 hO) rfl rfl rfl hRm (by omega) (Nat.le_of_ble_eq_true rfl) rfl eX12_some_37 (fun ng16 tg16 ag16 bg16 cg16 hg16 => ?_)
          obtain ⟨qg16_0, qg16_1, qg16_2, qg16_3, qg16_4, qg16_5, qg16_6, qg16_7, rfl, rfl, rfl, rfl, frg16⟩ := hg16
          have qg16_0b : ag16 32 = pput u ac pE w13 L14 (-3) := by first | exact qg16_0 | rw [qg16_0, eL14] | (rw [qg16_0]; exact eL14)
          have qg16_1b : ag16 31 4 = ac := by first | exact qg16_1 | rw [qg16_1, qg11_1b] | (rw [qg16_1]; exact qg11_1b)
          have qg16_2b : ag16 31 5 = sp12 := by first | exact qg16_2 | rw [qg16_2, esp12] | (rw [qg16_2]; exact esp12)
          have qg16_3b : ag16 31 6 = en := by first | exact qg16_3 | rw [qg16_3, qg11_3b] | (rw [qg16_3]; exact qg11_3b)
          have qg16_4b : ag16 31 7 = w13 := by first | exact qg16_4 | rw [qg16_4, ew13] | (rw [qg16_4]; exact ew13)
          have qg16_5b : ag16 31 8 = op := by first | exact qg16_5 | rw [qg16_5, qg11_5b] | (rw [qg16_5]; exact qg11_5b)
          have qg16_6b : ag16 31 3 = vi 31 3 := by first | exact qg16_6 | rw [qg16_6, qg11_6b] | (rw [qg16_6]; exact qg11_6b)
          have qg16_7b : ag16 31 22 = vi 31 22 := by first | exact qg16_7 | rw [qg16_7, qg11_7b] | (rw [qg16_7]; exact qg11_7b)
          have frvig16 : ∀ k : Nat, (¬ k = 31 ∧ ¬ k = 32) → ag16 k = vi k := fun k hk => (frg16 k (by omega)).trans (frvig11 k hk)
          obtain ⟨L17, hL17⟩ : ∃ z : List Int, z = pE w13 L14 (-3) := ⟨_, rfl⟩
          have eL17 : ag16 32 = pput u ac L17 := by rw [hL17]; exact qg16_0b
          have hfL17 := pE_len w13 L14 (-3)
          rw [← hL17] at hfL17
          have hLe : L17 = L ++ pE (1 - (P (sp1 + 1)).1) (acc ++ (P (sp1 + 1)).2.2) (-3) := by rw [hL17, hL14, hw13, ← pE_app, List.append_assoc]
          have hpl := pE_len (1 - (P (sp1 + 1)).1) (acc ++ (P (sp1 + 1)).2.2) (-3)
          have hla2 : ((acc ++ (P (sp1 + 1)).2.2).length : Int) = (acc.length : Int) + ((P (sp1 + 1)).2.2.length : Int) := by rw [List.length_append]; omega
          refine vx_goto hC (tgt := 4) (by decide) eX12_some_40 ?_
          exact ih c1 sp12 w13 (pE (1 - (P (sp1 + 1)).1) (acc ++ (P (sp1 + 1)).2.2) (-3)) ag16 (by omega) (by omega) (by rw [hsp12, hw13]; exact pLoop_step hres9 (by omega) o1sp12) (by rw [← hLe]; exact eL17) qg16_1b qg16_2b qg16_3b qg16_4b qg16_5b qg16_6b qg16_7b frvig16 (by omega)
  exact LP4 102 101 sp3 w4 (P sp).2.2 ag2 (by omega) (by omega) (by rw [hsp3, hw4]; exact pSeq_start o1sp3) (by rw [← hL5]; exact eL5) qg2_1b esp3 qg2_3b ew4 qg2_5b qg2_6 qg2_7 frvig2 (by omega)
theorem pE_nil (w : Int) (L : List Int) (x : Int) : pE w L x = L ++ pE w [] x := by rw [← pE_app, List.append_nil]
theorem pF_not {h : Int → Int} {k : Nat} {sp : Int} (e : h sp = 33) (hr : (pF h k (sp + 1)).1 = 0 ∨ (pF h k (sp + 1)).1 = 1) : pF h (k + 1) sp = ((pF h k (sp + 1)).1, (pF h k (sp + 1)).2.1, pE (1 - (pF h k (sp + 1)).1) (pF h k (sp + 1)).2.2 (-1)) := by
  rw [pF, if_pos e]
  unfold pE
  rcases hr with hr | hr
  · rw [if_pos hr, if_neg (by omega)]
  · rw [if_neg (by omega), if_pos (by omega), hr]
theorem pF_par {h : Int → Int} {k : Nat} {sp : Int} (e : h sp = 40) (hr : (pEx (pF h k) h (sp + 1)).1 = 0 ∨ (pEx (pF h k) h (sp + 1)).1 = 1) : pF h (k + 1) sp = (1 - pMw h 41 (1 - (pEx (pF h k) h (sp + 1)).1) (pEx (pF h k) h (sp + 1)).2.1, pMs h 41 (1 - (pEx (pF h k) h (sp + 1)).1) (pEx (pF h k) h (sp + 1)).2.1, (pEx (pF h k) h (sp + 1)).2.2) := by
  rw [pF, if_neg (by omega), if_pos e]
  generalize pEx (pF h k) h (sp + 1) = r at *
  unfold pMw pMs
  rcases hr with hr | hr
  · rw [if_pos hr, if_neg (by omega), if_neg (by omega)]
    exact Prod.ext (by show r.1 = 1 - 1; omega) rfl
  · rw [if_neg (by omega)]
    by_cases e2 : h r.2.1 = 41
    · rw [if_pos e2, if_pos (by omega), if_pos (by omega)]; rfl
    · rw [if_neg e2, if_neg (by omega), if_neg (by omega)]; rfl
theorem pF_tst {h : Int → Int} : ∀ {k : Nat} {sp : Int}, ¬ h sp = 33 → ¬ h sp = 40 → pF h k sp = pTest h sp
  | 0, _, _, _ => rfl
  | k + 1, sp, h1, h2 => by rw [pF, if_neg h1, if_neg h2]
theorem pTest_0 {h : Int → Int} {sp : Int} (e : h sp = 33 ∨ h sp = 40) : pTest h sp = (0, sp, []) := by
  unfold pTest
  rw [if_pos]
  unfold pA1
  rcases e with e | e <;> rw [e] <;> decide
theorem pTest_1 {h : Int → Int} {sp : Int} (e : pA1 h sp = -1) : pTest h sp = (0, sp, []) := by unfold pTest; rw [if_pos e]
theorem pTest_2 {h : Int → Int} {sp s1 : Int} (h1 : s1 = sp + 1) (e : ¬ pA1 h sp = -1) (e2 : pA2 h s1 = -1) : pTest h sp = (0, s1, []) := by subst h1; unfold pTest; rw [if_neg e, if_pos e2]
theorem pTest_3 {h : Int → Int} {sp s1 s2 a b : Int} (h1 : s1 = sp + 1) (h2 : s2 = sp + 2) (ha : a = pA1 h sp) (hb : b = pA2 h s1) (na : ¬ a = -1) (nb : ¬ b = -1) : pTest h sp = (1 - pNw h 0 s2, pNs h 0 s2, pE (pNw h 0 s2) [] (a + 8 * b + 32 * pNv h 0 s2)) := by
  subst h1 h2 ha hb
  unfold pTest pE
  rw [if_neg na, if_neg nb]
  by_cases e : pNw h 0 (sp + 2) = 0
  · rw [if_pos e, if_pos e, e]; rfl
  · rw [if_neg e, if_neg e]
    have e1 : ¬ ((0 : Int) = 0 ∧ 48 ≤ h (sp + 2) ∧ h (sp + 2) ≤ 57) := fun q => e (by unfold pNw; rw [if_pos q])
    have e2 : pNw h 0 (sp + 2) = 1 := by unfold pNw; rw [if_neg e1]
    have e3 : pNs h 0 (sp + 2) = sp + 2 := by unfold pNs; rw [if_neg e1]
    rw [e2, e3]; rfl
set_option maxHeartbeats 4000000 in
set_option maxRecDepth 100000 in
theorem kX12_factor0 (G : xg_T) (h u : Int → Int) (ac en : Int) (hac : 0 ≤ ac ∧ ac ≤ 4) (hen : pH h u en)  : FC G yX12_factor cX12_factor 5 (6) h u ac en 5 (pF h 0) := by
  unfold FC
  intro d n tau vi vl vr hO sp L h32 h4 h5 h6 h7 h8 hsp hL
  refine xm.of (lv := [(0, xa_r 31)]) (by decide) (Nat.le_of_ble_eq_true rfl) rfl (fun K hC hM hRm => ?_)
  have he := hen.1
  have hh := hen.2
  have hhs := hh sp
  refine vx_aload_n hC 0 rfl eX12_factor_0 ?_
  refine vx_gi hC 7 (ot_31 hO) lf_X12_67 rfl eX12_factor_1 ?_
  refine vx_eqi h7 ?_
  refine vx_if_eq hC (tgt := 8) (by omega) (by decide) eX12_factor_4 (fun c1 => ?_) (fun c1 => absurd c1 (by omega))
  refine vx_aload_n hC 0 rfl eX12_factor_8 ?_
  refine vx_callV_i hC (kX12_hereP G d _ _ _ _ _ hO h u ac en sp 0 5 L h32 h4 h5 h6 h7 h8 hac hen (by omega) (by omega) (by omega)) ly_X12_71 (ot_31 hO) rfl rfl rfl hRm (by omega) (Nat.le_of_ble_eq_true rfl) rfl eX12_factor_9 (fun x2 n9 t9 a9 b9 c9 hx2 => ?_)
  obtain ⟨hx2, rfl, rfl, rfl, rfl, rfl⟩ := hx2
  have hrx2 := hh sp
  refine vx_istore_n hC (lv1 := [(1, xa_i x2), (0, xa_r 31)]) (by decide) rfl eX12_factor_12 ?_
  refine vx_iload_n hC 0 rfl eX12_factor_13 ?_
  refine vx_bipush hC (by decide) eX12_factor_14 ?_
  refine vx_icmp_eq hC (tgt := 25) (by omega) (by decide) eX12_factor_16 (fun c3 => ?_) (fun c3 => ?_)
  · refine vx_aload_n hC 1 rfl eX12_factor_25 ?_
    refine vx_aload_n hC 1 rfl eX12_factor_26 ?_
    refine vx_gi hC 8 (ot_31 hO) lf_X12_91 rfl eX12_factor_27 ?_
    refine vx_eqi h8 ?_
    refine vx_iconst hC eX12_factor_30 ?_
    refine vx_icmp_ne hC (tgt := 38) (by omega) (by decide) eX12_factor_31 (fun c4 => absurd c4 (by omega)) (fun c4 => ?_)
    refine vx_iconst hC eX12_factor_34 ?_
    refine vx_goto hC (tgt := 39) (by decide) eX12_factor_35 ?_
    refine vx_pi hC 7 (ot_31 hO) lp_X12_67 rfl (Or.inl rfl) (Or.inr ⟨rfl, by omega⟩) eX12_factor_39 ?_
    refine vx_vi (fun v5 hv5 => ?_)
    have hv5_32 : v5 32 = pput u ac L := by rw [hv5, xu_c _ _ _ _ (by decide), h32]
    have hv5_31_4 : v5 31 4 = ac := by rw [hv5, xu_k, fu_n _ _ _ (by decide), h4]
    have hv5_31_5 : v5 31 5 = sp := by rw [hv5, xu_k, fu_n _ _ _ (by decide), h5]
    have hv5_31_6 : v5 31 6 = en := by rw [hv5, xu_k, fu_n _ _ _ (by decide), h6]
    have hv5_31_7 : v5 31 7 = 1 := by rw [hv5, xu_k, fu_s]
    have hv5_31_8 : v5 31 8 = 5 := by rw [hv5, xu_k, fu_n _ _ _ (by decide), h8]
    have hv5_31_3 : v5 31 3 = vi 31 3 := by rw [hv5, xu_k, fu_n _ _ _ (by decide)]
    have hv5_31_22 : v5 31 22 = vi 31 22 := by rw [hv5, xu_k, fu_n _ _ _ (by decide)]
    have frv5 : ∀ k : Nat, (¬ k = 31 ∧ ¬ k = 32) → v5 k = vi k := fun k hk => by rw [hv5, xu_c _ _ _ _ (by omega)]
    refine vx_aload_n hC 1 rfl eX12_factor_42 ?_
    refine vx_dup hC rfl eX12_factor_43 ?_
    refine vx_gi hC 8 (ot_31 hO) lf_X12_91 rfl eX12_factor_44 ?_
    refine vx_eqi hv5_31_8 ?_
    refine vx_iconst hC eX12_factor_47 ?_
    refine vx_iadd hC eX12_factor_48 ?_
    refine vx_pi hC 8 (ot_31 hO) lp_X12_91 rfl (Or.inl rfl) (Or.inl rfl) eX12_factor_49 ?_
    refine vx_vi (fun v6 hv6 => ?_)
    have hv6_32 : v6 32 = pput u ac L := by rw [hv6, xu_c _ _ _ _ (by decide), hv5_32]
    have hv6_31_4 : v6 31 4 = ac := by rw [hv6, xu_k, fu_n _ _ _ (by decide), hv5_31_4]
    have hv6_31_5 : v6 31 5 = sp := by rw [hv6, xu_k, fu_n _ _ _ (by decide), hv5_31_5]
    have hv6_31_6 : v6 31 6 = en := by rw [hv6, xu_k, fu_n _ _ _ (by decide), hv5_31_6]
    have hv6_31_7 : v6 31 7 = 1 := by rw [hv6, xu_k, fu_n _ _ _ (by decide), hv5_31_7]
    have hv6_31_8 : v6 31 8 = (5 + 1) := by rw [hv6, xu_k, fu_s]
    have hv6_31_3 : v6 31 3 = vi 31 3 := by rw [hv6, xu_k, fu_n _ _ _ (by decide), hv5_31_3]
    have hv6_31_22 : v6 31 22 = vi 31 22 := by rw [hv6, xu_k, fu_n _ _ _ (by decide), hv5_31_22]
    have frv6 : ∀ k : Nat, (¬ k = 31 ∧ ¬ k = 32) → v6 k = vi k := fun k hk => by rw [hv6, xu_c _ _ _ _ (by omega)]; exact frv5 k hk
    refine vx_aload_n hC 1 rfl eX12_factor_52 ?_
    refine vx_dup hC rfl eX12_factor_53 ?_
    refine vx_gi hC 5 (ot_31 hO) lf_X12_61 rfl eX12_factor_54 ?_
    refine vx_eqi hv6_31_5 ?_
    refine vx_aload_n hC 1 rfl eX12_factor_57 ?_
    refine vx_gi hC 7 (ot_31 hO) lf_X12_67 rfl eX12_factor_58 ?_
    refine vx_eqi hv6_31_7 ?_
    refine vx_if_eq hC (tgt := 68) (by omega) (by decide) eX12_factor_61 (fun c7 => absurd c7 (by omega)) (fun c7 => ?_)
    refine vx_iconst hC eX12_factor_64 ?_
    refine vx_goto hC (tgt := 69) (by decide) eX12_factor_65 ?_
    refine vx_iadd hC eX12_factor_69 ?_
    refine vx_pi hC 5 (ot_31 hO) lp_X12_61 rfl (Or.inl rfl) (Or.inl rfl) eX12_factor_70 ?_
    refine vx_vi (fun v8 hv8 => ?_)
    have hv8_32 : v8 32 = pput u ac L := by rw [hv8, xu_c _ _ _ _ (by decide), hv6_32]
    have hv8_31_4 : v8 31 4 = ac := by rw [hv8, xu_k, fu_n _ _ _ (by decide), hv6_31_4]
    have hv8_31_5 : v8 31 5 = (sp + 0) := by rw [hv8, xu_k, fu_s]
    have hv8_31_6 : v8 31 6 = en := by rw [hv8, xu_k, fu_n _ _ _ (by decide), hv6_31_6]
    have hv8_31_7 : v8 31 7 = 1 := by rw [hv8, xu_k, fu_n _ _ _ (by decide), hv6_31_7]
    have hv8_31_8 : v8 31 8 = (5 + 1) := by rw [hv8, xu_k, fu_n _ _ _ (by decide), hv6_31_8]
    have hv8_31_3 : v8 31 3 = vi 31 3 := by rw [hv8, xu_k, fu_n _ _ _ (by decide), hv6_31_3]
    have hv8_31_22 : v8 31 22 = vi 31 22 := by rw [hv8, xu_k, fu_n _ _ _ (by decide), hv6_31_22]
    have frv8 : ∀ k : Nat, (¬ k = 31 ∧ ¬ k = 32) → v8 k = vi k := fun k hk => by rw [hv8, xu_c _ _ _ _ (by omega)]; exact frv6 k hk
    refine vx_iload_n hC 0 rfl eX12_factor_73 ?_
    refine vx_bipush hC (by decide) eX12_factor_74 ?_
    refine vx_icmp_ne hC (tgt := 91) (by omega) (by decide) eX12_factor_76 (fun c9 => absurd c9 (by omega)) (fun c9 => ?_)
    refine vx_aload_n hC 1 rfl eX12_factor_79 ?_
    refine vx_callV_v hC (kX12_factorW G d _ _ _ _ _ hO hv8_31_7) ly_X12_94 (ot_31 hO) rfl rfl rfl hRm (by omega) (Nat.le_of_ble_eq_true rfl) rfl eX12_factor_80 (fun n9 t9 a9 b9 c9 hx10 => ?_)
    obtain ⟨rfl, rfl, rfl, rfl, rfl⟩ := hx10
    refine vx_aload_n hC 1 rfl eX12_factor_83 ?_
    refine vx_iconst hC eX12_factor_84 ?_
    refine vx_callV_v hC (kX12_emits G d _ _ _ _ _ hO h u ac en (sp + 0) 1 (5 + 1) L hv8_32 hv8_31_4 hv8_31_5 hv8_31_6 hv8_31_7 hv8_31_8 hac hen (by omega) (by omega) (by omega) (-1)) ly_X12_97 (ot_31 hO) rfl rfl rfl hRm (by omega) (Nat.le_of_ble_eq_true rfl) rfl eX12_factor_85 (fun ng12 tg12 ag12 bg12 cg12 hg12 => ?_)
    obtain ⟨qg12_0, qg12_1, qg12_2, qg12_3, qg12_4, qg12_5, qg12_6, qg12_7, rfl, rfl, rfl, rfl, frg12⟩ := hg12
    have qg12_0b : ag12 32 = pput u ac pE 1 L (-1) := by first | exact qg12_0 | rw [qg12_0, hv8_32] | (rw [qg12_0]; exact hv8_32)
    have qg12_1b : ag12 31 4 = ac := by first | exact qg12_1 | rw [qg12_1, hv8_31_4] | (rw [qg12_1]; exact hv8_31_4)
    have qg12_2b : ag12 31 5 = (sp + 0) := by first | exact qg12_2 | rw [qg12_2, hv8_31_5] | (rw [qg12_2]; exact hv8_31_5)
    have qg12_3b : ag12 31 6 = en := by first | exact qg12_3 | rw [qg12_3, hv8_31_6] | (rw [qg12_3]; exact hv8_31_6)
    have qg12_4b : ag12 31 7 = 1 := by first | exact qg12_4 | rw [qg12_4, hv8_31_7] | (rw [qg12_4]; exact hv8_31_7)
    have qg12_5b : ag12 31 8 = (5 + 1) := by first | exact qg12_5 | rw [qg12_5, hv8_31_8] | (rw [qg12_5]; exact hv8_31_8)
    have qg12_6b : ag12 31 3 = vi 31 3 := by first | exact qg12_6 | rw [qg12_6, hv8_31_3] | (rw [qg12_6]; exact hv8_31_3)
    have qg12_7b : ag12 31 22 = vi 31 22 := by first | exact qg12_7 | rw [qg12_7, hv8_31_22] | (rw [qg12_7]; exact hv8_31_22)
    have frvig12 : ∀ k : Nat, (¬ k = 31 ∧ ¬ k = 32) → ag12 k = vi k := fun k hk => (frg12 k (by omega)).trans (frv8 k hk)
    obtain ⟨L13, hL13⟩ : ∃ z : List Int, z = pE 1 L (-1) := ⟨_, rfl⟩
    have eL13 : ag12 32 = pput u ac L13 := by rw [hL13]; exact qg12_0b
    have hfL13 := pE_len 1 L (-1)
    rw [← hL13] at hfL13
    refine vx_goto hC (tgt := 101) (by decide) eX12_factor_88 ?_
    refine vx_aload_n hC 1 rfl eX12_factor_101 ?_
    refine vx_dup hC rfl eX12_factor_102 ?_
    refine vx_gi hC 8 (ot_31 hO) lf_X12_91 rfl eX12_factor_103 ?_
    refine vx_eqi qg12_5b ?_
    refine vx_iconst hC eX12_factor_106 ?_
    refine vx_isub hC eX12_factor_107 ?_
    refine vx_top (fun x14 hx14 => ?_)
    refine vx_pi hC 8 (ot_31 hO) lp_X12_91 rfl (Or.inl rfl) (Or.inl rfl) eX12_factor_108 ?_
    refine vx_vi (fun v15 hv15 => ?_)
    have hv15_32 : v15 32 = pput u ac L13 := by rw [hv15, xu_c _ _ _ _ (by decide), eL13]
    have hv15_31_4 : v15 31 4 = ac := by rw [hv15, xu_k, fu_n _ _ _ (by decide), qg12_1b]
    have hv15_31_5 : v15 31 5 = (sp + 0) := by rw [hv15, xu_k, fu_n _ _ _ (by decide), qg12_2b]
    have hv15_31_6 : v15 31 6 = en := by rw [hv15, xu_k, fu_n _ _ _ (by decide), qg12_3b]
    have hv15_31_7 : v15 31 7 = 1 := by rw [hv15, xu_k, fu_n _ _ _ (by decide), qg12_4b]
    have hv15_31_8 : v15 31 8 = x14 := by rw [hv15, xu_k, fu_s]
    have hv15_31_3 : v15 31 3 = vi 31 3 := by rw [hv15, xu_k, fu_n _ _ _ (by decide), qg12_6b]
    have hv15_31_22 : v15 31 22 = vi 31 22 := by rw [hv15, xu_k, fu_n _ _ _ (by decide), qg12_7b]
    have frv15 : ∀ k : Nat, (¬ k = 31 ∧ ¬ k = 32) → v15 k = vi k := fun k hk => by rw [hv15, xu_c _ _ _ _ (by omega)]; exact frvig12 k hk
    have hE : pF h 0 sp = (0, sp, []) := pTest_0 (by omega)
    exact vx_vret hC hM eX12_factor_111 (⟨rfl, (by rw [hE, hv15_32]; show pput u ac L13 = pput u ac (L ++ []); rw [List.append_nil]; rw [hfL13.2.2.2 (by omega)]), hv15_31_4, (by rw [hE, hv15_31_5]; show _ = sp; omega), hv15_31_6, (by rw [hE, hv15_31_7]; show _ = 1 - (0 : Int); omega), (by rw [hv15_31_8]; omega), hv15_31_3, hv15_31_22, rfl, rfl, rfl, rfl, fun k hk => frv15 k hk⟩)
  · refine vx_iload_n hC 0 rfl eX12_factor_19 ?_
    refine vx_bipush hC (by decide) eX12_factor_20 ?_
    refine vx_icmp_ne hC (tgt := 112) (by omega) (by decide) eX12_factor_22 (fun c16 => ?_) (fun c16 => ?_)
    · refine vx_aload_n hC 1 rfl eX12_factor_112 ?_
      refine vx_ldcs hC (i := 4) (tx := "nkpgsd") (by decide) eX12_factor_113 ?_
      refine vx_callV_i hC (kX12_among G d _ _ _ _ _ hO h u ac en sp 0 5 L h32 h4 h5 h6 h7 h8 hac hen (by omega) (by omega) (by omega) 4 (by decide)) ly_X12_105 (ot_31 hO) rfl rfl rfl hRm (by omega) (Nat.le_of_ble_eq_true rfl) rfl eX12_factor_115 (fun x17 ng18 tg18 ag18 bg18 cg18 hg18 => ?_)
      obtain ⟨hx17, qg18_0, qg18_1, qg18_2, qg18_3, qg18_4, qg18_5, qg18_6, qg18_7, rfl, rfl, rfl, rfl, frg18⟩ := hg18
      have qg18_0b : ag18 32 = pput u ac L := by first | exact qg18_0 | rw [qg18_0, h32] | (rw [qg18_0]; exact h32)
      have qg18_1b : ag18 31 4 = ac := by first | exact qg18_1 | rw [qg18_1, h4] | (rw [qg18_1]; exact h4)
      have qg18_2b : ag18 31 5 = (if pA1 h sp = -1 then sp else sp + 1) := by first | exact qg18_2 | rw [qg18_2, h5] | (rw [qg18_2]; exact h5)
      have qg18_3b : ag18 31 6 = en := by first | exact qg18_3 | rw [qg18_3, h6] | (rw [qg18_3]; exact h6)
      have qg18_4b : ag18 31 7 = 0 := by first | exact qg18_4 | rw [qg18_4, h7] | (rw [qg18_4]; exact h7)
      have qg18_5b : ag18 31 8 = 5 := by first | exact qg18_5 | rw [qg18_5, h8] | (rw [qg18_5]; exact h8)
      have frvig18 : ∀ k : Nat, (¬ k = 31 ∧ ¬ k = 32) → ag18 k = vi k := fun k hk => (frg18 k (by omega))
      obtain ⟨sp19, hsp19⟩ : ∃ z : Int, z = (if pA1 h sp = -1 then sp else sp + 1) := ⟨_, rfl⟩
      have esp19 : ag18 31 5 = sp19 := by rw [hsp19]; exact qg18_2b
      have hrx17 := pA1_r h sp
      replace hx17 : x17 = pA1 h sp := hx17
      rw [← hx17] at hrx17 hsp19
      have hbx17 := hh sp
      refine vx_istore_n hC (lv1 := [(2, xa_i x17), (1, xa_i x2), (0, xa_r 31)]) (by decide) rfl eX12_factor_118 ?_
      refine vx_aload_n hC 2 rfl eX12_factor_119 ?_
      refine vx_iload_n hC 0 rfl eX12_factor_120 ?_
      refine vx_iconst hC eX12_factor_121 ?_
      refine vx_icmp_ne hC (tgt := 129) (by omega) (by decide) eX12_factor_122 (fun c20 => ?_) (fun c20 => ?_)
      · refine vx_iconst hC eX12_factor_129 ?_
        refine vx_pi hC 7 (ot_31 hO) lp_X12_67 rfl (Or.inl rfl) (Or.inr ⟨rfl, by omega⟩) eX12_factor_130 ?_
        refine vx_vi (fun v21 hv21 => ?_)
        have hv21_32 : v21 32 = pput u ac L := by rw [hv21, xu_c _ _ _ _ (by decide), qg18_0b]
        have hv21_31_4 : v21 31 4 = ac := by rw [hv21, xu_k, fu_n _ _ _ (by decide), qg18_1b]
        have hv21_31_5 : v21 31 5 = sp19 := by rw [hv21, xu_k, fu_n _ _ _ (by decide), esp19]
        have hv21_31_6 : v21 31 6 = en := by rw [hv21, xu_k, fu_n _ _ _ (by decide), qg18_3b]
        have hv21_31_7 : v21 31 7 = 0 := by rw [hv21, xu_k, fu_s]
        have hv21_31_8 : v21 31 8 = 5 := by rw [hv21, xu_k, fu_n _ _ _ (by decide), qg18_5b]
        have hv21_31_3 : v21 31 3 = vi 31 3 := by rw [hv21, xu_k, fu_n _ _ _ (by decide), qg18_6]
        have hv21_31_22 : v21 31 22 = vi 31 22 := by rw [hv21, xu_k, fu_n _ _ _ (by decide), qg18_7]
        have frv21 : ∀ k : Nat, (¬ k = 31 ∧ ¬ k = 32) → v21 k = vi k := fun k hk => by rw [hv21, xu_c _ _ _ _ (by omega)]; exact frvig18 k hk
        refine vx_aload_n hC 2 rfl eX12_factor_133 ?_
        refine vx_gi hC 7 (ot_31 hO) lf_X12_67 rfl eX12_factor_134 ?_
        refine vx_eqi hv21_31_7 ?_
        refine vx_if_eq hC (tgt := 144) (by omega) (by decide) eX12_factor_137 (fun c22 => ?_) (fun c22 => absurd c22 (by omega))
        refine vx_aload_n hC 2 rfl eX12_factor_144 ?_
        refine vx_ldcs hC (i := 5) (tx := "<=>") (by decide) eX12_factor_145 ?_
        refine vx_callV_i hC (kX12_among G d _ _ _ _ _ hO h u ac en sp19 0 5 L hv21_32 hv21_31_4 hv21_31_5 hv21_31_6 hv21_31_7 hv21_31_8 hac hen (by omega) (by omega) (by omega) 5 (by decide)) ly_X12_105 (ot_31 hO) rfl rfl rfl hRm (by omega) (Nat.le_of_ble_eq_true rfl) rfl eX12_factor_147 (fun x23 ng24 tg24 ag24 bg24 cg24 hg24 => ?_)
        obtain ⟨hx23, qg24_0, qg24_1, qg24_2, qg24_3, qg24_4, qg24_5, qg24_6, qg24_7, rfl, rfl, rfl, rfl, frg24⟩ := hg24
        have qg24_0b : ag24 32 = pput u ac L := by first | exact qg24_0 | rw [qg24_0, hv21_32] | (rw [qg24_0]; exact hv21_32)
        have qg24_1b : ag24 31 4 = ac := by first | exact qg24_1 | rw [qg24_1, hv21_31_4] | (rw [qg24_1]; exact hv21_31_4)
        have qg24_2b : ag24 31 5 = (if pA2 h sp19 = -1 then sp19 else sp19 + 1) := by first | exact qg24_2 | rw [qg24_2, hv21_31_5] | (rw [qg24_2]; exact hv21_31_5)
        have qg24_3b : ag24 31 6 = en := by first | exact qg24_3 | rw [qg24_3, hv21_31_6] | (rw [qg24_3]; exact hv21_31_6)
        have qg24_4b : ag24 31 7 = 0 := by first | exact qg24_4 | rw [qg24_4, hv21_31_7] | (rw [qg24_4]; exact hv21_31_7)
        have qg24_5b : ag24 31 8 = 5 := by first | exact qg24_5 | rw [qg24_5, hv21_31_8] | (rw [qg24_5]; exact hv21_31_8)
        have qg24_6b : ag24 31 3 = vi 31 3 := by first | exact qg24_6 | rw [qg24_6, hv21_31_3] | (rw [qg24_6]; exact hv21_31_3)
        have qg24_7b : ag24 31 22 = vi 31 22 := by first | exact qg24_7 | rw [qg24_7, hv21_31_22] | (rw [qg24_7]; exact hv21_31_22)
        have frvig24 : ∀ k : Nat, (¬ k = 31 ∧ ¬ k = 32) → ag24 k = vi k := fun k hk => (frg24 k (by omega)).trans (frv21 k hk)
        obtain ⟨sp25, hsp25⟩ : ∃ z : Int, z = (if pA2 h sp19 = -1 then sp19 else sp19 + 1) := ⟨_, rfl⟩
        have esp25 : ag24 31 5 = sp25 := by rw [hsp25]; exact qg24_2b
        have hrx23 := pA2_r h sp19
        replace hx23 : x23 = pA2 h sp19 := hx23
        rw [← hx23] at hrx23 hsp25
        have hbx23 := hh sp19
        refine vx_istore_n hC (lv1 := [(3, xa_i x23), (2, xa_i x17), (1, xa_i x2), (0, xa_r 31)]) (by decide) rfl eX12_factor_150 ?_
        refine vx_aload_n hC 3 rfl eX12_factor_151 ?_
        refine vx_aload_n hC 3 rfl eX12_factor_152 ?_
        refine vx_gi hC 7 (ot_31 hO) lf_X12_67 rfl eX12_factor_153 ?_
        refine vx_eqi qg24_4b ?_
        refine vx_if_ne hC (tgt := 164) (by omega) (by decide) eX12_factor_156 (fun c26 => absurd c26 (by omega)) (fun c26 => ?_)
        refine vx_iload_n hC 0 rfl eX12_factor_159 ?_
        refine vx_iconst hC eX12_factor_160 ?_
        refine vx_icmp_ne hC (tgt := 168) (by omega) (by decide) eX12_factor_161 (fun c27 => ?_) (fun c27 => ?_)
        · refine vx_iconst hC eX12_factor_168 ?_
          refine vx_pi hC 7 (ot_31 hO) lp_X12_67 rfl (Or.inl rfl) (Or.inr ⟨rfl, by omega⟩) eX12_factor_169 ?_
          refine vx_vi (fun v28 hv28 => ?_)
          have hv28_32 : v28 32 = pput u ac L := by rw [hv28, xu_c _ _ _ _ (by decide), qg24_0b]
          have hv28_31_4 : v28 31 4 = ac := by rw [hv28, xu_k, fu_n _ _ _ (by decide), qg24_1b]
          have hv28_31_5 : v28 31 5 = sp25 := by rw [hv28, xu_k, fu_n _ _ _ (by decide), esp25]
          have hv28_31_6 : v28 31 6 = en := by rw [hv28, xu_k, fu_n _ _ _ (by decide), qg24_3b]
          have hv28_31_7 : v28 31 7 = 0 := by rw [hv28, xu_k, fu_s]
          have hv28_31_8 : v28 31 8 = 5 := by rw [hv28, xu_k, fu_n _ _ _ (by decide), qg24_5b]
          have hv28_31_3 : v28 31 3 = vi 31 3 := by rw [hv28, xu_k, fu_n _ _ _ (by decide), qg24_6b]
          have hv28_31_22 : v28 31 22 = vi 31 22 := by rw [hv28, xu_k, fu_n _ _ _ (by decide), qg24_7b]
          have frv28 : ∀ k : Nat, (¬ k = 31 ∧ ¬ k = 32) → v28 k = vi k := fun k hk => by rw [hv28, xu_c _ _ _ _ (by omega)]; exact frvig24 k hk
          refine vx_aload_n hC 3 rfl eX12_factor_172 ?_
          refine vx_callV_i hC (kX12_figures G d _ _ _ _ _ hO h u ac en sp25 0 5 L hv28_32 hv28_31_4 hv28_31_5 hv28_31_6 hv28_31_7 hv28_31_8 hac hen (by omega) (by omega) (by omega)) ly_X12_111 (ot_31 hO) rfl rfl rfl hRm (by omega) (Nat.le_of_ble_eq_true rfl) rfl eX12_factor_173 (fun x29 ng30 tg30 ag30 bg30 cg30 hg30 => ?_)
          obtain ⟨hx29, qg30_0, qg30_1, qg30_2, qg30_3, qg30_4, qg30_5, qg30_6, qg30_7, rfl, rfl, rfl, rfl, frg30⟩ := hg30
          have qg30_0b : ag30 32 = pput u ac L := by first | exact qg30_0 | rw [qg30_0, hv28_32] | (rw [qg30_0]; exact hv28_32)
          have qg30_1b : ag30 31 4 = ac := by first | exact qg30_1 | rw [qg30_1, hv28_31_4] | (rw [qg30_1]; exact hv28_31_4)
          have qg30_2b : ag30 31 5 = pNs h 0 sp25 := by first | exact qg30_2 | rw [qg30_2, hv28_31_5] | (rw [qg30_2]; exact hv28_31_5)
          have qg30_3b : ag30 31 6 = en := by first | exact qg30_3 | rw [qg30_3, hv28_31_6] | (rw [qg30_3]; exact hv28_31_6)
          have qg30_4b : ag30 31 7 = pNw h 0 sp25 := by first | exact qg30_4 | rw [qg30_4, hv28_31_7] | (rw [qg30_4]; exact hv28_31_7)
          have qg30_5b : ag30 31 8 = 5 := by first | exact qg30_5 | rw [qg30_5, hv28_31_8] | (rw [qg30_5]; exact hv28_31_8)
          have qg30_6b : ag30 31 3 = vi 31 3 := by first | exact qg30_6 | rw [qg30_6, hv28_31_3] | (rw [qg30_6]; exact hv28_31_3)
          have qg30_7b : ag30 31 22 = vi 31 22 := by first | exact qg30_7 | rw [qg30_7, hv28_31_22] | (rw [qg30_7]; exact hv28_31_22)
          have frvig30 : ∀ k : Nat, (¬ k = 31 ∧ ¬ k = 32) → ag30 k = vi k := fun k hk => (frg30 k (by omega)).trans (frv28 k hk)
          obtain ⟨sp31, hsp31⟩ : ∃ z : Int, z = pNs h 0 sp25 := ⟨_, rfl⟩
          have esp31 : ag30 31 5 = sp31 := by rw [hsp31]; exact qg30_2b
          obtain ⟨w32, hw32⟩ : ∃ z : Int, z = pNw h 0 sp25 := ⟨_, rfl⟩
          have ew32 : ag30 31 7 = w32 := by rw [hw32]; exact qg30_4b
          have hfsp31 := pN_r (w := 0) hen (sp := sp25) (by omega)
          rw [← hsp31, ← hw32, ← hx29] at hfsp31
          refine vx_istore hC (lv1 := [(4, xa_i x29), (3, xa_i x23), (2, xa_i x17), (1, xa_i x2), (0, xa_r 31)]) (by decide) rfl eX12_factor_176 ?_
          refine vx_aload_n hC 4 rfl eX12_factor_178 ?_
          refine vx_iload_n hC 2 rfl eX12_factor_179 ?_
          refine vx_bipush hC (by decide) eX12_factor_180 ?_
          refine vx_iload_n hC 1 rfl eX12_factor_182 ?_
          refine vx_imul hC eX12_factor_183 ?_
          refine vx_iadd hC eX12_factor_184 ?_
          refine vx_bipush hC (by decide) eX12_factor_185 ?_
          refine vx_iload hC 0 rfl eX12_factor_187 ?_
          refine vx_imul hC eX12_factor_189 ?_
          refine vx_iadd hC eX12_factor_190 ?_
          refine vx_callV_v hC (kX12_emits G d _ _ _ _ _ hO h u ac en sp31 w32 5 L qg30_0b qg30_1b esp31 qg30_3b ew32 qg30_5b hac hen (by omega) (by omega) (by omega) (x17 + 8 * x23 + 32 * x29)) ly_X12_97 (ot_31 hO) rfl rfl rfl hRm (by omega) (Nat.le_of_ble_eq_true rfl) rfl eX12_factor_191 (fun ng34 tg34 ag34 bg34 cg34 hg34 => ?_)
          obtain ⟨qg34_0, qg34_1, qg34_2, qg34_3, qg34_4, qg34_5, qg34_6, qg34_7, rfl, rfl, rfl, rfl, frg34⟩ := hg34
          have qg34_0b : ag34 32 = pput u ac pE w32 L (x17 + 8 * x23 + 32 * x29) := by first | exact qg34_0 | rw [qg34_0, qg30_0b] | (rw [qg34_0]; exact qg30_0b)
          have qg34_1b : ag34 31 4 = ac := by first | exact qg34_1 | rw [qg34_1, qg30_1b] | (rw [qg34_1]; exact qg30_1b)
          have qg34_2b : ag34 31 5 = sp31 := by first | exact qg34_2 | rw [qg34_2, esp31] | (rw [qg34_2]; exact esp31)
          have qg34_3b : ag34 31 6 = en := by first | exact qg34_3 | rw [qg34_3, qg30_3b] | (rw [qg34_3]; exact qg30_3b)
          have qg34_4b : ag34 31 7 = w32 := by first | exact qg34_4 | rw [qg34_4, ew32] | (rw [qg34_4]; exact ew32)
          have qg34_5b : ag34 31 8 = 5 := by first | exact qg34_5 | rw [qg34_5, qg30_5b] | (rw [qg34_5]; exact qg30_5b)
          have qg34_6b : ag34 31 3 = vi 31 3 := by first | exact qg34_6 | rw [qg34_6, qg30_6b] | (rw [qg34_6]; exact qg30_6b)
          have qg34_7b : ag34 31 22 = vi 31 22 := by first | exact qg34_7 | rw [qg34_7, qg30_7b] | (rw [qg34_7]; exact qg30_7b)
          have frvig34 : ∀ k : Nat, (¬ k = 31 ∧ ¬ k = 32) → ag34 k = vi k := fun k hk => (frg34 k (by omega)).trans (frvig30 k hk)
          obtain ⟨L35, hL35⟩ : ∃ z : List Int, z = pE w32 L (x17 + 8 * x23 + 32 * x29) := ⟨_, rfl⟩
          have eL35 : ag34 32 = pput u ac L35 := by rw [hL35]; exact qg34_0b
          have hfL35 := pE_len w32 L (x17 + 8 * x23 + 32 * x29)
          rw [← hL35] at hfL35
          have hE0 : pF h 0 sp = pTest h sp := pF_tst (by omega) (by omega)
          have hs1 : sp19 = sp + 1 := by omega
          have hs2 : sp25 = sp + 2 := by omega
          have hE := hE0.trans (pTest_3 hs1 hs2 hx17 hx23 (by omega) (by omega))
          exact vx_vret hC hM eX12_factor_194 (⟨rfl, (by rw [hE, eL35]; show pput u ac L35 = pput u ac (L ++ pE (pNw h 0 sp25) [] (x17 + 8 * x23 + 32 * pNv h 0 sp25)); rw [hL35, ← pE_nil, hw32, hx29]), qg34_1b, (by rw [hE, qg34_2b, hsp31]), qg34_3b, (by rw [hE, qg34_4b]; show _ = 1 - (1 - pNw h 0 sp25); rw [hw32]; omega), qg34_5b, qg34_6b, qg34_7b, rfl, rfl, rfl, rfl, fun k hk => frvig34 k hk⟩)
        · refine vx_iconst hC eX12_factor_164 ?_
          refine vx_goto hC (tgt := 169) (by decide) eX12_factor_165 ?_
          refine vx_pi hC 7 (ot_31 hO) lp_X12_67 rfl (Or.inl rfl) (Or.inr ⟨rfl, by omega⟩) eX12_factor_169 ?_
          refine vx_vi (fun v36 hv36 => ?_)
          have hv36_32 : v36 32 = pput u ac L := by rw [hv36, xu_c _ _ _ _ (by decide), qg24_0b]
          have hv36_31_4 : v36 31 4 = ac := by rw [hv36, xu_k, fu_n _ _ _ (by decide), qg24_1b]
          have hv36_31_5 : v36 31 5 = sp25 := by rw [hv36, xu_k, fu_n _ _ _ (by decide), esp25]
          have hv36_31_6 : v36 31 6 = en := by rw [hv36, xu_k, fu_n _ _ _ (by decide), qg24_3b]
          have hv36_31_7 : v36 31 7 = 1 := by rw [hv36, xu_k, fu_s]
          have hv36_31_8 : v36 31 8 = 5 := by rw [hv36, xu_k, fu_n _ _ _ (by decide), qg24_5b]
          have hv36_31_3 : v36 31 3 = vi 31 3 := by rw [hv36, xu_k, fu_n _ _ _ (by decide), qg24_6b]
          have hv36_31_22 : v36 31 22 = vi 31 22 := by rw [hv36, xu_k, fu_n _ _ _ (by decide), qg24_7b]
          have frv36 : ∀ k : Nat, (¬ k = 31 ∧ ¬ k = 32) → v36 k = vi k := fun k hk => by rw [hv36, xu_c _ _ _ _ (by omega)]; exact frvig24 k hk
          refine vx_aload_n hC 3 rfl eX12_factor_172 ?_
          refine vx_callV_i hC (kX12_figures G d _ _ _ _ _ hO h u ac en sp25 1 5 L hv36_32 hv36_31_4 hv36_31_5 hv36_31_6 hv36_31_7 hv36_31_8 hac hen (by omega) (by omega) (by omega)) ly_X12_111 (ot_31 hO) rfl rfl rfl hRm (by omega) (Nat.le_of_ble_eq_true rfl) rfl eX12_factor_173 (fun x37 ng38 tg38 ag38 bg38 cg38 hg38 => ?_)
          obtain ⟨hx37, qg38_0, qg38_1, qg38_2, qg38_3, qg38_4, qg38_5, qg38_6, qg38_7, rfl, rfl, rfl, rfl, frg38⟩ := hg38
          have qg38_0b : ag38 32 = pput u ac L := by first | exact qg38_0 | rw [qg38_0, hv36_32] | (rw [qg38_0]; exact hv36_32)
          have qg38_1b : ag38 31 4 = ac := by first | exact qg38_1 | rw [qg38_1, hv36_31_4] | (rw [qg38_1]; exact hv36_31_4)
          have qg38_2b : ag38 31 5 = pNs h 1 sp25 := by first | exact qg38_2 | rw [qg38_2, hv36_31_5] | (rw [qg38_2]; exact hv36_31_5)
          have qg38_3b : ag38 31 6 = en := by first | exact qg38_3 | rw [qg38_3, hv36_31_6] | (rw [qg38_3]; exact hv36_31_6)
          have qg38_4b : ag38 31 7 = pNw h 1 sp25 := by first | exact qg38_4 | rw [qg38_4, hv36_31_7] | (rw [qg38_4]; exact hv36_31_7)
          have qg38_5b : ag38 31 8 = 5 := by first | exact qg38_5 | rw [qg38_5, hv36_31_8] | (rw [qg38_5]; exact hv36_31_8)
          have qg38_6b : ag38 31 3 = vi 31 3 := by first | exact qg38_6 | rw [qg38_6, hv36_31_3] | (rw [qg38_6]; exact hv36_31_3)
          have qg38_7b : ag38 31 22 = vi 31 22 := by first | exact qg38_7 | rw [qg38_7, hv36_31_22] | (rw [qg38_7]; exact hv36_31_22)
          have frvig38 : ∀ k : Nat, (¬ k = 31 ∧ ¬ k = 32) → ag38 k = vi k := fun k hk => (frg38 k (by omega)).trans (frv36 k hk)
          obtain ⟨sp39, hsp39⟩ : ∃ z : Int, z = pNs h 1 sp25 := ⟨_, rfl⟩
          have esp39 : ag38 31 5 = sp39 := by rw [hsp39]; exact qg38_2b
          obtain ⟨w40, hw40⟩ : ∃ z : Int, z = pNw h 1 sp25 := ⟨_, rfl⟩
          have ew40 : ag38 31 7 = w40 := by rw [hw40]; exact qg38_4b
          have hfsp39 := pN_r (w := 1) hen (sp := sp25) (by omega)
          rw [← hsp39, ← hw40, ← hx37] at hfsp39
          refine vx_istore hC (lv1 := [(4, xa_i x37), (3, xa_i x23), (2, xa_i x17), (1, xa_i x2), (0, xa_r 31)]) (by decide) rfl eX12_factor_176 ?_
          refine vx_aload_n hC 4 rfl eX12_factor_178 ?_
          refine vx_iload_n hC 2 rfl eX12_factor_179 ?_
          refine vx_bipush hC (by decide) eX12_factor_180 ?_
          refine vx_iload_n hC 1 rfl eX12_factor_182 ?_
          refine vx_imul hC eX12_factor_183 ?_
          refine vx_iadd hC eX12_factor_184 ?_
          refine vx_bipush hC (by decide) eX12_factor_185 ?_
          refine vx_iload hC 0 rfl eX12_factor_187 ?_
          refine vx_imul hC eX12_factor_189 ?_
          refine vx_iadd hC eX12_factor_190 ?_
          refine vx_callV_v hC (kX12_emits G d _ _ _ _ _ hO h u ac en sp39 w40 5 L qg38_0b qg38_1b esp39 qg38_3b ew40 qg38_5b hac hen (by omega) (by omega) (by omega) (x17 + 8 * x23 + 32 * x37)) ly_X12_97 (ot_31 hO) rfl rfl rfl hRm (by omega) (Nat.le_of_ble_eq_true rfl) rfl eX12_factor_191 (fun ng42 tg42 ag42 bg42 cg42 hg42 => ?_)
          obtain ⟨qg42_0, qg42_1, qg42_2, qg42_3, qg42_4, qg42_5, qg42_6, qg42_7, rfl, rfl, rfl, rfl, frg42⟩ := hg42
          have qg42_0b : ag42 32 = pput u ac pE w40 L (x17 + 8 * x23 + 32 * x37) := by first | exact qg42_0 | rw [qg42_0, qg38_0b] | (rw [qg42_0]; exact qg38_0b)
          have qg42_1b : ag42 31 4 = ac := by first | exact qg42_1 | rw [qg42_1, qg38_1b] | (rw [qg42_1]; exact qg38_1b)
          have qg42_2b : ag42 31 5 = sp39 := by first | exact qg42_2 | rw [qg42_2, esp39] | (rw [qg42_2]; exact esp39)
          have qg42_3b : ag42 31 6 = en := by first | exact qg42_3 | rw [qg42_3, qg38_3b] | (rw [qg42_3]; exact qg38_3b)
          have qg42_4b : ag42 31 7 = w40 := by first | exact qg42_4 | rw [qg42_4, ew40] | (rw [qg42_4]; exact ew40)
          have qg42_5b : ag42 31 8 = 5 := by first | exact qg42_5 | rw [qg42_5, qg38_5b] | (rw [qg42_5]; exact qg38_5b)
          have qg42_6b : ag42 31 3 = vi 31 3 := by first | exact qg42_6 | rw [qg42_6, qg38_6b] | (rw [qg42_6]; exact qg38_6b)
          have qg42_7b : ag42 31 22 = vi 31 22 := by first | exact qg42_7 | rw [qg42_7, qg38_7b] | (rw [qg42_7]; exact qg38_7b)
          have frvig42 : ∀ k : Nat, (¬ k = 31 ∧ ¬ k = 32) → ag42 k = vi k := fun k hk => (frg42 k (by omega)).trans (frvig38 k hk)
          obtain ⟨L43, hL43⟩ : ∃ z : List Int, z = pE w40 L (x17 + 8 * x23 + 32 * x37) := ⟨_, rfl⟩
          have eL43 : ag42 32 = pput u ac L43 := by rw [hL43]; exact qg42_0b
          have hfL43 := pE_len w40 L (x17 + 8 * x23 + 32 * x37)
          rw [← hL43] at hfL43
          have hE0 : pF h 0 sp = pTest h sp := pF_tst (by omega) (by omega)
          have hs1 : sp19 = sp + 1 := by omega
          have hE := hE0.trans (pTest_2 hs1 (by omega) (by omega))
          exact vx_vret hC hM eX12_factor_194 (⟨rfl, (by rw [hE, eL43]; show pput u ac L43 = pput u ac (L ++ []); rw [List.append_nil]; rw [hfL43.2.2.2 (by omega)]), qg42_1b, (by rw [hE, qg42_2b]; show _ = sp19; omega), qg42_3b, (by rw [hE, qg42_4b]; show _ = 1 - (0 : Int); omega), qg42_5b, qg42_6b, qg42_7b, rfl, rfl, rfl, rfl, fun k hk => frvig42 k hk⟩)
      · refine vx_iconst hC eX12_factor_125 ?_
        refine vx_goto hC (tgt := 130) (by decide) eX12_factor_126 ?_
        refine vx_pi hC 7 (ot_31 hO) lp_X12_67 rfl (Or.inl rfl) (Or.inr ⟨rfl, by omega⟩) eX12_factor_130 ?_
        refine vx_vi (fun v44 hv44 => ?_)
        have hv44_32 : v44 32 = pput u ac L := by rw [hv44, xu_c _ _ _ _ (by decide), qg18_0b]
        have hv44_31_4 : v44 31 4 = ac := by rw [hv44, xu_k, fu_n _ _ _ (by decide), qg18_1b]
        have hv44_31_5 : v44 31 5 = sp19 := by rw [hv44, xu_k, fu_n _ _ _ (by decide), esp19]
        have hv44_31_6 : v44 31 6 = en := by rw [hv44, xu_k, fu_n _ _ _ (by decide), qg18_3b]
        have hv44_31_7 : v44 31 7 = 1 := by rw [hv44, xu_k, fu_s]
        have hv44_31_8 : v44 31 8 = 5 := by rw [hv44, xu_k, fu_n _ _ _ (by decide), qg18_5b]
        have hv44_31_3 : v44 31 3 = vi 31 3 := by rw [hv44, xu_k, fu_n _ _ _ (by decide), qg18_6]
        have hv44_31_22 : v44 31 22 = vi 31 22 := by rw [hv44, xu_k, fu_n _ _ _ (by decide), qg18_7]
        have frv44 : ∀ k : Nat, (¬ k = 31 ∧ ¬ k = 32) → v44 k = vi k := fun k hk => by rw [hv44, xu_c _ _ _ _ (by omega)]; exact frvig18 k hk
        refine vx_aload_n hC 2 rfl eX12_factor_133 ?_
        refine vx_gi hC 7 (ot_31 hO) lf_X12_67 rfl eX12_factor_134 ?_
        refine vx_eqi hv44_31_7 ?_
        refine vx_if_eq hC (tgt := 144) (by omega) (by decide) eX12_factor_137 (fun c45 => absurd c45 (by omega)) (fun c45 => ?_)
        refine vx_iconst hC eX12_factor_140 ?_
        refine vx_goto hC (tgt := 150) (by decide) eX12_factor_141 ?_
        refine vx_istore_n hC (lv1 := [(3, xa_i 0), (2, xa_i x17), (1, xa_i x2), (0, xa_r 31)]) (by decide) rfl eX12_factor_150 ?_
        refine vx_aload_n hC 3 rfl eX12_factor_151 ?_
        refine vx_aload_n hC 3 rfl eX12_factor_152 ?_
        refine vx_gi hC 7 (ot_31 hO) lf_X12_67 rfl eX12_factor_153 ?_
        refine vx_eqi hv44_31_7 ?_
        refine vx_if_ne hC (tgt := 164) (by omega) (by decide) eX12_factor_156 (fun c46 => ?_) (fun c46 => absurd c46 (by omega))
        refine vx_iconst hC eX12_factor_164 ?_
        refine vx_goto hC (tgt := 169) (by decide) eX12_factor_165 ?_
        refine vx_pi hC 7 (ot_31 hO) lp_X12_67 rfl (Or.inl rfl) (Or.inr ⟨rfl, by omega⟩) eX12_factor_169 ?_
        refine vx_vi (fun v47 hv47 => ?_)
        have hv47_32 : v47 32 = pput u ac L := by rw [hv47, xu_c _ _ _ _ (by decide), hv44_32]
        have hv47_31_4 : v47 31 4 = ac := by rw [hv47, xu_k, fu_n _ _ _ (by decide), hv44_31_4]
        have hv47_31_5 : v47 31 5 = sp19 := by rw [hv47, xu_k, fu_n _ _ _ (by decide), hv44_31_5]
        have hv47_31_6 : v47 31 6 = en := by rw [hv47, xu_k, fu_n _ _ _ (by decide), hv44_31_6]
        have hv47_31_7 : v47 31 7 = 1 := by rw [hv47, xu_k, fu_s]
        have hv47_31_8 : v47 31 8 = 5 := by rw [hv47, xu_k, fu_n _ _ _ (by decide), hv44_31_8]
        have hv47_31_3 : v47 31 3 = vi 31 3 := by rw [hv47, xu_k, fu_n _ _ _ (by decide), hv44_31_3]
        have hv47_31_22 : v47 31 22 = vi 31 22 := by rw [hv47, xu_k, fu_n _ _ _ (by decide), hv44_31_22]
        have frv47 : ∀ k : Nat, (¬ k = 31 ∧ ¬ k = 32) → v47 k = vi k := fun k hk => by rw [hv47, xu_c _ _ _ _ (by omega)]; exact frv44 k hk
        refine vx_aload_n hC 3 rfl eX12_factor_172 ?_
        refine vx_callV_i hC (kX12_figures G d _ _ _ _ _ hO h u ac en sp19 1 5 L hv47_32 hv47_31_4 hv47_31_5 hv47_31_6 hv47_31_7 hv47_31_8 hac hen (by omega) (by omega) (by omega)) ly_X12_111 (ot_31 hO) rfl rfl rfl hRm (by omega) (Nat.le_of_ble_eq_true rfl) rfl eX12_factor_173 (fun x48 ng49 tg49 ag49 bg49 cg49 hg49 => ?_)
        obtain ⟨hx48, qg49_0, qg49_1, qg49_2, qg49_3, qg49_4, qg49_5, qg49_6, qg49_7, rfl, rfl, rfl, rfl, frg49⟩ := hg49
        have qg49_0b : ag49 32 = pput u ac L := by first | exact qg49_0 | rw [qg49_0, hv47_32] | (rw [qg49_0]; exact hv47_32)
        have qg49_1b : ag49 31 4 = ac := by first | exact qg49_1 | rw [qg49_1, hv47_31_4] | (rw [qg49_1]; exact hv47_31_4)
        have qg49_2b : ag49 31 5 = pNs h 1 sp19 := by first | exact qg49_2 | rw [qg49_2, hv47_31_5] | (rw [qg49_2]; exact hv47_31_5)
        have qg49_3b : ag49 31 6 = en := by first | exact qg49_3 | rw [qg49_3, hv47_31_6] | (rw [qg49_3]; exact hv47_31_6)
        have qg49_4b : ag49 31 7 = pNw h 1 sp19 := by first | exact qg49_4 | rw [qg49_4, hv47_31_7] | (rw [qg49_4]; exact hv47_31_7)
        have qg49_5b : ag49 31 8 = 5 := by first | exact qg49_5 | rw [qg49_5, hv47_31_8] | (rw [qg49_5]; exact hv47_31_8)
        have qg49_6b : ag49 31 3 = vi 31 3 := by first | exact qg49_6 | rw [qg49_6, hv47_31_3] | (rw [qg49_6]; exact hv47_31_3)
        have qg49_7b : ag49 31 22 = vi 31 22 := by first | exact qg49_7 | rw [qg49_7, hv47_31_22] | (rw [qg49_7]; exact hv47_31_22)
        have frvig49 : ∀ k : Nat, (¬ k = 31 ∧ ¬ k = 32) → ag49 k = vi k := fun k hk => (frg49 k (by omega)).trans (frv47 k hk)
        obtain ⟨sp50, hsp50⟩ : ∃ z : Int, z = pNs h 1 sp19 := ⟨_, rfl⟩
        have esp50 : ag49 31 5 = sp50 := by rw [hsp50]; exact qg49_2b
        obtain ⟨w51, hw51⟩ : ∃ z : Int, z = pNw h 1 sp19 := ⟨_, rfl⟩
        have ew51 : ag49 31 7 = w51 := by rw [hw51]; exact qg49_4b
        have hfsp50 := pN_r (w := 1) hen (sp := sp19) (by omega)
        rw [← hsp50, ← hw51, ← hx48] at hfsp50
        refine vx_istore hC (lv1 := [(4, xa_i x48), (3, xa_i 0), (2, xa_i x17), (1, xa_i x2), (0, xa_r 31)]) (by decide) rfl eX12_factor_176 ?_
        refine vx_aload_n hC 4 rfl eX12_factor_178 ?_
        refine vx_iload_n hC 2 rfl eX12_factor_179 ?_
        refine vx_bipush hC (by decide) eX12_factor_180 ?_
        refine vx_iload_n hC 1 rfl eX12_factor_182 ?_
        refine vx_imul hC eX12_factor_183 ?_
        refine vx_iadd hC eX12_factor_184 ?_
        refine vx_bipush hC (by decide) eX12_factor_185 ?_
        refine vx_iload hC 0 rfl eX12_factor_187 ?_
        refine vx_imul hC eX12_factor_189 ?_
        refine vx_iadd hC eX12_factor_190 ?_
        refine vx_callV_v hC (kX12_emits G d _ _ _ _ _ hO h u ac en sp50 w51 5 L qg49_0b qg49_1b esp50 qg49_3b ew51 qg49_5b hac hen (by omega) (by omega) (by omega) (x17 + 8 * 0 + 32 * x48)) ly_X12_97 (ot_31 hO) rfl rfl rfl hRm (by omega) (Nat.le_of_ble_eq_true rfl) rfl eX12_factor_191 (fun ng53 tg53 ag53 bg53 cg53 hg53 => ?_)
        obtain ⟨qg53_0, qg53_1, qg53_2, qg53_3, qg53_4, qg53_5, qg53_6, qg53_7, rfl, rfl, rfl, rfl, frg53⟩ := hg53
        have qg53_0b : ag53 32 = pput u ac pE w51 L (x17 + 8 * 0 + 32 * x48) := by first | exact qg53_0 | rw [qg53_0, qg49_0b] | (rw [qg53_0]; exact qg49_0b)
        have qg53_1b : ag53 31 4 = ac := by first | exact qg53_1 | rw [qg53_1, qg49_1b] | (rw [qg53_1]; exact qg49_1b)
        have qg53_2b : ag53 31 5 = sp50 := by first | exact qg53_2 | rw [qg53_2, esp50] | (rw [qg53_2]; exact esp50)
        have qg53_3b : ag53 31 6 = en := by first | exact qg53_3 | rw [qg53_3, qg49_3b] | (rw [qg53_3]; exact qg49_3b)
        have qg53_4b : ag53 31 7 = w51 := by first | exact qg53_4 | rw [qg53_4, ew51] | (rw [qg53_4]; exact ew51)
        have qg53_5b : ag53 31 8 = 5 := by first | exact qg53_5 | rw [qg53_5, qg49_5b] | (rw [qg53_5]; exact qg49_5b)
        have qg53_6b : ag53 31 3 = vi 31 3 := by first | exact qg53_6 | rw [qg53_6, qg49_6b] | (rw [qg53_6]; exact qg49_6b)
        have qg53_7b : ag53 31 22 = vi 31 22 := by first | exact qg53_7 | rw [qg53_7, qg49_7b] | (rw [qg53_7]; exact qg49_7b)
        have frvig53 : ∀ k : Nat, (¬ k = 31 ∧ ¬ k = 32) → ag53 k = vi k := fun k hk => (frg53 k (by omega)).trans (frvig49 k hk)
        obtain ⟨L54, hL54⟩ : ∃ z : List Int, z = pE w51 L (x17 + 8 * 0 + 32 * x48) := ⟨_, rfl⟩
        have eL54 : ag53 32 = pput u ac L54 := by rw [hL54]; exact qg53_0b
        have hfL54 := pE_len w51 L (x17 + 8 * 0 + 32 * x48)
        rw [← hL54] at hfL54
        have hE0 : pF h 0 sp = pTest h sp := pF_tst (by omega) (by omega)
        have hE := hE0.trans (pTest_1 (by omega))
        exact vx_vret hC hM eX12_factor_194 (⟨rfl, (by rw [hE, eL54]; show pput u ac L54 = pput u ac (L ++ []); rw [List.append_nil]; rw [hfL54.2.2.2 (by omega)]), qg53_1b, (by rw [hE, qg53_2b]; show _ = sp; omega), qg53_3b, (by rw [hE, qg53_4b]; show _ = 1 - (0 : Int); omega), qg53_5b, qg53_6b, qg53_7b, rfl, rfl, rfl, rfl, fun k hk => frvig53 k hk⟩)
    · refine vx_aload_n hC 1 rfl eX12_factor_25 ?_
      refine vx_aload_n hC 1 rfl eX12_factor_26 ?_
      refine vx_gi hC 8 (ot_31 hO) lf_X12_91 rfl eX12_factor_27 ?_
      refine vx_eqi h8 ?_
      refine vx_iconst hC eX12_factor_30 ?_
      refine vx_icmp_ne hC (tgt := 38) (by omega) (by decide) eX12_factor_31 (fun c55 => absurd c55 (by omega)) (fun c55 => ?_)
      refine vx_iconst hC eX12_factor_34 ?_
      refine vx_goto hC (tgt := 39) (by decide) eX12_factor_35 ?_
      refine vx_pi hC 7 (ot_31 hO) lp_X12_67 rfl (Or.inl rfl) (Or.inr ⟨rfl, by omega⟩) eX12_factor_39 ?_
      refine vx_vi (fun v56 hv56 => ?_)
      have hv56_32 : v56 32 = pput u ac L := by rw [hv56, xu_c _ _ _ _ (by decide), h32]
      have hv56_31_4 : v56 31 4 = ac := by rw [hv56, xu_k, fu_n _ _ _ (by decide), h4]
      have hv56_31_5 : v56 31 5 = sp := by rw [hv56, xu_k, fu_n _ _ _ (by decide), h5]
      have hv56_31_6 : v56 31 6 = en := by rw [hv56, xu_k, fu_n _ _ _ (by decide), h6]
      have hv56_31_7 : v56 31 7 = 1 := by rw [hv56, xu_k, fu_s]
      have hv56_31_8 : v56 31 8 = 5 := by rw [hv56, xu_k, fu_n _ _ _ (by decide), h8]
      have hv56_31_3 : v56 31 3 = vi 31 3 := by rw [hv56, xu_k, fu_n _ _ _ (by decide)]
      have hv56_31_22 : v56 31 22 = vi 31 22 := by rw [hv56, xu_k, fu_n _ _ _ (by decide)]
      have frv56 : ∀ k : Nat, (¬ k = 31 ∧ ¬ k = 32) → v56 k = vi k := fun k hk => by rw [hv56, xu_c _ _ _ _ (by omega)]
      refine vx_aload_n hC 1 rfl eX12_factor_42 ?_
      refine vx_dup hC rfl eX12_factor_43 ?_
      refine vx_gi hC 8 (ot_31 hO) lf_X12_91 rfl eX12_factor_44 ?_
      refine vx_eqi hv56_31_8 ?_
      refine vx_iconst hC eX12_factor_47 ?_
      refine vx_iadd hC eX12_factor_48 ?_
      refine vx_pi hC 8 (ot_31 hO) lp_X12_91 rfl (Or.inl rfl) (Or.inl rfl) eX12_factor_49 ?_
      refine vx_vi (fun v57 hv57 => ?_)
      have hv57_32 : v57 32 = pput u ac L := by rw [hv57, xu_c _ _ _ _ (by decide), hv56_32]
      have hv57_31_4 : v57 31 4 = ac := by rw [hv57, xu_k, fu_n _ _ _ (by decide), hv56_31_4]
      have hv57_31_5 : v57 31 5 = sp := by rw [hv57, xu_k, fu_n _ _ _ (by decide), hv56_31_5]
      have hv57_31_6 : v57 31 6 = en := by rw [hv57, xu_k, fu_n _ _ _ (by decide), hv56_31_6]
      have hv57_31_7 : v57 31 7 = 1 := by rw [hv57, xu_k, fu_n _ _ _ (by decide), hv56_31_7]
      have hv57_31_8 : v57 31 8 = (5 + 1) := by rw [hv57, xu_k, fu_s]
      have hv57_31_3 : v57 31 3 = vi 31 3 := by rw [hv57, xu_k, fu_n _ _ _ (by decide), hv56_31_3]
      have hv57_31_22 : v57 31 22 = vi 31 22 := by rw [hv57, xu_k, fu_n _ _ _ (by decide), hv56_31_22]
      have frv57 : ∀ k : Nat, (¬ k = 31 ∧ ¬ k = 32) → v57 k = vi k := fun k hk => by rw [hv57, xu_c _ _ _ _ (by omega)]; exact frv56 k hk
      refine vx_aload_n hC 1 rfl eX12_factor_52 ?_
      refine vx_dup hC rfl eX12_factor_53 ?_
      refine vx_gi hC 5 (ot_31 hO) lf_X12_61 rfl eX12_factor_54 ?_
      refine vx_eqi hv57_31_5 ?_
      refine vx_aload_n hC 1 rfl eX12_factor_57 ?_
      refine vx_gi hC 7 (ot_31 hO) lf_X12_67 rfl eX12_factor_58 ?_
      refine vx_eqi hv57_31_7 ?_
      refine vx_if_eq hC (tgt := 68) (by omega) (by decide) eX12_factor_61 (fun c58 => absurd c58 (by omega)) (fun c58 => ?_)
      refine vx_iconst hC eX12_factor_64 ?_
      refine vx_goto hC (tgt := 69) (by decide) eX12_factor_65 ?_
      refine vx_iadd hC eX12_factor_69 ?_
      refine vx_pi hC 5 (ot_31 hO) lp_X12_61 rfl (Or.inl rfl) (Or.inl rfl) eX12_factor_70 ?_
      refine vx_vi (fun v59 hv59 => ?_)
      have hv59_32 : v59 32 = pput u ac L := by rw [hv59, xu_c _ _ _ _ (by decide), hv57_32]
      have hv59_31_4 : v59 31 4 = ac := by rw [hv59, xu_k, fu_n _ _ _ (by decide), hv57_31_4]
      have hv59_31_5 : v59 31 5 = (sp + 0) := by rw [hv59, xu_k, fu_s]
      have hv59_31_6 : v59 31 6 = en := by rw [hv59, xu_k, fu_n _ _ _ (by decide), hv57_31_6]
      have hv59_31_7 : v59 31 7 = 1 := by rw [hv59, xu_k, fu_n _ _ _ (by decide), hv57_31_7]
      have hv59_31_8 : v59 31 8 = (5 + 1) := by rw [hv59, xu_k, fu_n _ _ _ (by decide), hv57_31_8]
      have hv59_31_3 : v59 31 3 = vi 31 3 := by rw [hv59, xu_k, fu_n _ _ _ (by decide), hv57_31_3]
      have hv59_31_22 : v59 31 22 = vi 31 22 := by rw [hv59, xu_k, fu_n _ _ _ (by decide), hv57_31_22]
      have frv59 : ∀ k : Nat, (¬ k = 31 ∧ ¬ k = 32) → v59 k = vi k := fun k hk => by rw [hv59, xu_c _ _ _ _ (by omega)]; exact frv57 k hk
      refine vx_iload_n hC 0 rfl eX12_factor_73 ?_
      refine vx_bipush hC (by decide) eX12_factor_74 ?_
      refine vx_icmp_ne hC (tgt := 91) (by omega) (by decide) eX12_factor_76 (fun c60 => ?_) (fun c60 => absurd c60 (by omega))
      refine vx_aload_n hC 1 rfl eX12_factor_91 ?_
      refine vx_callV_v hC (kX12_someW G d _ _ _ _ _ hO hv59_31_7) ly_X12_100 (ot_31 hO) rfl rfl rfl hRm (by omega) (Nat.le_of_ble_eq_true rfl) rfl eX12_factor_92 (fun n9 t9 a9 b9 c9 hx61 => ?_)
      obtain ⟨rfl, rfl, rfl, rfl, rfl⟩ := hx61
      refine vx_aload_n hC 1 rfl eX12_factor_95 ?_
      refine vx_bipush hC (by decide) eX12_factor_96 ?_
      refine vx_callV_v hC (kX12_must G d _ _ _ _ _ hO h u ac en (sp + 0) 1 (5 + 1) L hv59_32 hv59_31_4 hv59_31_5 hv59_31_6 hv59_31_7 hv59_31_8 hac hen (by omega) (by omega) (by omega) 41 (by omega)) ly_X12_84 (ot_31 hO) rfl rfl rfl hRm (by omega) (Nat.le_of_ble_eq_true rfl) rfl eX12_factor_98 (fun ng63 tg63 ag63 bg63 cg63 hg63 => ?_)
      obtain ⟨qg63_0, qg63_1, qg63_2, qg63_3, qg63_4, qg63_5, qg63_6, qg63_7, rfl, rfl, rfl, rfl, frg63⟩ := hg63
      have qg63_0b : ag63 32 = pput u ac L := by first | exact qg63_0 | rw [qg63_0, hv59_32] | (rw [qg63_0]; exact hv59_32)
      have qg63_1b : ag63 31 4 = ac := by first | exact qg63_1 | rw [qg63_1, hv59_31_4] | (rw [qg63_1]; exact hv59_31_4)
      have qg63_2b : ag63 31 5 = pMs h 41 1 (sp + 0) := by first | exact qg63_2 | rw [qg63_2, hv59_31_5] | (rw [qg63_2]; exact hv59_31_5)
      have qg63_3b : ag63 31 6 = en := by first | exact qg63_3 | rw [qg63_3, hv59_31_6] | (rw [qg63_3]; exact hv59_31_6)
      have qg63_4b : ag63 31 7 = pMw h 41 1 (sp + 0) := by first | exact qg63_4 | rw [qg63_4, hv59_31_7] | (rw [qg63_4]; exact hv59_31_7)
      have qg63_5b : ag63 31 8 = (5 + 1) := by first | exact qg63_5 | rw [qg63_5, hv59_31_8] | (rw [qg63_5]; exact hv59_31_8)
      have qg63_6b : ag63 31 3 = vi 31 3 := by first | exact qg63_6 | rw [qg63_6, hv59_31_3] | (rw [qg63_6]; exact hv59_31_3)
      have qg63_7b : ag63 31 22 = vi 31 22 := by first | exact qg63_7 | rw [qg63_7, hv59_31_22] | (rw [qg63_7]; exact hv59_31_22)
      have frvig63 : ∀ k : Nat, (¬ k = 31 ∧ ¬ k = 32) → ag63 k = vi k := fun k hk => (frg63 k (by omega)).trans (frv59 k hk)
      obtain ⟨sp64, hsp64⟩ : ∃ z : Int, z = pMs h 41 1 (sp + 0) := ⟨_, rfl⟩
      have esp64 : ag63 31 5 = sp64 := by rw [hsp64]; exact qg63_2b
      obtain ⟨w65, hw65⟩ : ∃ z : Int, z = pMw h 41 1 (sp + 0) := ⟨_, rfl⟩
      have ew65 : ag63 31 7 = w65 := by rw [hw65]; exact qg63_4b
      have hfsp64 := pM_r (c := 41) (w := 1) hen (by omega) (sp := (sp + 0)) (by omega)
      rw [← hsp64, ← hw65] at hfsp64
      refine vx_aload_n hC 1 rfl eX12_factor_101 ?_
      refine vx_dup hC rfl eX12_factor_102 ?_
      refine vx_gi hC 8 (ot_31 hO) lf_X12_91 rfl eX12_factor_103 ?_
      refine vx_eqi qg63_5b ?_
      refine vx_iconst hC eX12_factor_106 ?_
      refine vx_isub hC eX12_factor_107 ?_
      refine vx_top (fun x66 hx66 => ?_)
      refine vx_pi hC 8 (ot_31 hO) lp_X12_91 rfl (Or.inl rfl) (Or.inl rfl) eX12_factor_108 ?_
      refine vx_vi (fun v67 hv67 => ?_)
      have hv67_32 : v67 32 = pput u ac L := by rw [hv67, xu_c _ _ _ _ (by decide), qg63_0b]
      have hv67_31_4 : v67 31 4 = ac := by rw [hv67, xu_k, fu_n _ _ _ (by decide), qg63_1b]
      have hv67_31_5 : v67 31 5 = sp64 := by rw [hv67, xu_k, fu_n _ _ _ (by decide), esp64]
      have hv67_31_6 : v67 31 6 = en := by rw [hv67, xu_k, fu_n _ _ _ (by decide), qg63_3b]
      have hv67_31_7 : v67 31 7 = w65 := by rw [hv67, xu_k, fu_n _ _ _ (by decide), ew65]
      have hv67_31_8 : v67 31 8 = x66 := by rw [hv67, xu_k, fu_s]
      have hv67_31_3 : v67 31 3 = vi 31 3 := by rw [hv67, xu_k, fu_n _ _ _ (by decide), qg63_6b]
      have hv67_31_22 : v67 31 22 = vi 31 22 := by rw [hv67, xu_k, fu_n _ _ _ (by decide), qg63_7b]
      have frv67 : ∀ k : Nat, (¬ k = 31 ∧ ¬ k = 32) → v67 k = vi k := fun k hk => by rw [hv67, xu_c _ _ _ _ (by omega)]; exact frvig63 k hk
      have hE : pF h 0 sp = (0, sp, []) := pTest_0 (by omega)
      exact vx_vret hC hM eX12_factor_111 (⟨rfl, (by rw [hE, hv67_32]; show pput u ac L = pput u ac (L ++ []); rw [List.append_nil]), hv67_31_4, (by rw [hE, hv67_31_5]; show _ = sp; omega), hv67_31_6, (by rw [hE, hv67_31_7]; show _ = 1 - (0 : Int); omega), (by rw [hv67_31_8]; omega), hv67_31_3, hv67_31_22, rfl, rfl, rfl, rfl, fun k hk => frv67 k hk⟩)
set_option maxHeartbeats 4000000 in
set_option maxRecDepth 100000 in
theorem kX12_factorS (G : xg_T) (h u : Int → Int) (ac en : Int) (hac : 0 ≤ ac ∧ ac ≤ 4) (hen : pH h u en) (op : Int) (k ky : Nat) (hop : 0 ≤ op ∧ op ≤ 4) (hky : 6 ≤ ky) (hF : FC G yX12_factor cX12_factor 5 (ky) h u ac en (op + 1) (pF h k)) (hS : FC G yX12_some cX12_some 1 (ky + 2) h u ac en (op + 1) (pEx (pF h k) h)) : FC G yX12_factor cX12_factor 5 (ky + 3) h u ac en op (pF h (k + 1)) := by
  unfold FC
  intro d n tau vi vl vr hO sp L h32 h4 h5 h6 h7 h8 hsp hL
  refine xm.of (lv := [(0, xa_r 31)]) (by decide) (Nat.le_of_ble_eq_true rfl) rfl (fun K hC hM hRm => ?_)
  have he := hen.1
  have hh := hen.2
  have hhs := hh sp
  refine vx_aload_n hC 0 rfl eX12_factor_0 ?_
  refine vx_gi hC 7 (ot_31 hO) lf_X12_67 rfl eX12_factor_1 ?_
  refine vx_eqi h7 ?_
  refine vx_if_eq hC (tgt := 8) (by omega) (by decide) eX12_factor_4 (fun c1 => ?_) (fun c1 => absurd c1 (by omega))
  refine vx_aload_n hC 0 rfl eX12_factor_8 ?_
  refine vx_callV_i hC (kX12_hereP G d _ _ _ _ _ hO h u ac en sp 0 op L h32 h4 h5 h6 h7 h8 hac hen (by omega) (by omega) (by omega)) ly_X12_71 (ot_31 hO) rfl rfl rfl hRm (by omega) (Nat.le_of_ble_eq_true rfl) rfl eX12_factor_9 (fun x2 n9 t9 a9 b9 c9 hx2 => ?_)
  obtain ⟨hx2, rfl, rfl, rfl, rfl, rfl⟩ := hx2
  have hrx2 := hh sp
  refine vx_istore_n hC (lv1 := [(1, xa_i x2), (0, xa_r 31)]) (by decide) rfl eX12_factor_12 ?_
  refine vx_iload_n hC 0 rfl eX12_factor_13 ?_
  refine vx_bipush hC (by decide) eX12_factor_14 ?_
  refine vx_icmp_eq hC (tgt := 25) (by omega) (by decide) eX12_factor_16 (fun c3 => ?_) (fun c3 => ?_)
  · refine vx_aload_n hC 1 rfl eX12_factor_25 ?_
    refine vx_aload_n hC 1 rfl eX12_factor_26 ?_
    refine vx_gi hC 8 (ot_31 hO) lf_X12_91 rfl eX12_factor_27 ?_
    refine vx_eqi h8 ?_
    refine vx_iconst hC eX12_factor_30 ?_
    refine vx_icmp_ne hC (tgt := 38) (by omega) (by decide) eX12_factor_31 (fun c4 => ?_) (fun c4 => absurd c4 (by omega))
    refine vx_iconst hC eX12_factor_38 ?_
    refine vx_pi hC 7 (ot_31 hO) lp_X12_67 rfl (Or.inl rfl) (Or.inr ⟨rfl, by omega⟩) eX12_factor_39 ?_
    refine vx_vi (fun v5 hv5 => ?_)
    have hv5_32 : v5 32 = pput u ac L := by rw [hv5, xu_c _ _ _ _ (by decide), h32]
    have hv5_31_4 : v5 31 4 = ac := by rw [hv5, xu_k, fu_n _ _ _ (by decide), h4]
    have hv5_31_5 : v5 31 5 = sp := by rw [hv5, xu_k, fu_n _ _ _ (by decide), h5]
    have hv5_31_6 : v5 31 6 = en := by rw [hv5, xu_k, fu_n _ _ _ (by decide), h6]
    have hv5_31_7 : v5 31 7 = 0 := by rw [hv5, xu_k, fu_s]
    have hv5_31_8 : v5 31 8 = op := by rw [hv5, xu_k, fu_n _ _ _ (by decide), h8]
    have hv5_31_3 : v5 31 3 = vi 31 3 := by rw [hv5, xu_k, fu_n _ _ _ (by decide)]
    have hv5_31_22 : v5 31 22 = vi 31 22 := by rw [hv5, xu_k, fu_n _ _ _ (by decide)]
    have frv5 : ∀ k : Nat, (¬ k = 31 ∧ ¬ k = 32) → v5 k = vi k := fun k hk => by rw [hv5, xu_c _ _ _ _ (by omega)]
    refine vx_aload_n hC 1 rfl eX12_factor_42 ?_
    refine vx_dup hC rfl eX12_factor_43 ?_
    refine vx_gi hC 8 (ot_31 hO) lf_X12_91 rfl eX12_factor_44 ?_
    refine vx_eqi hv5_31_8 ?_
    refine vx_iconst hC eX12_factor_47 ?_
    refine vx_iadd hC eX12_factor_48 ?_
    refine vx_pi hC 8 (ot_31 hO) lp_X12_91 rfl (Or.inl rfl) (Or.inl rfl) eX12_factor_49 ?_
    refine vx_vi (fun v6 hv6 => ?_)
    have hv6_32 : v6 32 = pput u ac L := by rw [hv6, xu_c _ _ _ _ (by decide), hv5_32]
    have hv6_31_4 : v6 31 4 = ac := by rw [hv6, xu_k, fu_n _ _ _ (by decide), hv5_31_4]
    have hv6_31_5 : v6 31 5 = sp := by rw [hv6, xu_k, fu_n _ _ _ (by decide), hv5_31_5]
    have hv6_31_6 : v6 31 6 = en := by rw [hv6, xu_k, fu_n _ _ _ (by decide), hv5_31_6]
    have hv6_31_7 : v6 31 7 = 0 := by rw [hv6, xu_k, fu_n _ _ _ (by decide), hv5_31_7]
    have hv6_31_8 : v6 31 8 = (op + 1) := by rw [hv6, xu_k, fu_s]
    have hv6_31_3 : v6 31 3 = vi 31 3 := by rw [hv6, xu_k, fu_n _ _ _ (by decide), hv5_31_3]
    have hv6_31_22 : v6 31 22 = vi 31 22 := by rw [hv6, xu_k, fu_n _ _ _ (by decide), hv5_31_22]
    have frv6 : ∀ k : Nat, (¬ k = 31 ∧ ¬ k = 32) → v6 k = vi k := fun k hk => by rw [hv6, xu_c _ _ _ _ (by omega)]; exact frv5 k hk
    refine vx_aload_n hC 1 rfl eX12_factor_52 ?_
    refine vx_dup hC rfl eX12_factor_53 ?_
    refine vx_gi hC 5 (ot_31 hO) lf_X12_61 rfl eX12_factor_54 ?_
    refine vx_eqi hv6_31_5 ?_
    refine vx_aload_n hC 1 rfl eX12_factor_57 ?_
    refine vx_gi hC 7 (ot_31 hO) lf_X12_67 rfl eX12_factor_58 ?_
    refine vx_eqi hv6_31_7 ?_
    refine vx_if_eq hC (tgt := 68) (by omega) (by decide) eX12_factor_61 (fun c7 => ?_) (fun c7 => absurd c7 (by omega))
    refine vx_iconst hC eX12_factor_68 ?_
    refine vx_iadd hC eX12_factor_69 ?_
    refine vx_pi hC 5 (ot_31 hO) lp_X12_61 rfl (Or.inl rfl) (Or.inl rfl) eX12_factor_70 ?_
    refine vx_vi (fun v8 hv8 => ?_)
    have hv8_32 : v8 32 = pput u ac L := by rw [hv8, xu_c _ _ _ _ (by decide), hv6_32]
    have hv8_31_4 : v8 31 4 = ac := by rw [hv8, xu_k, fu_n _ _ _ (by decide), hv6_31_4]
    have hv8_31_5 : v8 31 5 = (sp + 1) := by rw [hv8, xu_k, fu_s]
    have hv8_31_6 : v8 31 6 = en := by rw [hv8, xu_k, fu_n _ _ _ (by decide), hv6_31_6]
    have hv8_31_7 : v8 31 7 = 0 := by rw [hv8, xu_k, fu_n _ _ _ (by decide), hv6_31_7]
    have hv8_31_8 : v8 31 8 = (op + 1) := by rw [hv8, xu_k, fu_n _ _ _ (by decide), hv6_31_8]
    have hv8_31_3 : v8 31 3 = vi 31 3 := by rw [hv8, xu_k, fu_n _ _ _ (by decide), hv6_31_3]
    have hv8_31_22 : v8 31 22 = vi 31 22 := by rw [hv8, xu_k, fu_n _ _ _ (by decide), hv6_31_22]
    have frv8 : ∀ k : Nat, (¬ k = 31 ∧ ¬ k = 32) → v8 k = vi k := fun k hk => by rw [hv8, xu_c _ _ _ _ (by omega)]; exact frv6 k hk
    refine vx_iload_n hC 0 rfl eX12_factor_73 ?_
    refine vx_bipush hC (by decide) eX12_factor_74 ?_
    refine vx_icmp_ne hC (tgt := 91) (by omega) (by decide) eX12_factor_76 (fun c9 => absurd c9 (by omega)) (fun c9 => ?_)
    refine vx_aload_n hC 1 rfl eX12_factor_79 ?_
    refine vx_callV_v hC (hF d _ _ _ _ _ hO (sp + 1) L hv8_32 hv8_31_4 hv8_31_5 hv8_31_6 hv8_31_7 hv8_31_8 (by omega) (by omega)) ly_X12_94 (ot_31 hO) rfl rfl rfl hRm (by omega) (Nat.le_of_ble_eq_true rfl) rfl eX12_factor_80 (fun ng11 tg11 ag11 bg11 cg11 hg11 => ?_)
    obtain ⟨qg11_0, qg11_1, qg11_2, qg11_3, qg11_4, qg11_5, qg11_6, qg11_7, rfl, rfl, rfl, rfl, frg11⟩ := hg11
    have qg11_0b : ag11 32 = pput u ac L ++ (pF h k (sp + 1)).2.2 := by first | exact qg11_0 | rw [qg11_0, hv8_32] | (rw [qg11_0]; exact hv8_32)
    have qg11_1b : ag11 31 4 = ac := by first | exact qg11_1 | rw [qg11_1, hv8_31_4] | (rw [qg11_1]; exact hv8_31_4)
    have qg11_2b : ag11 31 5 = (pF h k (sp + 1)).2.1 := by first | exact qg11_2 | rw [qg11_2, hv8_31_5] | (rw [qg11_2]; exact hv8_31_5)
    have qg11_3b : ag11 31 6 = en := by first | exact qg11_3 | rw [qg11_3, hv8_31_6] | (rw [qg11_3]; exact hv8_31_6)
    have qg11_4b : ag11 31 7 = 1 - (pF h k (sp + 1)).1 := by first | exact qg11_4 | rw [qg11_4, hv8_31_7] | (rw [qg11_4]; exact hv8_31_7)
    have qg11_5b : ag11 31 8 = (op + 1) := by first | exact qg11_5 | rw [qg11_5, hv8_31_8] | (rw [qg11_5]; exact hv8_31_8)
    have qg11_6b : ag11 31 3 = vi 31 3 := by first | exact qg11_6 | rw [qg11_6, hv8_31_3] | (rw [qg11_6]; exact hv8_31_3)
    have qg11_7b : ag11 31 22 = vi 31 22 := by first | exact qg11_7 | rw [qg11_7, hv8_31_22] | (rw [qg11_7]; exact hv8_31_22)
    have frvig11 : ∀ k : Nat, (¬ k = 31 ∧ ¬ k = 32) → ag11 k = vi k := fun k hk => (frg11 k (by omega)).trans (frv8 k hk)
    obtain ⟨sp12, hsp12⟩ : ∃ z : Int, z = (pF h k (sp + 1)).2.1 := ⟨_, rfl⟩
    have esp12 : ag11 31 5 = sp12 := by rw [hsp12]; exact qg11_2b
    obtain ⟨w13, hw13⟩ : ∃ z : Int, z = 1 - (pF h k (sp + 1)).1 := ⟨_, rfl⟩
    have ew13 : ag11 31 7 = w13 := by rw [hw13]; exact qg11_4b
    obtain ⟨L14, hL14⟩ : ∃ z : List Int, z = L ++ (pF h k (sp + 1)).2.2 := ⟨_, rfl⟩
    have eL14 : ag11 32 = pput u ac L14 := by rw [hL14]; exact qg11_0b
    have hosp12 := (pF_ok hen k) (sp + 1) (by omega)
    have hlL14 : (L14.length : Int) = (L.length : Int) + ((pF h k (sp + 1)).2.2.length : Int) := by rw [hL14, List.length_append]; omega
    obtain ⟨o1sp12, o2sp12, o3sp12, o4sp12, o5sp12⟩ := hosp12
    refine vx_aload_n hC 1 rfl eX12_factor_83 ?_
    refine vx_iconst hC eX12_factor_84 ?_
    refine vx_callV_v hC (kX12_emits G d _ _ _ _ _ hO h u ac en sp12 w13 (op + 1) L14 eL14 qg11_1b esp12 qg11_3b ew13 qg11_5b hac hen (by omega) (by omega) (by omega) (-1)) ly_X12_97 (ot_31 hO) rfl rfl rfl hRm (by omega) (Nat.le_of_ble_eq_true rfl) rfl eX12_factor_85 (fun ng16 tg16 ag16 bg16 cg16 hg16 => ?_)
    obtain ⟨qg16_0, qg16_1, qg16_2, qg16_3, qg16_4, qg16_5, qg16_6, qg16_7, rfl, rfl, rfl, rfl, frg16⟩ := hg16
    have qg16_0b : ag16 32 = pput u ac pE w13 L14 (-1) := by first | exact qg16_0 | rw [qg16_0, eL14] | (rw [qg16_0]; exact eL14)
    have qg16_1b : ag16 31 4 = ac := by first | exact qg16_1 | rw [qg16_1, qg11_1b] | (rw [qg16_1]; exact qg11_1b)
    have qg16_2b : ag16 31 5 = sp12 := by first | exact qg16_2 | rw [qg16_2, esp12] | (rw [qg16_2]; exact esp12)
    have qg16_3b : ag16 31 6 = en := by first | exact qg16_3 | rw [qg16_3, qg11_3b] | (rw [qg16_3]; exact qg11_3b)
    have qg16_4b : ag16 31 7 = w13 := by first | exact qg16_4 | rw [qg16_4, ew13] | (rw [qg16_4]; exact ew13)
    have qg16_5b : ag16 31 8 = (op + 1) := by first | exact qg16_5 | rw [qg16_5, qg11_5b] | (rw [qg16_5]; exact qg11_5b)
    have qg16_6b : ag16 31 3 = vi 31 3 := by first | exact qg16_6 | rw [qg16_6, qg11_6b] | (rw [qg16_6]; exact qg11_6b)
    have qg16_7b : ag16 31 22 = vi 31 22 := by first | exact qg16_7 | rw [qg16_7, qg11_7b] | (rw [qg16_7]; exact qg11_7b)
    have frvig16 : ∀ k : Nat, (¬ k = 31 ∧ ¬ k = 32) → ag16 k = vi k := fun k hk => (frg16 k (by omega)).trans (frvig11 k hk)
    obtain ⟨L17, hL17⟩ : ∃ z : List Int, z = pE w13 L14 (-1) := ⟨_, rfl⟩
    have eL17 : ag16 32 = pput u ac L17 := by rw [hL17]; exact qg16_0b
    have hfL17 := pE_len w13 L14 (-1)
    rw [← hL17] at hfL17
    refine vx_goto hC (tgt := 101) (by decide) eX12_factor_88 ?_
    refine vx_aload_n hC 1 rfl eX12_factor_101 ?_
    refine vx_dup hC rfl eX12_factor_102 ?_
    refine vx_gi hC 8 (ot_31 hO) lf_X12_91 rfl eX12_factor_103 ?_
    refine vx_eqi qg16_5b ?_
    refine vx_iconst hC eX12_factor_106 ?_
    refine vx_isub hC eX12_factor_107 ?_
    refine vx_top (fun x18 hx18 => ?_)
    refine vx_pi hC 8 (ot_31 hO) lp_X12_91 rfl (Or.inl rfl) (Or.inl rfl) eX12_factor_108 ?_
    refine vx_vi (fun v19 hv19 => ?_)
    have hv19_32 : v19 32 = pput u ac L17 := by rw [hv19, xu_c _ _ _ _ (by decide), eL17]
    have hv19_31_4 : v19 31 4 = ac := by rw [hv19, xu_k, fu_n _ _ _ (by decide), qg16_1b]
    have hv19_31_5 : v19 31 5 = sp12 := by rw [hv19, xu_k, fu_n _ _ _ (by decide), qg16_2b]
    have hv19_31_6 : v19 31 6 = en := by rw [hv19, xu_k, fu_n _ _ _ (by decide), qg16_3b]
    have hv19_31_7 : v19 31 7 = w13 := by rw [hv19, xu_k, fu_n _ _ _ (by decide), qg16_4b]
    have hv19_31_8 : v19 31 8 = x18 := by rw [hv19, xu_k, fu_s]
    have hv19_31_3 : v19 31 3 = vi 31 3 := by rw [hv19, xu_k, fu_n _ _ _ (by decide), qg16_6b]
    have hv19_31_22 : v19 31 22 = vi 31 22 := by rw [hv19, xu_k, fu_n _ _ _ (by decide), qg16_7b]
    have frv19 : ∀ k : Nat, (¬ k = 31 ∧ ¬ k = 32) → v19 k = vi k := fun k hk => by rw [hv19, xu_c _ _ _ _ (by omega)]; exact frvig16 k hk
    have hE := pF_not (h := h) (k := k) (sp := sp) (by omega) o1sp12
    exact vx_vret hC hM eX12_factor_111 (⟨rfl, (by rw [hE, hv19_32]; show pput u ac L17 = pput u ac (L ++ pE (1 - (pF h k (sp + 1)).1) (pF h k (sp + 1)).2.2 (-1)); rw [hL17, hL14, hw13, pE_app]), hv19_31_4, (by rw [hE, hv19_31_5]; exact hsp12), hv19_31_6, (by rw [hE, hv19_31_7]; exact hw13), (by rw [hv19_31_8]; omega), hv19_31_3, hv19_31_22, rfl, rfl, rfl, rfl, fun k hk => frv19 k hk⟩)
  · refine vx_iload_n hC 0 rfl eX12_factor_19 ?_
    refine vx_bipush hC (by decide) eX12_factor_20 ?_
    refine vx_icmp_ne hC (tgt := 112) (by omega) (by decide) eX12_factor_22 (fun c20 => ?_) (fun c20 => ?_)
    · refine vx_aload_n hC 1 rfl eX12_factor_112 ?_
      refine vx_ldcs hC (i := 4) (tx := "nkpgsd") (by decide) eX12_factor_113 ?_
      refine vx_callV_i hC (kX12_among G d _ _ _ _ _ hO h u ac en sp 0 op L h32 h4 h5 h6 h7 h8 hac hen (by omega) (by omega) (by omega) 4 (by decide)) ly_X12_105 (ot_31 hO) rfl rfl rfl hRm (by omega) (Nat.le_of_ble_eq_true rfl) rfl eX12_factor_115 (fun x21 ng22 tg22 ag22 bg22 cg22 hg22 => ?_)
      obtain ⟨hx21, qg22_0, qg22_1, qg22_2, qg22_3, qg22_4, qg22_5, qg22_6, qg22_7, rfl, rfl, rfl, rfl, frg22⟩ := hg22
      have qg22_0b : ag22 32 = pput u ac L := by first | exact qg22_0 | rw [qg22_0, h32] | (rw [qg22_0]; exact h32)
      have qg22_1b : ag22 31 4 = ac := by first | exact qg22_1 | rw [qg22_1, h4] | (rw [qg22_1]; exact h4)
      have qg22_2b : ag22 31 5 = (if pA1 h sp = -1 then sp else sp + 1) := by first | exact qg22_2 | rw [qg22_2, h5] | (rw [qg22_2]; exact h5)
      have qg22_3b : ag22 31 6 = en := by first | exact qg22_3 | rw [qg22_3, h6] | (rw [qg22_3]; exact h6)
      have qg22_4b : ag22 31 7 = 0 := by first | exact qg22_4 | rw [qg22_4, h7] | (rw [qg22_4]; exact h7)
      have qg22_5b : ag22 31 8 = op := by first | exact qg22_5 | rw [qg22_5, h8] | (rw [qg22_5]; exact h8)
      have frvig22 : ∀ k : Nat, (¬ k = 31 ∧ ¬ k = 32) → ag22 k = vi k := fun k hk => (frg22 k (by omega))
      obtain ⟨sp23, hsp23⟩ : ∃ z : Int, z = (if pA1 h sp = -1 then sp else sp + 1) := ⟨_, rfl⟩
      have esp23 : ag22 31 5 = sp23 := by rw [hsp23]; exact qg22_2b
      have hrx21 := pA1_r h sp
      replace hx21 : x21 = pA1 h sp := hx21
      rw [← hx21] at hrx21 hsp23
      have hbx21 := hh sp
      refine vx_istore_n hC (lv1 := [(2, xa_i x21), (1, xa_i x2), (0, xa_r 31)]) (by decide) rfl eX12_factor_118 ?_
      refine vx_aload_n hC 2 rfl eX12_factor_119 ?_
      refine vx_iload_n hC 0 rfl eX12_factor_120 ?_
      refine vx_iconst hC eX12_factor_121 ?_
      refine vx_icmp_ne hC (tgt := 129) (by omega) (by decide) eX12_factor_122 (fun c24 => ?_) (fun c24 => ?_)
      · refine vx_iconst hC eX12_factor_129 ?_
        refine vx_pi hC 7 (ot_31 hO) lp_X12_67 rfl (Or.inl rfl) (Or.inr ⟨rfl, by omega⟩) eX12_factor_130 ?_
        refine vx_vi (fun v25 hv25 => ?_)
        have hv25_32 : v25 32 = pput u ac L := by rw [hv25, xu_c _ _ _ _ (by decide), qg22_0b]
        have hv25_31_4 : v25 31 4 = ac := by rw [hv25, xu_k, fu_n _ _ _ (by decide), qg22_1b]
        have hv25_31_5 : v25 31 5 = sp23 := by rw [hv25, xu_k, fu_n _ _ _ (by decide), esp23]
        have hv25_31_6 : v25 31 6 = en := by rw [hv25, xu_k, fu_n _ _ _ (by decide), qg22_3b]
        have hv25_31_7 : v25 31 7 = 0 := by rw [hv25, xu_k, fu_s]
        have hv25_31_8 : v25 31 8 = op := by rw [hv25, xu_k, fu_n _ _ _ (by decide), qg22_5b]
        have hv25_31_3 : v25 31 3 = vi 31 3 := by rw [hv25, xu_k, fu_n _ _ _ (by decide), qg22_6]
        have hv25_31_22 : v25 31 22 = vi 31 22 := by rw [hv25, xu_k, fu_n _ _ _ (by decide), qg22_7]
        have frv25 : ∀ k : Nat, (¬ k = 31 ∧ ¬ k = 32) → v25 k = vi k := fun k hk => by rw [hv25, xu_c _ _ _ _ (by omega)]; exact frvig22 k hk
        refine vx_aload_n hC 2 rfl eX12_factor_133 ?_
        refine vx_gi hC 7 (ot_31 hO) lf_X12_67 rfl eX12_factor_134 ?_
        refine vx_eqi hv25_31_7 ?_
        refine vx_if_eq hC (tgt := 144) (by omega) (by decide) eX12_factor_137 (fun c26 => ?_) (fun c26 => absurd c26 (by omega))
        refine vx_aload_n hC 2 rfl eX12_factor_144 ?_
        refine vx_ldcs hC (i := 5) (tx := "<=>") (by decide) eX12_factor_145 ?_
        refine vx_callV_i hC (kX12_among G d _ _ _ _ _ hO h u ac en sp23 0 op L hv25_32 hv25_31_4 hv25_31_5 hv25_31_6 hv25_31_7 hv25_31_8 hac hen (by omega) (by omega) (by omega) 5 (by decide)) ly_X12_105 (ot_31 hO) rfl rfl rfl hRm (by omega) (Nat.le_of_ble_eq_true rfl) rfl eX12_factor_147 (fun x27 ng28 tg28 ag28 bg28 cg28 hg28 => ?_)
        obtain ⟨hx27, qg28_0, qg28_1, qg28_2, qg28_3, qg28_4, qg28_5, qg28_6, qg28_7, rfl, rfl, rfl, rfl, frg28⟩ := hg28
        have qg28_0b : ag28 32 = pput u ac L := by first | exact qg28_0 | rw [qg28_0, hv25_32] | (rw [qg28_0]; exact hv25_32)
        have qg28_1b : ag28 31 4 = ac := by first | exact qg28_1 | rw [qg28_1, hv25_31_4] | (rw [qg28_1]; exact hv25_31_4)
        have qg28_2b : ag28 31 5 = (if pA2 h sp23 = -1 then sp23 else sp23 + 1) := by first | exact qg28_2 | rw [qg28_2, hv25_31_5] | (rw [qg28_2]; exact hv25_31_5)
        have qg28_3b : ag28 31 6 = en := by first | exact qg28_3 | rw [qg28_3, hv25_31_6] | (rw [qg28_3]; exact hv25_31_6)
        have qg28_4b : ag28 31 7 = 0 := by first | exact qg28_4 | rw [qg28_4, hv25_31_7] | (rw [qg28_4]; exact hv25_31_7)
        have qg28_5b : ag28 31 8 = op := by first | exact qg28_5 | rw [qg28_5, hv25_31_8] | (rw [qg28_5]; exact hv25_31_8)
        have qg28_6b : ag28 31 3 = vi 31 3 := by first | exact qg28_6 | rw [qg28_6, hv25_31_3] | (rw [qg28_6]; exact hv25_31_3)
        have qg28_7b : ag28 31 22 = vi 31 22 := by first | exact qg28_7 | rw [qg28_7, hv25_31_22] | (rw [qg28_7]; exact hv25_31_22)
        have frvig28 : ∀ k : Nat, (¬ k = 31 ∧ ¬ k = 32) → ag28 k = vi k := fun k hk => (frg28 k (by omega)).trans (frv25 k hk)
        obtain ⟨sp29, hsp29⟩ : ∃ z : Int, z = (if pA2 h sp23 = -1 then sp23 else sp23 + 1) := ⟨_, rfl⟩
        have esp29 : ag28 31 5 = sp29 := by rw [hsp29]; exact qg28_2b
        have hrx27 := pA2_r h sp23
        replace hx27 : x27 = pA2 h sp23 := hx27
        rw [← hx27] at hrx27 hsp29
        have hbx27 := hh sp23
        refine vx_istore_n hC (lv1 := [(3, xa_i x27), (2, xa_i x21), (1, xa_i x2), (0, xa_r 31)]) (by decide) rfl eX12_factor_150 ?_
        refine vx_aload_n hC 3 rfl eX12_factor_151 ?_
        refine vx_aload_n hC 3 rfl eX12_factor_152 ?_
        refine vx_gi hC 7 (ot_31 hO) lf_X12_67 rfl eX12_factor_153 ?_
        refine vx_eqi qg28_4b ?_
        refine vx_if_ne hC (tgt := 164) (by omega) (by decide) eX12_factor_156 (fun c30 => absurd c30 (by omega)) (fun c30 => ?_)
        refine vx_iload_n hC 0 rfl eX12_factor_159 ?_
        refine vx_iconst hC eX12_factor_160 ?_
        refine vx_icmp_ne hC (tgt := 168) (by omega) (by decide) eX12_factor_161 (fun c31 => ?_) (fun c31 => ?_)
        · refine vx_iconst hC eX12_factor_168 ?_
          refine vx_pi hC 7 (ot_31 hO) lp_X12_67 rfl (Or.inl rfl) (Or.inr ⟨rfl, by omega⟩) eX12_factor_169 ?_
          refine vx_vi (fun v32 hv32 => ?_)
          have hv32_32 : v32 32 = pput u ac L := by rw [hv32, xu_c _ _ _ _ (by decide), qg28_0b]
          have hv32_31_4 : v32 31 4 = ac := by rw [hv32, xu_k, fu_n _ _ _ (by decide), qg28_1b]
          have hv32_31_5 : v32 31 5 = sp29 := by rw [hv32, xu_k, fu_n _ _ _ (by decide), esp29]
          have hv32_31_6 : v32 31 6 = en := by rw [hv32, xu_k, fu_n _ _ _ (by decide), qg28_3b]
          have hv32_31_7 : v32 31 7 = 0 := by rw [hv32, xu_k, fu_s]
          have hv32_31_8 : v32 31 8 = op := by rw [hv32, xu_k, fu_n _ _ _ (by decide), qg28_5b]
          have hv32_31_3 : v32 31 3 = vi 31 3 := by rw [hv32, xu_k, fu_n _ _ _ (by decide), qg28_6b]
          have hv32_31_22 : v32 31 22 = vi 31 22 := by rw [hv32, xu_k, fu_n _ _ _ (by decide), qg28_7b]
          have frv32 : ∀ k : Nat, (¬ k = 31 ∧ ¬ k = 32) → v32 k = vi k := fun k hk => by rw [hv32, xu_c _ _ _ _ (by omega)]; exact frvig28 k hk
          refine vx_aload_n hC 3 rfl eX12_factor_172 ?_
          refine vx_callV_i hC (kX12_figures G d _ _ _ _ _ hO h u ac en sp29 0 op L hv32_32 hv32_31_4 hv32_31_5 hv32_31_6 hv32_31_7 hv32_31_8 hac hen (by omega) (by omega) (by omega)) ly_X12_111 (ot_31 hO) rfl rfl rfl hRm (by omega) (Nat.le_of_ble_eq_true rfl) rfl eX12_factor_173 (fun x33 ng34 tg34 ag34 bg34 cg34 hg34 => ?_)
          obtain ⟨hx33, qg34_0, qg34_1, qg34_2, qg34_3, qg34_4, qg34_5, qg34_6, qg34_7, rfl, rfl, rfl, rfl, frg34⟩ := hg34
          have qg34_0b : ag34 32 = pput u ac L := by first | exact qg34_0 | rw [qg34_0, hv32_32] | (rw [qg34_0]; exact hv32_32)
          have qg34_1b : ag34 31 4 = ac := by first | exact qg34_1 | rw [qg34_1, hv32_31_4] | (rw [qg34_1]; exact hv32_31_4)
          have qg34_2b : ag34 31 5 = pNs h 0 sp29 := by first | exact qg34_2 | rw [qg34_2, hv32_31_5] | (rw [qg34_2]; exact hv32_31_5)
          have qg34_3b : ag34 31 6 = en := by first | exact qg34_3 | rw [qg34_3, hv32_31_6] | (rw [qg34_3]; exact hv32_31_6)
          have qg34_4b : ag34 31 7 = pNw h 0 sp29 := by first | exact qg34_4 | rw [qg34_4, hv32_31_7] | (rw [qg34_4]; exact hv32_31_7)
          have qg34_5b : ag34 31 8 = op := by first | exact qg34_5 | rw [qg34_5, hv32_31_8] | (rw [qg34_5]; exact hv32_31_8)
          have qg34_6b : ag34 31 3 = vi 31 3 := by first | exact qg34_6 | rw [qg34_6, hv32_31_3] | (rw [qg34_6]; exact hv32_31_3)
          have qg34_7b : ag34 31 22 = vi 31 22 := by first | exact qg34_7 | rw [qg34_7, hv32_31_22] | (rw [qg34_7]; exact hv32_31_22)
          have frvig34 : ∀ k : Nat, (¬ k = 31 ∧ ¬ k = 32) → ag34 k = vi k := fun k hk => (frg34 k (by omega)).trans (frv32 k hk)
          obtain ⟨sp35, hsp35⟩ : ∃ z : Int, z = pNs h 0 sp29 := ⟨_, rfl⟩
          have esp35 : ag34 31 5 = sp35 := by rw [hsp35]; exact qg34_2b
          obtain ⟨w36, hw36⟩ : ∃ z : Int, z = pNw h 0 sp29 := ⟨_, rfl⟩
          have ew36 : ag34 31 7 = w36 := by rw [hw36]; exact qg34_4b
          have hfsp35 := pN_r (w := 0) hen (sp := sp29) (by omega)
          rw [← hsp35, ← hw36, ← hx33] at hfsp35
          refine vx_istore hC (lv1 := [(4, xa_i x33), (3, xa_i x27), (2, xa_i x21), (1, xa_i x2), (0, xa_r 31)]) (by decide) rfl eX12_factor_176 ?_
          refine vx_aload_n hC 4 rfl eX12_factor_178 ?_
          refine vx_iload_n hC 2 rfl eX12_factor_179 ?_
          refine vx_bipush hC (by decide) eX12_factor_180 ?_
          refine vx_iload_n hC 1 rfl eX12_factor_182 ?_
          refine vx_imul hC eX12_factor_183 ?_
          refine vx_iadd hC eX12_factor_184 ?_
          refine vx_bipush hC (by decide) eX12_factor_185 ?_
          refine vx_iload hC 0 rfl eX12_factor_187 ?_
          refine vx_imul hC eX12_factor_189 ?_
          refine vx_iadd hC eX12_factor_190 ?_
          refine vx_callV_v hC (kX12_emits G d _ _ _ _ _ hO h u ac en sp35 w36 op L qg34_0b qg34_1b esp35 qg34_3b ew36 qg34_5b hac hen (by omega) (by omega) (by omega) (x21 + 8 * x27 + 32 * x33)) ly_X12_97 (ot_31 hO) rfl rfl rfl hRm (by omega) (Nat.le_of_ble_eq_true rfl) rfl eX12_factor_191 (fun ng38 tg38 ag38 bg38 cg38 hg38 => ?_)
          obtain ⟨qg38_0, qg38_1, qg38_2, qg38_3, qg38_4, qg38_5, qg38_6, qg38_7, rfl, rfl, rfl, rfl, frg38⟩ := hg38
          have qg38_0b : ag38 32 = pput u ac pE w36 L (x21 + 8 * x27 + 32 * x33) := by first | exact qg38_0 | rw [qg38_0, qg34_0b] | (rw [qg38_0]; exact qg34_0b)
          have qg38_1b : ag38 31 4 = ac := by first | exact qg38_1 | rw [qg38_1, qg34_1b] | (rw [qg38_1]; exact qg34_1b)
          have qg38_2b : ag38 31 5 = sp35 := by first | exact qg38_2 | rw [qg38_2, esp35] | (rw [qg38_2]; exact esp35)
          have qg38_3b : ag38 31 6 = en := by first | exact qg38_3 | rw [qg38_3, qg34_3b] | (rw [qg38_3]; exact qg34_3b)
          have qg38_4b : ag38 31 7 = w36 := by first | exact qg38_4 | rw [qg38_4, ew36] | (rw [qg38_4]; exact ew36)
          have qg38_5b : ag38 31 8 = op := by first | exact qg38_5 | rw [qg38_5, qg34_5b] | (rw [qg38_5]; exact qg34_5b)
          have qg38_6b : ag38 31 3 = vi 31 3 := by first | exact qg38_6 | rw [qg38_6, qg34_6b] | (rw [qg38_6]; exact qg34_6b)
          have qg38_7b : ag38 31 22 = vi 31 22 := by first | exact qg38_7 | rw [qg38_7, qg34_7b] | (rw [qg38_7]; exact qg34_7b)
          have frvig38 : ∀ k : Nat, (¬ k = 31 ∧ ¬ k = 32) → ag38 k = vi k := fun k hk => (frg38 k (by omega)).trans (frvig34 k hk)
          obtain ⟨L39, hL39⟩ : ∃ z : List Int, z = pE w36 L (x21 + 8 * x27 + 32 * x33) := ⟨_, rfl⟩
          have eL39 : ag38 32 = pput u ac L39 := by rw [hL39]; exact qg38_0b
          have hfL39 := pE_len w36 L (x21 + 8 * x27 + 32 * x33)
          rw [← hL39] at hfL39
          have hE0 : pF h (k + 1) sp = pTest h sp := pF_tst (by omega) (by omega)
          have hs1 : sp23 = sp + 1 := by omega
          have hs2 : sp29 = sp + 2 := by omega
          have hE := hE0.trans (pTest_3 hs1 hs2 hx21 hx27 (by omega) (by omega))
          exact vx_vret hC hM eX12_factor_194 (⟨rfl, (by rw [hE, eL39]; show pput u ac L39 = pput u ac (L ++ pE (pNw h 0 sp29) [] (x21 + 8 * x27 + 32 * pNv h 0 sp29)); rw [hL39, ← pE_nil, hw36, hx33]), qg38_1b, (by rw [hE, qg38_2b, hsp35]), qg38_3b, (by rw [hE, qg38_4b]; show _ = 1 - (1 - pNw h 0 sp29); rw [hw36]; omega), qg38_5b, qg38_6b, qg38_7b, rfl, rfl, rfl, rfl, fun k hk => frvig38 k hk⟩)
        · refine vx_iconst hC eX12_factor_164 ?_
          refine vx_goto hC (tgt := 169) (by decide) eX12_factor_165 ?_
          refine vx_pi hC 7 (ot_31 hO) lp_X12_67 rfl (Or.inl rfl) (Or.inr ⟨rfl, by omega⟩) eX12_factor_169 ?_
          refine vx_vi (fun v40 hv40 => ?_)
          have hv40_32 : v40 32 = pput u ac L := by rw [hv40, xu_c _ _ _ _ (by decide), qg28_0b]
          have hv40_31_4 : v40 31 4 = ac := by rw [hv40, xu_k, fu_n _ _ _ (by decide), qg28_1b]
          have hv40_31_5 : v40 31 5 = sp29 := by rw [hv40, xu_k, fu_n _ _ _ (by decide), esp29]
          have hv40_31_6 : v40 31 6 = en := by rw [hv40, xu_k, fu_n _ _ _ (by decide), qg28_3b]
          have hv40_31_7 : v40 31 7 = 1 := by rw [hv40, xu_k, fu_s]
          have hv40_31_8 : v40 31 8 = op := by rw [hv40, xu_k, fu_n _ _ _ (by decide), qg28_5b]
          have hv40_31_3 : v40 31 3 = vi 31 3 := by rw [hv40, xu_k, fu_n _ _ _ (by decide), qg28_6b]
          have hv40_31_22 : v40 31 22 = vi 31 22 := by rw [hv40, xu_k, fu_n _ _ _ (by decide), qg28_7b]
          have frv40 : ∀ k : Nat, (¬ k = 31 ∧ ¬ k = 32) → v40 k = vi k := fun k hk => by rw [hv40, xu_c _ _ _ _ (by omega)]; exact frvig28 k hk
          refine vx_aload_n hC 3 rfl eX12_factor_172 ?_
          refine vx_callV_i hC (kX12_figures G d _ _ _ _ _ hO h u ac en sp29 1 op L hv40_32 hv40_31_4 hv40_31_5 hv40_31_6 hv40_31_7 hv40_31_8 hac hen (by omega) (by omega) (by omega)) ly_X12_111 (ot_31 hO) rfl rfl rfl hRm (by omega) (Nat.le_of_ble_eq_true rfl) rfl eX12_factor_173 (fun x41 ng42 tg42 ag42 bg42 cg42 hg42 => ?_)
          obtain ⟨hx41, qg42_0, qg42_1, qg42_2, qg42_3, qg42_4, qg42_5, qg42_6, qg42_7, rfl, rfl, rfl, rfl, frg42⟩ := hg42
          have qg42_0b : ag42 32 = pput u ac L := by first | exact qg42_0 | rw [qg42_0, hv40_32] | (rw [qg42_0]; exact hv40_32)
          have qg42_1b : ag42 31 4 = ac := by first | exact qg42_1 | rw [qg42_1, hv40_31_4] | (rw [qg42_1]; exact hv40_31_4)
          have qg42_2b : ag42 31 5 = pNs h 1 sp29 := by first | exact qg42_2 | rw [qg42_2, hv40_31_5] | (rw [qg42_2]; exact hv40_31_5)
          have qg42_3b : ag42 31 6 = en := by first | exact qg42_3 | rw [qg42_3, hv40_31_6] | (rw [qg42_3]; exact hv40_31_6)
          have qg42_4b : ag42 31 7 = pNw h 1 sp29 := by first | exact qg42_4 | rw [qg42_4, hv40_31_7] | (rw [qg42_4]; exact hv40_31_7)
          have qg42_5b : ag42 31 8 = op := by first | exact qg42_5 | rw [qg42_5, hv40_31_8] | (rw [qg42_5]; exact hv40_31_8)
          have qg42_6b : ag42 31 3 = vi 31 3 := by first | exact qg42_6 | rw [qg42_6, hv40_31_3] | (rw [qg42_6]; exact hv40_31_3)
          have qg42_7b : ag42 31 22 = vi 31 22 := by first | exact qg42_7 | rw [qg42_7, hv40_31_22] | (rw [qg42_7]; exact hv40_31_22)
          have frvig42 : ∀ k : Nat, (¬ k = 31 ∧ ¬ k = 32) → ag42 k = vi k := fun k hk => (frg42 k (by omega)).trans (frv40 k hk)
          obtain ⟨sp43, hsp43⟩ : ∃ z : Int, z = pNs h 1 sp29 := ⟨_, rfl⟩
          have esp43 : ag42 31 5 = sp43 := by rw [hsp43]; exact qg42_2b
          obtain ⟨w44, hw44⟩ : ∃ z : Int, z = pNw h 1 sp29 := ⟨_, rfl⟩
          have ew44 : ag42 31 7 = w44 := by rw [hw44]; exact qg42_4b
          have hfsp43 := pN_r (w := 1) hen (sp := sp29) (by omega)
          rw [← hsp43, ← hw44, ← hx41] at hfsp43
          refine vx_istore hC (lv1 := [(4, xa_i x41), (3, xa_i x27), (2, xa_i x21), (1, xa_i x2), (0, xa_r 31)]) (by decide) rfl eX12_factor_176 ?_
          refine vx_aload_n hC 4 rfl eX12_factor_178 ?_
          refine vx_iload_n hC 2 rfl eX12_factor_179 ?_
          refine vx_bipush hC (by decide) eX12_factor_180 ?_
          refine vx_iload_n hC 1 rfl eX12_factor_182 ?_
          refine vx_imul hC eX12_factor_183 ?_
          refine vx_iadd hC eX12_factor_184 ?_
          refine vx_bipush hC (by decide) eX12_factor_185 ?_
          refine vx_iload hC 0 rfl eX12_factor_187 ?_
          refine vx_imul hC eX12_factor_189 ?_
          refine vx_iadd hC eX12_factor_190 ?_
          refine vx_callV_v hC (kX12_emits G d _ _ _ _ _ hO h u ac en sp43 w44 op L qg42_0b qg42_1b esp43 qg42_3b ew44 qg42_5b hac hen (by omega) (by omega) (by omega) (x21 + 8 * x27 + 32 * x41)) ly_X12_97 (ot_31 hO) rfl rfl rfl hRm (by omega) (Nat.le_of_ble_eq_true rfl) rfl eX12_factor_191 (fun ng46 tg46 ag46 bg46 cg46 hg46 => ?_)
          obtain ⟨qg46_0, qg46_1, qg46_2, qg46_3, qg46_4, qg46_5, qg46_6, qg46_7, rfl, rfl, rfl, rfl, frg46⟩ := hg46
          have qg46_0b : ag46 32 = pput u ac pE w44 L (x21 + 8 * x27 + 32 * x41) := by first | exact qg46_0 | rw [qg46_0, qg42_0b] | (rw [qg46_0]; exact qg42_0b)
          have qg46_1b : ag46 31 4 = ac := by first | exact qg46_1 | rw [qg46_1, qg42_1b] | (rw [qg46_1]; exact qg42_1b)
          have qg46_2b : ag46 31 5 = sp43 := by first | exact qg46_2 | rw [qg46_2, esp43] | (rw [qg46_2]; exact esp43)
          have qg46_3b : ag46 31 6 = en := by first | exact qg46_3 | rw [qg46_3, qg42_3b] | (rw [qg46_3]; exact qg42_3b)
          have qg46_4b : ag46 31 7 = w44 := by first | exact qg46_4 | rw [qg46_4, ew44] | (rw [qg46_4]; exact ew44)
          have qg46_5b : ag46 31 8 = op := by first | exact qg46_5 | rw [qg46_5, qg42_5b] | (rw [qg46_5]; exact qg42_5b)
          have qg46_6b : ag46 31 3 = vi 31 3 := by first | exact qg46_6 | rw [qg46_6, qg42_6b] | (rw [qg46_6]; exact qg42_6b)
          have qg46_7b : ag46 31 22 = vi 31 22 := by first | exact qg46_7 | rw [qg46_7, qg42_7b] | (rw [qg46_7]; exact qg42_7b)
          have frvig46 : ∀ k : Nat, (¬ k = 31 ∧ ¬ k = 32) → ag46 k = vi k := fun k hk => (frg46 k (by omega)).trans (frvig42 k hk)
          obtain ⟨L47, hL47⟩ : ∃ z : List Int, z = pE w44 L (x21 + 8 * x27 + 32 * x41) := ⟨_, rfl⟩
          have eL47 : ag46 32 = pput u ac L47 := by rw [hL47]; exact qg46_0b
          have hfL47 := pE_len w44 L (x21 + 8 * x27 + 32 * x41)
          rw [← hL47] at hfL47
          have hE0 : pF h (k + 1) sp = pTest h sp := pF_tst (by omega) (by omega)
          have hs1 : sp23 = sp + 1 := by omega
          have hE := hE0.trans (pTest_2 hs1 (by omega) (by omega))
          exact vx_vret hC hM eX12_factor_194 (⟨rfl, (by rw [hE, eL47]; show pput u ac L47 = pput u ac (L ++ []); rw [List.append_nil]; rw [hfL47.2.2.2 (by omega)]), qg46_1b, (by rw [hE, qg46_2b]; show _ = sp23; omega), qg46_3b, (by rw [hE, qg46_4b]; show _ = 1 - (0 : Int); omega), qg46_5b, qg46_6b, qg46_7b, rfl, rfl, rfl, rfl, fun k hk => frvig46 k hk⟩)
      · refine vx_iconst hC eX12_factor_125 ?_
        refine vx_goto hC (tgt := 130) (by decide) eX12_factor_126 ?_
        refine vx_pi hC 7 (ot_31 hO) lp_X12_67 rfl (Or.inl rfl) (Or.inr ⟨rfl, by omega⟩) eX12_factor_130 ?_
        refine vx_vi (fun v48 hv48 => ?_)
        have hv48_32 : v48 32 = pput u ac L := by rw [hv48, xu_c _ _ _ _ (by decide), qg22_0b]
        have hv48_31_4 : v48 31 4 = ac := by rw [hv48, xu_k, fu_n _ _ _ (by decide), qg22_1b]
        have hv48_31_5 : v48 31 5 = sp23 := by rw [hv48, xu_k, fu_n _ _ _ (by decide), esp23]
        have hv48_31_6 : v48 31 6 = en := by rw [hv48, xu_k, fu_n _ _ _ (by decide), qg22_3b]
        have hv48_31_7 : v48 31 7 = 1 := by rw [hv48, xu_k, fu_s]
        have hv48_31_8 : v48 31 8 = op := by rw [hv48, xu_k, fu_n _ _ _ (by decide), qg22_5b]
        have hv48_31_3 : v48 31 3 = vi 31 3 := by rw [hv48, xu_k, fu_n _ _ _ (by decide), qg22_6]
        have hv48_31_22 : v48 31 22 = vi 31 22 := by rw [hv48, xu_k, fu_n _ _ _ (by decide), qg22_7]
        have frv48 : ∀ k : Nat, (¬ k = 31 ∧ ¬ k = 32) → v48 k = vi k := fun k hk => by rw [hv48, xu_c _ _ _ _ (by omega)]; exact frvig22 k hk
        refine vx_aload_n hC 2 rfl eX12_factor_133 ?_
        refine vx_gi hC 7 (ot_31 hO) lf_X12_67 rfl eX12_factor_134 ?_
        refine vx_eqi hv48_31_7 ?_
        refine vx_if_eq hC (tgt := 144) (by omega) (by decide) eX12_factor_137 (fun c49 => absurd c49 (by omega)) (fun c49 => ?_)
        refine vx_iconst hC eX12_factor_140 ?_
        refine vx_goto hC (tgt := 150) (by decide) eX12_factor_141 ?_
        refine vx_istore_n hC (lv1 := [(3, xa_i 0), (2, xa_i x21), (1, xa_i x2), (0, xa_r 31)]) (by decide) rfl eX12_factor_150 ?_
        refine vx_aload_n hC 3 rfl eX12_factor_151 ?_
        refine vx_aload_n hC 3 rfl eX12_factor_152 ?_
        refine vx_gi hC 7 (ot_31 hO) lf_X12_67 rfl eX12_factor_153 ?_
        refine vx_eqi hv48_31_7 ?_
        refine vx_if_ne hC (tgt := 164) (by omega) (by decide) eX12_factor_156 (fun c50 => ?_) (fun c50 => absurd c50 (by omega))
        refine vx_iconst hC eX12_factor_164 ?_
        refine vx_goto hC (tgt := 169) (by decide) eX12_factor_165 ?_
        refine vx_pi hC 7 (ot_31 hO) lp_X12_67 rfl (Or.inl rfl) (Or.inr ⟨rfl, by omega⟩) eX12_factor_169 ?_
        refine vx_vi (fun v51 hv51 => ?_)
        have hv51_32 : v51 32 = pput u ac L := by rw [hv51, xu_c _ _ _ _ (by decide), hv48_32]
        have hv51_31_4 : v51 31 4 = ac := by rw [hv51, xu_k, fu_n _ _ _ (by decide), hv48_31_4]
        have hv51_31_5 : v51 31 5 = sp23 := by rw [hv51, xu_k, fu_n _ _ _ (by decide), hv48_31_5]
        have hv51_31_6 : v51 31 6 = en := by rw [hv51, xu_k, fu_n _ _ _ (by decide), hv48_31_6]
        have hv51_31_7 : v51 31 7 = 1 := by rw [hv51, xu_k, fu_s]
        have hv51_31_8 : v51 31 8 = op := by rw [hv51, xu_k, fu_n _ _ _ (by decide), hv48_31_8]
        have hv51_31_3 : v51 31 3 = vi 31 3 := by rw [hv51, xu_k, fu_n _ _ _ (by decide), hv48_31_3]
        have hv51_31_22 : v51 31 22 = vi 31 22 := by rw [hv51, xu_k, fu_n _ _ _ (by decide), hv48_31_22]
        have frv51 : ∀ k : Nat, (¬ k = 31 ∧ ¬ k = 32) → v51 k = vi k := fun k hk => by rw [hv51, xu_c _ _ _ _ (by omega)]; exact frv48 k hk
        refine vx_aload_n hC 3 rfl eX12_factor_172 ?_
        refine vx_callV_i hC (kX12_figures G d _ _ _ _ _ hO h u ac en sp23 1 op L hv51_32 hv51_31_4 hv51_31_5 hv51_31_6 hv51_31_7 hv51_31_8 hac hen (by omega) (by omega) (by omega)) ly_X12_111 (ot_31 hO) rfl rfl rfl hRm (by omega) (Nat.le_of_ble_eq_true rfl) rfl eX12_factor_173 (fun x52 ng53 tg53 ag53 bg53 cg53 hg53 => ?_)
        obtain ⟨hx52, qg53_0, qg53_1, qg53_2, qg53_3, qg53_4, qg53_5, qg53_6, qg53_7, rfl, rfl, rfl, rfl, frg53⟩ := hg53
        have qg53_0b : ag53 32 = pput u ac L := by first | exact qg53_0 | rw [qg53_0, hv51_32] | (rw [qg53_0]; exact hv51_32)
        have qg53_1b : ag53 31 4 = ac := by first | exact qg53_1 | rw [qg53_1, hv51_31_4] | (rw [qg53_1]; exact hv51_31_4)
        have qg53_2b : ag53 31 5 = pNs h 1 sp23 := by first | exact qg53_2 | rw [qg53_2, hv51_31_5] | (rw [qg53_2]; exact hv51_31_5)
        have qg53_3b : ag53 31 6 = en := by first | exact qg53_3 | rw [qg53_3, hv51_31_6] | (rw [qg53_3]; exact hv51_31_6)
        have qg53_4b : ag53 31 7 = pNw h 1 sp23 := by first | exact qg53_4 | rw [qg53_4, hv51_31_7] | (rw [qg53_4]; exact hv51_31_7)
        have qg53_5b : ag53 31 8 = op := by first | exact qg53_5 | rw [qg53_5, hv51_31_8] | (rw [qg53_5]; exact hv51_31_8)
        have qg53_6b : ag53 31 3 = vi 31 3 := by first | exact qg53_6 | rw [qg53_6, hv51_31_3] | (rw [qg53_6]; exact hv51_31_3)
        have qg53_7b : ag53 31 22 = vi 31 22 := by first | exact qg53_7 | rw [qg53_7, hv51_31_22] | (rw [qg53_7]; exact hv51_31_22)
        have frvig53 : ∀ k : Nat, (¬ k = 31 ∧ ¬ k = 32) → ag53 k = vi k := fun k hk => (frg53 k (by omega)).trans (frv51 k hk)
        obtain ⟨sp54, hsp54⟩ : ∃ z : Int, z = pNs h 1 sp23 := ⟨_, rfl⟩
        have esp54 : ag53 31 5 = sp54 := by rw [hsp54]; exact qg53_2b
        obtain ⟨w55, hw55⟩ : ∃ z : Int, z = pNw h 1 sp23 := ⟨_, rfl⟩
        have ew55 : ag53 31 7 = w55 := by rw [hw55]; exact qg53_4b
        have hfsp54 := pN_r (w := 1) hen (sp := sp23) (by omega)
        rw [← hsp54, ← hw55, ← hx52] at hfsp54
        refine vx_istore hC (lv1 := [(4, xa_i x52), (3, xa_i 0), (2, xa_i x21), (1, xa_i x2), (0, xa_r 31)]) (by decide) rfl eX12_factor_176 ?_
        refine vx_aload_n hC 4 rfl eX12_factor_178 ?_
        refine vx_iload_n hC 2 rfl eX12_factor_179 ?_
        refine vx_bipush hC (by decide) eX12_factor_180 ?_
        refine vx_iload_n hC 1 rfl eX12_factor_182 ?_
        refine vx_imul hC eX12_factor_183 ?_
        refine vx_iadd hC eX12_factor_184 ?_
        refine vx_bipush hC (by decide) eX12_factor_185 ?_
        refine vx_iload hC 0 rfl eX12_factor_187 ?_
        refine vx_imul hC eX12_factor_189 ?_
        refine vx_iadd hC eX12_factor_190 ?_
        refine vx_callV_v hC (kX12_emits G d _ _ _ _ _ hO h u ac en sp54 w55 op L qg53_0b qg53_1b esp54 qg53_3b ew55 qg53_5b hac hen (by omega) (by omega) (by omega) (x21 + 8 * 0 + 32 * x52)) ly_X12_97 (ot_31 hO) rfl rfl rfl hRm (by omega) (Nat.le_of_ble_eq_true rfl) rfl eX12_factor_191 (fun ng57 tg57 ag57 bg57 cg57 hg57 => ?_)
        obtain ⟨qg57_0, qg57_1, qg57_2, qg57_3, qg57_4, qg57_5, qg57_6, qg57_7, rfl, rfl, rfl, rfl, frg57⟩ := hg57
        have qg57_0b : ag57 32 = pput u ac pE w55 L (x21 + 8 * 0 + 32 * x52) := by first | exact qg57_0 | rw [qg57_0, qg53_0b] | (rw [qg57_0]; exact qg53_0b)
        have qg57_1b : ag57 31 4 = ac := by first | exact qg57_1 | rw [qg57_1, qg53_1b] | (rw [qg57_1]; exact qg53_1b)
        have qg57_2b : ag57 31 5 = sp54 := by first | exact qg57_2 | rw [qg57_2, esp54] | (rw [qg57_2]; exact esp54)
        have qg57_3b : ag57 31 6 = en := by first | exact qg57_3 | rw [qg57_3, qg53_3b] | (rw [qg57_3]; exact qg53_3b)
        have qg57_4b : ag57 31 7 = w55 := by first | exact qg57_4 | rw [qg57_4, ew55] | (rw [qg57_4]; exact ew55)
        have qg57_5b : ag57 31 8 = op := by first | exact qg57_5 | rw [qg57_5, qg53_5b] | (rw [qg57_5]; exact qg53_5b)
        have qg57_6b : ag57 31 3 = vi 31 3 := by first | exact qg57_6 | rw [qg57_6, qg53_6b] | (rw [qg57_6]; exact qg53_6b)
        have qg57_7b : ag57 31 22 = vi 31 22 := by first | exact qg57_7 | rw [qg57_7, qg53_7b] | (rw [qg57_7]; exact qg53_7b)
        have frvig57 : ∀ k : Nat, (¬ k = 31 ∧ ¬ k = 32) → ag57 k = vi k := fun k hk => (frg57 k (by omega)).trans (frvig53 k hk)
        obtain ⟨L58, hL58⟩ : ∃ z : List Int, z = pE w55 L (x21 + 8 * 0 + 32 * x52) := ⟨_, rfl⟩
        have eL58 : ag57 32 = pput u ac L58 := by rw [hL58]; exact qg57_0b
        have hfL58 := pE_len w55 L (x21 + 8 * 0 + 32 * x52)
        rw [← hL58] at hfL58
        have hE0 : pF h (k + 1) sp = pTest h sp := pF_tst (by omega) (by omega)
        have hE := hE0.trans (pTest_1 (by omega))
        exact vx_vret hC hM eX12_factor_194 (⟨rfl, (by rw [hE, eL58]; show pput u ac L58 = pput u ac (L ++ []); rw [List.append_nil]; rw [hfL58.2.2.2 (by omega)]), qg57_1b, (by rw [hE, qg57_2b]; show _ = sp; omega), qg57_3b, (by rw [hE, qg57_4b]; show _ = 1 - (0 : Int); omega), qg57_5b, qg57_6b, qg57_7b, rfl, rfl, rfl, rfl, fun k hk => frvig57 k hk⟩)
    · refine vx_aload_n hC 1 rfl eX12_factor_25 ?_
      refine vx_aload_n hC 1 rfl eX12_factor_26 ?_
      refine vx_gi hC 8 (ot_31 hO) lf_X12_91 rfl eX12_factor_27 ?_
      refine vx_eqi h8 ?_
      refine vx_iconst hC eX12_factor_30 ?_
      refine vx_icmp_ne hC (tgt := 38) (by omega) (by decide) eX12_factor_31 (fun c59 => ?_) (fun c59 => absurd c59 (by omega))
      refine vx_iconst hC eX12_factor_38 ?_
      refine vx_pi hC 7 (ot_31 hO) lp_X12_67 rfl (Or.inl rfl) (Or.inr ⟨rfl, by omega⟩) eX12_factor_39 ?_
      refine vx_vi (fun v60 hv60 => ?_)
      have hv60_32 : v60 32 = pput u ac L := by rw [hv60, xu_c _ _ _ _ (by decide), h32]
      have hv60_31_4 : v60 31 4 = ac := by rw [hv60, xu_k, fu_n _ _ _ (by decide), h4]
      have hv60_31_5 : v60 31 5 = sp := by rw [hv60, xu_k, fu_n _ _ _ (by decide), h5]
      have hv60_31_6 : v60 31 6 = en := by rw [hv60, xu_k, fu_n _ _ _ (by decide), h6]
      have hv60_31_7 : v60 31 7 = 0 := by rw [hv60, xu_k, fu_s]
      have hv60_31_8 : v60 31 8 = op := by rw [hv60, xu_k, fu_n _ _ _ (by decide), h8]
      have hv60_31_3 : v60 31 3 = vi 31 3 := by rw [hv60, xu_k, fu_n _ _ _ (by decide)]
      have hv60_31_22 : v60 31 22 = vi 31 22 := by rw [hv60, xu_k, fu_n _ _ _ (by decide)]
      have frv60 : ∀ k : Nat, (¬ k = 31 ∧ ¬ k = 32) → v60 k = vi k := fun k hk => by rw [hv60, xu_c _ _ _ _ (by omega)]
      refine vx_aload_n hC 1 rfl eX12_factor_42 ?_
      refine vx_dup hC rfl eX12_factor_43 ?_
      refine vx_gi hC 8 (ot_31 hO) lf_X12_91 rfl eX12_factor_44 ?_
      refine vx_eqi hv60_31_8 ?_
      refine vx_iconst hC eX12_factor_47 ?_
      refine vx_iadd hC eX12_factor_48 ?_
      refine vx_pi hC 8 (ot_31 hO) lp_X12_91 rfl (Or.inl rfl) (Or.inl rfl) eX12_factor_49 ?_
      refine vx_vi (fun v61 hv61 => ?_)
      have hv61_32 : v61 32 = pput u ac L := by rw [hv61, xu_c _ _ _ _ (by decide), hv60_32]
      have hv61_31_4 : v61 31 4 = ac := by rw [hv61, xu_k, fu_n _ _ _ (by decide), hv60_31_4]
      have hv61_31_5 : v61 31 5 = sp := by rw [hv61, xu_k, fu_n _ _ _ (by decide), hv60_31_5]
      have hv61_31_6 : v61 31 6 = en := by rw [hv61, xu_k, fu_n _ _ _ (by decide), hv60_31_6]
      have hv61_31_7 : v61 31 7 = 0 := by rw [hv61, xu_k, fu_n _ _ _ (by decide), hv60_31_7]
      have hv61_31_8 : v61 31 8 = (op + 1) := by rw [hv61, xu_k, fu_s]
      have hv61_31_3 : v61 31 3 = vi 31 3 := by rw [hv61, xu_k, fu_n _ _ _ (by decide), hv60_31_3]
      have hv61_31_22 : v61 31 22 = vi 31 22 := by rw [hv61, xu_k, fu_n _ _ _ (by decide), hv60_31_22]
      have frv61 : ∀ k : Nat, (¬ k = 31 ∧ ¬ k = 32) → v61 k = vi k := fun k hk => by rw [hv61, xu_c _ _ _ _ (by omega)]; exact frv60 k hk
      refine vx_aload_n hC 1 rfl eX12_factor_52 ?_
      refine vx_dup hC rfl eX12_factor_53 ?_
      refine vx_gi hC 5 (ot_31 hO) lf_X12_61 rfl eX12_factor_54 ?_
      refine vx_eqi hv61_31_5 ?_
      refine vx_aload_n hC 1 rfl eX12_factor_57 ?_
      refine vx_gi hC 7 (ot_31 hO) lf_X12_67 rfl eX12_factor_58 ?_
      refine vx_eqi hv61_31_7 ?_
      refine vx_if_eq hC (tgt := 68) (by omega) (by decide) eX12_factor_61 (fun c62 => ?_) (fun c62 => absurd c62 (by omega))
      refine vx_iconst hC eX12_factor_68 ?_
      refine vx_iadd hC eX12_factor_69 ?_
      refine vx_pi hC 5 (ot_31 hO) lp_X12_61 rfl (Or.inl rfl) (Or.inl rfl) eX12_factor_70 ?_
      refine vx_vi (fun v63 hv63 => ?_)
      have hv63_32 : v63 32 = pput u ac L := by rw [hv63, xu_c _ _ _ _ (by decide), hv61_32]
      have hv63_31_4 : v63 31 4 = ac := by rw [hv63, xu_k, fu_n _ _ _ (by decide), hv61_31_4]
      have hv63_31_5 : v63 31 5 = (sp + 1) := by rw [hv63, xu_k, fu_s]
      have hv63_31_6 : v63 31 6 = en := by rw [hv63, xu_k, fu_n _ _ _ (by decide), hv61_31_6]
      have hv63_31_7 : v63 31 7 = 0 := by rw [hv63, xu_k, fu_n _ _ _ (by decide), hv61_31_7]
      have hv63_31_8 : v63 31 8 = (op + 1) := by rw [hv63, xu_k, fu_n _ _ _ (by decide), hv61_31_8]
      have hv63_31_3 : v63 31 3 = vi 31 3 := by rw [hv63, xu_k, fu_n _ _ _ (by decide), hv61_31_3]
      have hv63_31_22 : v63 31 22 = vi 31 22 := by rw [hv63, xu_k, fu_n _ _ _ (by decide), hv61_31_22]
      have frv63 : ∀ k : Nat, (¬ k = 31 ∧ ¬ k = 32) → v63 k = vi k := fun k hk => by rw [hv63, xu_c _ _ _ _ (by omega)]; exact frv61 k hk
      refine vx_iload_n hC 0 rfl eX12_factor_73 ?_
      refine vx_bipush hC (by decide) eX12_factor_74 ?_
      refine vx_icmp_ne hC (tgt := 91) (by omega) (by decide) eX12_factor_76 (fun c64 => ?_) (fun c64 => absurd c64 (by omega))
      refine vx_aload_n hC 1 rfl eX12_factor_91 ?_
      refine vx_callV_v hC (hS d _ _ _ _ _ hO (sp + 1) L hv63_32 hv63_31_4 hv63_31_5 hv63_31_6 hv63_31_7 hv63_31_8 (by omega) (by omega)) ly_X12_100 (ot_31 hO) rfl rfl rfl hRm (by omega) (Nat.le_of_ble_eq_true rfl) rfl eX12_factor_92 (fun ng66 tg66 ag66 bg66 cg66 hg66 => ?_)
      obtain ⟨qg66_0, qg66_1, qg66_2, qg66_3, qg66_4, qg66_5, qg66_6, qg66_7, rfl, rfl, rfl, rfl, frg66⟩ := hg66
      have qg66_0b : ag66 32 = pput u ac L ++ (pEx (pF h k) h (sp + 1)).2.2 := by first | exact qg66_0 | rw [qg66_0, hv63_32] | (rw [qg66_0]; exact hv63_32)
      have qg66_1b : ag66 31 4 = ac := by first | exact qg66_1 | rw [qg66_1, hv63_31_4] | (rw [qg66_1]; exact hv63_31_4)
      have qg66_2b : ag66 31 5 = (pEx (pF h k) h (sp + 1)).2.1 := by first | exact qg66_2 | rw [qg66_2, hv63_31_5] | (rw [qg66_2]; exact hv63_31_5)
      have qg66_3b : ag66 31 6 = en := by first | exact qg66_3 | rw [qg66_3, hv63_31_6] | (rw [qg66_3]; exact hv63_31_6)
      have qg66_4b : ag66 31 7 = 1 - (pEx (pF h k) h (sp + 1)).1 := by first | exact qg66_4 | rw [qg66_4, hv63_31_7] | (rw [qg66_4]; exact hv63_31_7)
      have qg66_5b : ag66 31 8 = (op + 1) := by first | exact qg66_5 | rw [qg66_5, hv63_31_8] | (rw [qg66_5]; exact hv63_31_8)
      have qg66_6b : ag66 31 3 = vi 31 3 := by first | exact qg66_6 | rw [qg66_6, hv63_31_3] | (rw [qg66_6]; exact hv63_31_3)
      have qg66_7b : ag66 31 22 = vi 31 22 := by first | exact qg66_7 | rw [qg66_7, hv63_31_22] | (rw [qg66_7]; exact hv63_31_22)
      have frvig66 : ∀ k : Nat, (¬ k = 31 ∧ ¬ k = 32) → ag66 k = vi k := fun k hk => (frg66 k (by omega)).trans (frv63 k hk)
      obtain ⟨sp67, hsp67⟩ : ∃ z : Int, z = (pEx (pF h k) h (sp + 1)).2.1 := ⟨_, rfl⟩
      have esp67 : ag66 31 5 = sp67 := by rw [hsp67]; exact qg66_2b
      obtain ⟨w68, hw68⟩ : ∃ z : Int, z = 1 - (pEx (pF h k) h (sp + 1)).1 := ⟨_, rfl⟩
      have ew68 : ag66 31 7 = w68 := by rw [hw68]; exact qg66_4b
      obtain ⟨L69, hL69⟩ : ∃ z : List Int, z = L ++ (pEx (pF h k) h (sp + 1)).2.2 := ⟨_, rfl⟩
      have eL69 : ag66 32 = pput u ac L69 := by rw [hL69]; exact qg66_0b
      have hosp67 := (pEx_ok hen (pF_ok hen k)) (sp + 1) (by omega)
      have hlL69 : (L69.length : Int) = (L.length : Int) + ((pEx (pF h k) h (sp + 1)).2.2.length : Int) := by rw [hL69, List.length_append]; omega
      obtain ⟨o1sp67, o2sp67, o3sp67, o4sp67, o5sp67⟩ := hosp67
      refine vx_aload_n hC 1 rfl eX12_factor_95 ?_
      refine vx_bipush hC (by decide) eX12_factor_96 ?_
      refine vx_callV_v hC (kX12_must G d _ _ _ _ _ hO h u ac en sp67 w68 (op + 1) L69 eL69 qg66_1b esp67 qg66_3b ew68 qg66_5b hac hen (by omega) (by omega) (by omega) 41 (by omega)) ly_X12_84 (ot_31 hO) rfl rfl rfl hRm (by omega) (Nat.le_of_ble_eq_true rfl) rfl eX12_factor_98 (fun ng71 tg71 ag71 bg71 cg71 hg71 => ?_)
      obtain ⟨qg71_0, qg71_1, qg71_2, qg71_3, qg71_4, qg71_5, qg71_6, qg71_7, rfl, rfl, rfl, rfl, frg71⟩ := hg71
      have qg71_0b : ag71 32 = pput u ac L69 := by first | exact qg71_0 | rw [qg71_0, eL69] | (rw [qg71_0]; exact eL69)
      have qg71_1b : ag71 31 4 = ac := by first | exact qg71_1 | rw [qg71_1, qg66_1b] | (rw [qg71_1]; exact qg66_1b)
      have qg71_2b : ag71 31 5 = pMs h 41 w68 sp67 := by first | exact qg71_2 | rw [qg71_2, esp67] | (rw [qg71_2]; exact esp67)
      have qg71_3b : ag71 31 6 = en := by first | exact qg71_3 | rw [qg71_3, qg66_3b] | (rw [qg71_3]; exact qg66_3b)
      have qg71_4b : ag71 31 7 = pMw h 41 w68 sp67 := by first | exact qg71_4 | rw [qg71_4, ew68] | (rw [qg71_4]; exact ew68)
      have qg71_5b : ag71 31 8 = (op + 1) := by first | exact qg71_5 | rw [qg71_5, qg66_5b] | (rw [qg71_5]; exact qg66_5b)
      have qg71_6b : ag71 31 3 = vi 31 3 := by first | exact qg71_6 | rw [qg71_6, qg66_6b] | (rw [qg71_6]; exact qg66_6b)
      have qg71_7b : ag71 31 22 = vi 31 22 := by first | exact qg71_7 | rw [qg71_7, qg66_7b] | (rw [qg71_7]; exact qg66_7b)
      have frvig71 : ∀ k : Nat, (¬ k = 31 ∧ ¬ k = 32) → ag71 k = vi k := fun k hk => (frg71 k (by omega)).trans (frvig66 k hk)
      obtain ⟨sp72, hsp72⟩ : ∃ z : Int, z = pMs h 41 w68 sp67 := ⟨_, rfl⟩
      have esp72 : ag71 31 5 = sp72 := by rw [hsp72]; exact qg71_2b
      obtain ⟨w73, hw73⟩ : ∃ z : Int, z = pMw h 41 w68 sp67 := ⟨_, rfl⟩
      have ew73 : ag71 31 7 = w73 := by rw [hw73]; exact qg71_4b
      have hfsp72 := pM_r (c := 41) (w := w68) hen (by omega) (sp := sp67) (by omega)
      rw [← hsp72, ← hw73] at hfsp72
      refine vx_aload_n hC 1 rfl eX12_factor_101 ?_
      refine vx_dup hC rfl eX12_factor_102 ?_
      refine vx_gi hC 8 (ot_31 hO) lf_X12_91 rfl eX12_factor_103 ?_
      refine vx_eqi qg71_5b ?_
      refine vx_iconst hC eX12_factor_106 ?_
      refine vx_isub hC eX12_factor_107 ?_
      refine vx_top (fun x74 hx74 => ?_)
      refine vx_pi hC 8 (ot_31 hO) lp_X12_91 rfl (Or.inl rfl) (Or.inl rfl) eX12_factor_108 ?_
      refine vx_vi (fun v75 hv75 => ?_)
      have hv75_32 : v75 32 = pput u ac L69 := by rw [hv75, xu_c _ _ _ _ (by decide), qg71_0b]
      have hv75_31_4 : v75 31 4 = ac := by rw [hv75, xu_k, fu_n _ _ _ (by decide), qg71_1b]
      have hv75_31_5 : v75 31 5 = sp72 := by rw [hv75, xu_k, fu_n _ _ _ (by decide), esp72]
      have hv75_31_6 : v75 31 6 = en := by rw [hv75, xu_k, fu_n _ _ _ (by decide), qg71_3b]
      have hv75_31_7 : v75 31 7 = w73 := by rw [hv75, xu_k, fu_n _ _ _ (by decide), ew73]
      have hv75_31_8 : v75 31 8 = x74 := by rw [hv75, xu_k, fu_s]
      have hv75_31_3 : v75 31 3 = vi 31 3 := by rw [hv75, xu_k, fu_n _ _ _ (by decide), qg71_6b]
      have hv75_31_22 : v75 31 22 = vi 31 22 := by rw [hv75, xu_k, fu_n _ _ _ (by decide), qg71_7b]
      have frv75 : ∀ k : Nat, (¬ k = 31 ∧ ¬ k = 32) → v75 k = vi k := fun k hk => by rw [hv75, xu_c _ _ _ _ (by omega)]; exact frvig71 k hk
      have hE := pF_par (h := h) (k := k) (sp := sp) (by omega) o1sp67
      exact vx_vret hC hM eX12_factor_111 (⟨rfl, (by rw [hE, hv75_32, hL69]), hv75_31_4, (by rw [hE, hv75_31_5, hsp72, hw68, hsp67]), hv75_31_6, (by rw [hE, hv75_31_7]; show _ = 1 - (1 - pMw h 41 (1 - (pEx (pF h k) h (sp + 1)).1) (pEx (pF h k) h (sp + 1)).2.1); rw [hw73, hw68, hsp67]; omega), (by rw [hv75_31_8]; omega), hv75_31_3, hv75_31_22, rfl, rfl, rfl, rfl, fun k hk => frv75 k hk⟩)
theorem kX12_factorN (G : xg_T) (h u : Int → Int) (ac en : Int) (hac : 0 ≤ ac ∧ ac ≤ 4) (hen : pH h u en) : ∀ (k : Nat), k ≤ 5 → FC G yX12_factor cX12_factor 5 (6 + 3 * k) h u ac en (5 - (k : Int)) (pF h k) ∧ FC G yX12_some cX12_some 1 (6 + 3 * k + 2) h u ac en (5 - (k : Int)) (pEx (pF h k) h)
  | 0, _ => by
    have h0 := kX12_factor0 G h u ac en hac hen
    rw [show (5 : Int) - ((0 : Nat) : Int) = 5 by decide, show 6 + 3 * 0 = 6 by decide]
    exact ⟨h0, kX12_someS G h u ac en hac hen 5 7 2 (by decide) (pTm (pF h 0) h) (pSeq_ok hen (by omega) (Or.inl rfl) (pF_ok hen 0)) (kX12_everyS G h u ac en hac hen 5 6 1 (by decide) (pF h 0) (pF_ok hen 0) h0)⟩
  | k + 1, hk => by
    obtain ⟨hF, hS⟩ := kX12_factorN G h u ac en hac hen k (by omega)
    have e : (5 - (k : Int)) = 5 - ((k + 1 : Nat) : Int) + 1 := by omega
    rw [e] at hF hS
    have h1 := kX12_factorS G h u ac en hac hen (5 - ((k + 1 : Nat) : Int)) k (6 + 3 * k) (by omega) (by omega) hF hS
    rw [show 6 + 3 * (k + 1) = 6 + 3 * k + 3 by omega]
    exact ⟨h1, kX12_someS G h u ac en hac hen _ (6 + 3 * k + 3 + 1) (2 * (k + 1) + 1 + 1) (by omega) (pTm (pF h (k + 1)) h) (pSeq_ok hen (by omega) (Or.inl rfl) (pF_ok hen (k + 1))) (kX12_everyS G h u ac en hac hen _ (6 + 3 * k + 3) (2 * (k + 1) + 1) (by omega) (pF h (k + 1)) (pF_ok hen (k + 1)) h1)⟩
