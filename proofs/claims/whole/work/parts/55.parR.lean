theorem pput_push1 (u : Int → Int) {ac x i1 i2 v2 : Int} (L : List Int) (h0 : 0 ≤ ac ∧ ac ≤ 4) (h1 : i1 = 176 + 140 * ac + (L.length : Int)) (h2 : i2 = 171 + ac) (h3 : v2 = (L.length : Int) + 1) : fu (fu (pput u ac L) i1 x) i2 v2 = pput u ac (L ++ [x]) := by
  subst h1 h2 h3
  exact pput_push u L h0.1 h0.2
theorem pLt_step {h : Int → Int} {L : List Int} {j : Nat} {w sp : Int} (hj : j < L.length) : pLt h (L.drop j) w sp = pLt h (L.drop (j + 1)) (pMw h (L.getD j 0) w sp) (pMs h (L.getD j 0) w sp) := by
  rw [List.drop_eq_getElem_cons hj, pLt]
  simp [List.getD, hj]
theorem pLt_end {h : Int → Int} {L : List Int} {j : Nat} {w sp : Int} (hj : L.length ≤ j) : pLt h (L.drop j) w sp = (w, sp) := by
  rw [List.drop_eq_nil_of_le hj, pLt]
theorem tb_nn (i : Nat) (hi : i < 8) : ∀ x ∈ xw_byt.getD i [], 0 ≤ x := by
  have : ∀ i, i < 8 → ∀ x ∈ xw_byt.getD i [], 0 ≤ x := by decide
  exact this i hi
set_option maxHeartbeats 4000000 in
set_option maxRecDepth 100000 in
theorem kX12_hereP (G : xg_T) (d : Nat) (n : Nat) (tau : Nat → Nat × Nat) (vi vl : Nat → Int → Int) (vr : Nat → Int → Option Nat) (hO : xo n tau vr) (h u : Int → Int) (ac en sp w op : Int) (L : List Int) (h32 : vi 32 = pput u ac L) (h4 : vi 31 4 = ac) (h5 : vi 31 5 = sp) (h6 : vi 31 6 = en) (h7 : vi 31 7 = w) (h8 : vi 31 8 = op) (hac : 0 ≤ ac ∧ ac ≤ 4) (hen : pH h u en) (hsp : 0 ≤ sp ∧ sp ≤ en) (hw : w = 0 ∨ w = 1) (hL : (L.length : Int) ≤ sp)  : xm G yX12_here cX12_here 1 (some .int) (d + 1) 0 0 [xa_r 31] n tau vi vl vr (xp_i (fun z9 n1 t1 a1 b1 c1 => z9 = h sp ∧ xs_0 n tau vi vl vr n1 t1 a1 b1 c1)) := by
  refine xm.of (lv := [(0, xa_r 31)]) (by decide) (Nat.le_of_ble_eq_true rfl) rfl (fun K hC hM hRm => ?_)
  have he := hen.1
  have hh := hen.2
  have hhs := hh sp
  refine vx_aload_n hC 0 rfl eX12_here_0 ?_
  refine vx_gi hC 5 (ot_31 hO) lf_X12_61 rfl eX12_here_1 ?_
  refine vx_eqi h5 ?_
  refine vx_aload_n hC 0 rfl eX12_here_4 ?_
  refine vx_gi hC 6 (ot_31 hO) lf_X12_64 rfl eX12_here_5 ?_
  refine vx_eqi h6 ?_
  refine vx_icmp_ge hC (tgt := 26) (by omega) (by decide) eX12_here_8 (fun c1 => ?_) (fun c1 => ?_)
  · refine vx_iconst hC eX12_here_26 ?_
    exact vx_iret hC hM rfl eX12_here_27 (⟨_, rfl, by first | (rw [pput_lo _ _ _ hac.1 (by omega)]; exact (hhs.2.1 (by omega) (by omega)).symm) | exact (hhs.1 (by omega)).symm, xs_0.rf _ _ _ _ _⟩)
  · refine vx_aload_n hC 0 rfl eX12_here_11 ?_
    refine vx_gr hC 1 (ot_31 hO) lf_X12_9 rfl (or_31_1 hO) eX12_here_12 ?_
    refine vx_bipush hC (by decide) eX12_here_15 ?_
    refine vx_aload_n hC 0 rfl eX12_here_17 ?_
    refine vx_gi hC 5 (ot_31 hO) lf_X12_61 rfl eX12_here_18 ?_
    refine vx_eqi h5 ?_
    refine vx_iadd hC eX12_here_21 ?_
    refine vx_iaload hC (ot_32 hO) (by omega) (by omega) eX12_here_22 ?_
    refine vx_eqi (congrFun h32 _) ?_
    refine vx_goto hC (tgt := 27) (by decide) eX12_here_23 ?_
    exact vx_iret hC hM rfl eX12_here_27 (⟨_, rfl, by first | (rw [pput_lo _ _ _ hac.1 (by omega)]; exact (hhs.2.1 (by omega) (by omega)).symm) | exact (hhs.1 (by omega)).symm, xs_0.rf _ _ _ _ _⟩)
set_option maxHeartbeats 4000000 in
set_option maxRecDepth 100000 in
theorem kX12_must (G : xg_T) (d : Nat) (n : Nat) (tau : Nat → Nat × Nat) (vi vl : Nat → Int → Int) (vr : Nat → Int → Option Nat) (hO : xo n tau vr) (h u : Int → Int) (ac en sp w op : Int) (L : List Int) (h32 : vi 32 = pput u ac L) (h4 : vi 31 4 = ac) (h5 : vi 31 5 = sp) (h6 : vi 31 6 = en) (h7 : vi 31 7 = w) (h8 : vi 31 8 = op) (hac : 0 ≤ ac ∧ ac ≤ 4) (hen : pH h u en) (hsp : 0 ≤ sp ∧ sp ≤ en) (hw : w = 0 ∨ w = 1) (hL : (L.length : Int) ≤ sp) (c : Int) (hc : 0 ≤ c ∧ c ≤ 127) : xm G yX12_must cX12_must 2 none (d + 2) 0 0 [xa_r 31, xa_i c] n tau vi vl vr (xp_v (fun n1 t1 a1 b1 c1 => (a1 32 = pput u ac L) ∧ (a1 31 4 = ac) ∧ (a1 31 5 = (pMs h c w sp)) ∧ (a1 31 6 = en) ∧ (a1 31 7 = (pMw h c w sp)) ∧ (a1 31 8 = op) ∧ (a1 31 3 = vi 31 3) ∧ (a1 31 22 = vi 31 22) ∧ xs_I (fun k => ¬ k = 31 ∧ ¬ k = 32) n tau vi vl vr n1 t1 a1 b1 c1)) := by
  refine xm.of (lv := [(0, xa_r 31), (1, xa_i c)]) (by decide) (Nat.le_of_ble_eq_true rfl) rfl (fun K hC hM hRm => ?_)
  have he := hen.1
  have hh := hen.2
  have hhs := hh sp
  refine vx_aload_n hC 0 rfl eX12_must_0 ?_
  refine vx_aload_n hC 0 rfl eX12_must_1 ?_
  refine vx_gi hC 7 (ot_31 hO) lf_X12_67 rfl eX12_must_2 ?_
  refine vx_eqi h7 ?_
  refine vx_if_ne hC (tgt := 16) (by omega) (by decide) eX12_must_5 (fun c1 => ?_) (fun c1 => ?_)
  · refine vx_iconst hC eX12_must_16 ?_
    refine vx_goto hC (tgt := 21) (by decide) eX12_must_17 ?_
    refine vx_pi hC 7 (ot_31 hO) lp_X12_67 rfl (Or.inl rfl) (Or.inr ⟨rfl, by omega⟩) eX12_must_21 ?_
    refine vx_vi (fun v2 hv2 => ?_)
    have hv2_32 : v2 32 = pput u ac L := by rw [hv2, xu_c _ _ _ _ (by decide), h32]
    have hv2_31_4 : v2 31 4 = ac := by rw [hv2, xu_k, fu_n _ _ _ (by decide), h4]
    have hv2_31_5 : v2 31 5 = sp := by rw [hv2, xu_k, fu_n _ _ _ (by decide), h5]
    have hv2_31_6 : v2 31 6 = en := by rw [hv2, xu_k, fu_n _ _ _ (by decide), h6]
    have hv2_31_7 : v2 31 7 = 1 := by rw [hv2, xu_k, fu_s]
    have hv2_31_8 : v2 31 8 = op := by rw [hv2, xu_k, fu_n _ _ _ (by decide), h8]
    have hv2_31_3 : v2 31 3 = vi 31 3 := by rw [hv2, xu_k, fu_n _ _ _ (by decide)]
    have hv2_31_22 : v2 31 22 = vi 31 22 := by rw [hv2, xu_k, fu_n _ _ _ (by decide)]
    have frv2 : ∀ k : Nat, (¬ k = 31 ∧ ¬ k = 32) → v2 k = vi k := fun k hk => by rw [hv2, xu_c _ _ _ _ (by omega)]
    refine vx_aload_n hC 0 rfl eX12_must_24 ?_
    refine vx_dup hC rfl eX12_must_25 ?_
    refine vx_gi hC 5 (ot_31 hO) lf_X12_61 rfl eX12_must_26 ?_
    refine vx_eqi hv2_31_5 ?_
    refine vx_aload_n hC 0 rfl eX12_must_29 ?_
    refine vx_gi hC 7 (ot_31 hO) lf_X12_67 rfl eX12_must_30 ?_
    refine vx_eqi hv2_31_7 ?_
    refine vx_if_eq hC (tgt := 40) (by omega) (by decide) eX12_must_33 (fun c3 => absurd c3 (by omega)) (fun c3 => ?_)
    refine vx_iconst hC eX12_must_36 ?_
    refine vx_goto hC (tgt := 41) (by decide) eX12_must_37 ?_
    refine vx_iadd hC eX12_must_41 ?_
    refine vx_top (fun x4 hx4 => ?_)
    refine vx_pi hC 5 (ot_31 hO) lp_X12_61 rfl (Or.inl rfl) (Or.inl rfl) eX12_must_42 ?_
    refine vx_vi (fun v5 hv5 => ?_)
    have hv5_32 : v5 32 = pput u ac L := by rw [hv5, xu_c _ _ _ _ (by decide), hv2_32]
    have hv5_31_4 : v5 31 4 = ac := by rw [hv5, xu_k, fu_n _ _ _ (by decide), hv2_31_4]
    have hv5_31_5 : v5 31 5 = x4 := by rw [hv5, xu_k, fu_s]
    have hv5_31_6 : v5 31 6 = en := by rw [hv5, xu_k, fu_n _ _ _ (by decide), hv2_31_6]
    have hv5_31_7 : v5 31 7 = 1 := by rw [hv5, xu_k, fu_n _ _ _ (by decide), hv2_31_7]
    have hv5_31_8 : v5 31 8 = op := by rw [hv5, xu_k, fu_n _ _ _ (by decide), hv2_31_8]
    have hv5_31_3 : v5 31 3 = vi 31 3 := by rw [hv5, xu_k, fu_n _ _ _ (by decide), hv2_31_3]
    have hv5_31_22 : v5 31 22 = vi 31 22 := by rw [hv5, xu_k, fu_n _ _ _ (by decide), hv2_31_22]
    have frv5 : ∀ k : Nat, (¬ k = 31 ∧ ¬ k = 32) → v5 k = vi k := fun k hk => by rw [hv5, xu_c _ _ _ _ (by omega)]; exact frv2 k hk
    exact vx_vret hC hM eX12_must_45 (⟨rfl, hv5_32, hv5_31_4, (by rw [hv5_31_5]; unfold pMs; split <;> omega), hv5_31_6, (by rw [hv5_31_7]; unfold pMw; split <;> omega), hv5_31_8, hv5_31_3, hv5_31_22, rfl, rfl, rfl, rfl, fun k hk => frv5 k hk⟩)
  · refine vx_aload_n hC 0 rfl eX12_must_8 ?_
    refine vx_callV_i hC (kX12_hereP G d _ _ _ _ _ hO h u ac en sp w op L h32 h4 h5 h6 h7 h8 hac hen (by omega) (by omega) (by omega)) ly_X12_71 (ot_31 hO) rfl rfl rfl hRm (by omega) (Nat.le_of_ble_eq_true rfl) rfl eX12_must_9 (fun x6 n9 t9 a9 b9 c9 hx6 => ?_)
    obtain ⟨hx6, rfl, rfl, rfl, rfl, rfl⟩ := hx6
    have hrx6 := hh sp
    refine vx_iload_n hC 1 rfl eX12_must_12 ?_
    refine vx_icmp_eq hC (tgt := 20) (by omega) (by decide) eX12_must_13 (fun c7 => ?_) (fun c7 => ?_)
    · refine vx_iconst hC eX12_must_20 ?_
      refine vx_pi hC 7 (ot_31 hO) lp_X12_67 rfl (Or.inl rfl) (Or.inr ⟨rfl, by omega⟩) eX12_must_21 ?_
      refine vx_vi (fun v8 hv8 => ?_)
      have hv8_32 : v8 32 = pput u ac L := by rw [hv8, xu_c _ _ _ _ (by decide), h32]
      have hv8_31_4 : v8 31 4 = ac := by rw [hv8, xu_k, fu_n _ _ _ (by decide), h4]
      have hv8_31_5 : v8 31 5 = sp := by rw [hv8, xu_k, fu_n _ _ _ (by decide), h5]
      have hv8_31_6 : v8 31 6 = en := by rw [hv8, xu_k, fu_n _ _ _ (by decide), h6]
      have hv8_31_7 : v8 31 7 = 0 := by rw [hv8, xu_k, fu_s]
      have hv8_31_8 : v8 31 8 = op := by rw [hv8, xu_k, fu_n _ _ _ (by decide), h8]
      have hv8_31_3 : v8 31 3 = vi 31 3 := by rw [hv8, xu_k, fu_n _ _ _ (by decide)]
      have hv8_31_22 : v8 31 22 = vi 31 22 := by rw [hv8, xu_k, fu_n _ _ _ (by decide)]
      have frv8 : ∀ k : Nat, (¬ k = 31 ∧ ¬ k = 32) → v8 k = vi k := fun k hk => by rw [hv8, xu_c _ _ _ _ (by omega)]
      refine vx_aload_n hC 0 rfl eX12_must_24 ?_
      refine vx_dup hC rfl eX12_must_25 ?_
      refine vx_gi hC 5 (ot_31 hO) lf_X12_61 rfl eX12_must_26 ?_
      refine vx_eqi hv8_31_5 ?_
      refine vx_aload_n hC 0 rfl eX12_must_29 ?_
      refine vx_gi hC 7 (ot_31 hO) lf_X12_67 rfl eX12_must_30 ?_
      refine vx_eqi hv8_31_7 ?_
      refine vx_if_eq hC (tgt := 40) (by omega) (by decide) eX12_must_33 (fun c9 => ?_) (fun c9 => absurd c9 (by omega))
      refine vx_iconst hC eX12_must_40 ?_
      refine vx_iadd hC eX12_must_41 ?_
      refine vx_top (fun x10 hx10 => ?_)
      refine vx_pi hC 5 (ot_31 hO) lp_X12_61 rfl (Or.inl rfl) (Or.inl rfl) eX12_must_42 ?_
      refine vx_vi (fun v11 hv11 => ?_)
      have hv11_32 : v11 32 = pput u ac L := by rw [hv11, xu_c _ _ _ _ (by decide), hv8_32]
      have hv11_31_4 : v11 31 4 = ac := by rw [hv11, xu_k, fu_n _ _ _ (by decide), hv8_31_4]
      have hv11_31_5 : v11 31 5 = x10 := by rw [hv11, xu_k, fu_s]
      have hv11_31_6 : v11 31 6 = en := by rw [hv11, xu_k, fu_n _ _ _ (by decide), hv8_31_6]
      have hv11_31_7 : v11 31 7 = 0 := by rw [hv11, xu_k, fu_n _ _ _ (by decide), hv8_31_7]
      have hv11_31_8 : v11 31 8 = op := by rw [hv11, xu_k, fu_n _ _ _ (by decide), hv8_31_8]
      have hv11_31_3 : v11 31 3 = vi 31 3 := by rw [hv11, xu_k, fu_n _ _ _ (by decide), hv8_31_3]
      have hv11_31_22 : v11 31 22 = vi 31 22 := by rw [hv11, xu_k, fu_n _ _ _ (by decide), hv8_31_22]
      have frv11 : ∀ k : Nat, (¬ k = 31 ∧ ¬ k = 32) → v11 k = vi k := fun k hk => by rw [hv11, xu_c _ _ _ _ (by omega)]; exact frv8 k hk
      exact vx_vret hC hM eX12_must_45 (⟨rfl, hv11_32, hv11_31_4, (by rw [hv11_31_5]; unfold pMs; split <;> omega), hv11_31_6, (by rw [hv11_31_7]; unfold pMw; split <;> omega), hv11_31_8, hv11_31_3, hv11_31_22, rfl, rfl, rfl, rfl, fun k hk => frv11 k hk⟩)
    · refine vx_iconst hC eX12_must_16 ?_
      refine vx_goto hC (tgt := 21) (by decide) eX12_must_17 ?_
      refine vx_pi hC 7 (ot_31 hO) lp_X12_67 rfl (Or.inl rfl) (Or.inr ⟨rfl, by omega⟩) eX12_must_21 ?_
      refine vx_vi (fun v12 hv12 => ?_)
      have hv12_32 : v12 32 = pput u ac L := by rw [hv12, xu_c _ _ _ _ (by decide), h32]
      have hv12_31_4 : v12 31 4 = ac := by rw [hv12, xu_k, fu_n _ _ _ (by decide), h4]
      have hv12_31_5 : v12 31 5 = sp := by rw [hv12, xu_k, fu_n _ _ _ (by decide), h5]
      have hv12_31_6 : v12 31 6 = en := by rw [hv12, xu_k, fu_n _ _ _ (by decide), h6]
      have hv12_31_7 : v12 31 7 = 1 := by rw [hv12, xu_k, fu_s]
      have hv12_31_8 : v12 31 8 = op := by rw [hv12, xu_k, fu_n _ _ _ (by decide), h8]
      have hv12_31_3 : v12 31 3 = vi 31 3 := by rw [hv12, xu_k, fu_n _ _ _ (by decide)]
      have hv12_31_22 : v12 31 22 = vi 31 22 := by rw [hv12, xu_k, fu_n _ _ _ (by decide)]
      have frv12 : ∀ k : Nat, (¬ k = 31 ∧ ¬ k = 32) → v12 k = vi k := fun k hk => by rw [hv12, xu_c _ _ _ _ (by omega)]
      refine vx_aload_n hC 0 rfl eX12_must_24 ?_
      refine vx_dup hC rfl eX12_must_25 ?_
      refine vx_gi hC 5 (ot_31 hO) lf_X12_61 rfl eX12_must_26 ?_
      refine vx_eqi hv12_31_5 ?_
      refine vx_aload_n hC 0 rfl eX12_must_29 ?_
      refine vx_gi hC 7 (ot_31 hO) lf_X12_67 rfl eX12_must_30 ?_
      refine vx_eqi hv12_31_7 ?_
      refine vx_if_eq hC (tgt := 40) (by omega) (by decide) eX12_must_33 (fun c13 => absurd c13 (by omega)) (fun c13 => ?_)
      refine vx_iconst hC eX12_must_36 ?_
      refine vx_goto hC (tgt := 41) (by decide) eX12_must_37 ?_
      refine vx_iadd hC eX12_must_41 ?_
      refine vx_top (fun x14 hx14 => ?_)
      refine vx_pi hC 5 (ot_31 hO) lp_X12_61 rfl (Or.inl rfl) (Or.inl rfl) eX12_must_42 ?_
      refine vx_vi (fun v15 hv15 => ?_)
      have hv15_32 : v15 32 = pput u ac L := by rw [hv15, xu_c _ _ _ _ (by decide), hv12_32]
      have hv15_31_4 : v15 31 4 = ac := by rw [hv15, xu_k, fu_n _ _ _ (by decide), hv12_31_4]
      have hv15_31_5 : v15 31 5 = x14 := by rw [hv15, xu_k, fu_s]
      have hv15_31_6 : v15 31 6 = en := by rw [hv15, xu_k, fu_n _ _ _ (by decide), hv12_31_6]
      have hv15_31_7 : v15 31 7 = 1 := by rw [hv15, xu_k, fu_n _ _ _ (by decide), hv12_31_7]
      have hv15_31_8 : v15 31 8 = op := by rw [hv15, xu_k, fu_n _ _ _ (by decide), hv12_31_8]
      have hv15_31_3 : v15 31 3 = vi 31 3 := by rw [hv15, xu_k, fu_n _ _ _ (by decide), hv12_31_3]
      have hv15_31_22 : v15 31 22 = vi 31 22 := by rw [hv15, xu_k, fu_n _ _ _ (by decide), hv12_31_22]
      have frv15 : ∀ k : Nat, (¬ k = 31 ∧ ¬ k = 32) → v15 k = vi k := fun k hk => by rw [hv15, xu_c _ _ _ _ (by omega)]; exact frv12 k hk
      exact vx_vret hC hM eX12_must_45 (⟨rfl, hv15_32, hv15_31_4, (by rw [hv15_31_5]; unfold pMs; split <;> omega), hv15_31_6, (by rw [hv15_31_7]; unfold pMw; split <;> omega), hv15_31_8, hv15_31_3, hv15_31_22, rfl, rfl, rfl, rfl, fun k hk => frv15 k hk⟩)
set_option maxHeartbeats 4000000 in
set_option maxRecDepth 100000 in
theorem kX12_emits (G : xg_T) (d : Nat) (n : Nat) (tau : Nat → Nat × Nat) (vi vl : Nat → Int → Int) (vr : Nat → Int → Option Nat) (hO : xo n tau vr) (h u : Int → Int) (ac en sp w op : Int) (L : List Int) (h32 : vi 32 = pput u ac L) (h4 : vi 31 4 = ac) (h5 : vi 31 5 = sp) (h6 : vi 31 6 = en) (h7 : vi 31 7 = w) (h8 : vi 31 8 = op) (hac : 0 ≤ ac ∧ ac ≤ 4) (hen : pH h u en) (hsp : 0 ≤ sp ∧ sp ≤ en) (hw : w = 0 ∨ w = 1) (hL : (L.length : Int) ≤ sp) (x : Int) : xm G yX12_emits cX12_emits 2 none (d + 1) 0 0 [xa_r 31, xa_i x] n tau vi vl vr (xp_v (fun n1 t1 a1 b1 c1 => (a1 32 = pput u ac (pE w L x)) ∧ (a1 31 4 = ac) ∧ (a1 31 5 = sp) ∧ (a1 31 6 = en) ∧ (a1 31 7 = w) ∧ (a1 31 8 = op) ∧ (a1 31 3 = vi 31 3) ∧ (a1 31 22 = vi 31 22) ∧ xs_I (fun k => ¬ k = 31 ∧ ¬ k = 32) n tau vi vl vr n1 t1 a1 b1 c1)) := by
  refine xm.of (lv := [(0, xa_r 31), (1, xa_i x)]) (by decide) (Nat.le_of_ble_eq_true rfl) rfl (fun K hC hM hRm => ?_)
  have he := hen.1
  have hh := hen.2
  have hhs := hh sp
  refine vx_aload_n hC 0 rfl eX12_emits_0 ?_
  refine vx_gi hC 7 (ot_31 hO) lf_X12_67 rfl eX12_emits_1 ?_
  refine vx_eqi h7 ?_
  refine vx_if_ne hC (tgt := 56) (by omega) (by decide) eX12_emits_4 (fun c1 => ?_) (fun c1 => ?_)
  · exact vx_vret hC hM eX12_emits_56 (⟨rfl, (by unfold pE; first | (rw [if_neg (by omega)]; exact h32)), h4, h5, h6, h7, h8, rfl, rfl, rfl, rfl, rfl, rfl, fun k hk => rfl⟩)
  · refine vx_aload_n hC 0 rfl eX12_emits_7 ?_
    refine vx_gr hC 1 (ot_31 hO) lf_X12_9 rfl (or_31_1 hO) eX12_emits_8 ?_
    refine vx_sipush hC (by decide) eX12_emits_11 ?_
    refine vx_sipush hC (by decide) eX12_emits_14 ?_
    refine vx_aload_n hC 0 rfl eX12_emits_17 ?_
    refine vx_gi hC 4 (ot_31 hO) lf_X12_88 rfl eX12_emits_18 ?_
    refine vx_eqi h4 ?_
    refine vx_imul hC eX12_emits_21 ?_
    refine vx_iadd hC eX12_emits_22 ?_
    refine vx_aload_n hC 0 rfl eX12_emits_23 ?_
    refine vx_gr hC 1 (ot_31 hO) lf_X12_9 rfl (or_31_1 hO) eX12_emits_24 ?_
    refine vx_sipush hC (by decide) eX12_emits_27 ?_
    refine vx_aload_n hC 0 rfl eX12_emits_30 ?_
    refine vx_gi hC 4 (ot_31 hO) lf_X12_88 rfl eX12_emits_31 ?_
    refine vx_eqi h4 ?_
    refine vx_iadd hC eX12_emits_34 ?_
    refine vx_iaload hC (ot_32 hO) (by omega) (by omega) eX12_emits_35 ?_
    refine vx_eqi (congrFun h32 _) ?_
    refine vx_eqi (y := (L.length : Int)) (pput_m _ _ _) ?_
    refine vx_iadd hC eX12_emits_36 ?_
    refine vx_iload_n hC 1 rfl eX12_emits_37 ?_
    refine vx_top2 (fun x2 hx2 => ?_)
    refine vx_iastore hC (ot_32 hO) (by omega) (by omega) eX12_emits_38 ?_
    refine vx_vi (fun v3 hv3 => ?_)
    obtain ⟨f4, hf4⟩ : ∃ f, f = fu (pput u ac L) x2 x := ⟨_, rfl⟩
    have hv3_32 : v3 32 = f4 := by rw [hv3, hf4, xu_k, h32]
    have hv3_31_4 : v3 31 4 = ac := by rw [hv3, xu_c _ _ _ _ (by decide), h4]
    have hv3_31_5 : v3 31 5 = sp := by rw [hv3, xu_c _ _ _ _ (by decide), h5]
    have hv3_31_6 : v3 31 6 = en := by rw [hv3, xu_c _ _ _ _ (by decide), h6]
    have hv3_31_7 : v3 31 7 = w := by rw [hv3, xu_c _ _ _ _ (by decide), h7]
    have hv3_31_8 : v3 31 8 = op := by rw [hv3, xu_c _ _ _ _ (by decide), h8]
    have hv3_31_3 : v3 31 3 = vi 31 3 := by rw [hv3, xu_c _ _ _ _ (by decide)]
    have hv3_31_22 : v3 31 22 = vi 31 22 := by rw [hv3, xu_c _ _ _ _ (by decide)]
    have frv3 : ∀ k : Nat, (¬ k = 31 ∧ ¬ k = 32) → v3 k = vi k := fun k hk => by rw [hv3, xu_c _ _ _ _ (by omega)]
    refine vx_aload_n hC 0 rfl eX12_emits_39 ?_
    refine vx_gr hC 1 (ot_31 hO) lf_X12_9 rfl (or_31_1 hO) eX12_emits_40 ?_
    refine vx_sipush hC (by decide) eX12_emits_43 ?_
    refine vx_aload_n hC 0 rfl eX12_emits_46 ?_
    refine vx_gi hC 4 (ot_31 hO) lf_X12_88 rfl eX12_emits_47 ?_
    refine vx_eqi hv3_31_4 ?_
    refine vx_iadd hC eX12_emits_50 ?_
    refine vx_dup2 hC rfl rfl eX12_emits_51 ?_
    refine vx_iaload hC (ot_32 hO) (by omega) (by omega) eX12_emits_52 ?_
    refine vx_eqi (congrFun hv3_32 _) ?_
    refine vx_eqi (y := (L.length : Int)) (by rw [hf4, fu_n _ _ _ (by omega)]; exact pput_m _ _ _) ?_
    refine vx_iconst hC eX12_emits_53 ?_
    refine vx_iadd hC eX12_emits_54 ?_
    refine vx_top (fun x5 hx5 => ?_)
    refine vx_top2 (fun x6 hx6 => ?_)
    refine vx_iastore hC (ot_32 hO) (by omega) (by omega) eX12_emits_55 ?_
    refine vx_vi (fun v7 hv7 => ?_)
    obtain ⟨f8, hf8⟩ : ∃ f, f = fu (f4) x6 x5 := ⟨_, rfl⟩
    have hv7_32 : v7 32 = f8 := by rw [hv7, hf8, xu_k, hv3_32]
    have hv7_31_4 : v7 31 4 = ac := by rw [hv7, xu_c _ _ _ _ (by decide), hv3_31_4]
    have hv7_31_5 : v7 31 5 = sp := by rw [hv7, xu_c _ _ _ _ (by decide), hv3_31_5]
    have hv7_31_6 : v7 31 6 = en := by rw [hv7, xu_c _ _ _ _ (by decide), hv3_31_6]
    have hv7_31_7 : v7 31 7 = w := by rw [hv7, xu_c _ _ _ _ (by decide), hv3_31_7]
    have hv7_31_8 : v7 31 8 = op := by rw [hv7, xu_c _ _ _ _ (by decide), hv3_31_8]
    have hv7_31_3 : v7 31 3 = vi 31 3 := by rw [hv7, xu_c _ _ _ _ (by decide), hv3_31_3]
    have hv7_31_22 : v7 31 22 = vi 31 22 := by rw [hv7, xu_c _ _ _ _ (by decide), hv3_31_22]
    have frv7 : ∀ k : Nat, (¬ k = 31 ∧ ¬ k = 32) → v7 k = vi k := fun k hk => by rw [hv7, xu_c _ _ _ _ (by omega)]; exact frv3 k hk
    exact vx_vret hC hM eX12_emits_56 (⟨rfl, (by rw [hv7_32, hf8, hf4]; unfold pE; rw [if_pos (by omega)]; exact pput_push1 u L hac (by omega) (by omega) (by omega)), hv7_31_4, hv7_31_5, hv7_31_6, hv7_31_7, hv7_31_8, hv7_31_3, hv7_31_22, rfl, rfl, rfl, rfl, fun k hk => frv7 k hk⟩)
set_option maxHeartbeats 4000000 in
set_option maxRecDepth 100000 in
theorem kX12_figures (G : xg_T) (d : Nat) (n : Nat) (tau : Nat → Nat × Nat) (vi vl : Nat → Int → Int) (vr : Nat → Int → Option Nat) (hO : xo n tau vr) (h u : Int → Int) (ac en sp w op : Int) (L : List Int) (h32 : vi 32 = pput u ac L) (h4 : vi 31 4 = ac) (h5 : vi 31 5 = sp) (h6 : vi 31 6 = en) (h7 : vi 31 7 = w) (h8 : vi 31 8 = op) (hac : 0 ≤ ac ∧ ac ≤ 4) (hen : pH h u en) (hsp : 0 ≤ sp ∧ sp ≤ en) (hw : w = 0 ∨ w = 1) (hL : (L.length : Int) ≤ sp)  : xm G yX12_figures cX12_figures 3 (some .int) (d + 2) 0 0 [xa_r 31] n tau vi vl vr (xp_i (fun z9 n1 t1 a1 b1 c1 => (z9 = pNv h w sp) ∧ (a1 32 = pput u ac L) ∧ (a1 31 4 = ac) ∧ (a1 31 5 = (pNs h w sp)) ∧ (a1 31 6 = en) ∧ (a1 31 7 = (pNw h w sp)) ∧ (a1 31 8 = op) ∧ (a1 31 3 = vi 31 3) ∧ (a1 31 22 = vi 31 22) ∧ xs_I (fun k => ¬ k = 31 ∧ ¬ k = 32) n tau vi vl vr n1 t1 a1 b1 c1)) := by
  refine xm.of (lv := [(0, xa_r 31)]) (by decide) (Nat.le_of_ble_eq_true rfl) rfl (fun K hC hM hRm => ?_)
  have he := hen.1
  have hh := hen.2
  have hhs := hh sp
  have hhs1 := hh (sp + 1)
  refine vx_aload_n hC 0 rfl eX12_figures_0 ?_
  refine vx_aload_n hC 0 rfl eX12_figures_1 ?_
  refine vx_gi hC 7 (ot_31 hO) lf_X12_67 rfl eX12_figures_2 ?_
  refine vx_eqi h7 ?_
  refine vx_if_ne hC (tgt := 22) (by omega) (by decide) eX12_figures_5 (fun c1 => ?_) (fun c1 => ?_)
  · refine vx_iconst hC eX12_figures_22 ?_
    refine vx_goto hC (tgt := 27) (by decide) eX12_figures_23 ?_
    refine vx_pi hC 7 (ot_31 hO) lp_X12_67 rfl (Or.inl rfl) (Or.inr ⟨rfl, by omega⟩) eX12_figures_27 ?_
    refine vx_vi (fun v2 hv2 => ?_)
    have hv2_32 : v2 32 = pput u ac L := by rw [hv2, xu_c _ _ _ _ (by decide), h32]
    have hv2_31_4 : v2 31 4 = ac := by rw [hv2, xu_k, fu_n _ _ _ (by decide), h4]
    have hv2_31_5 : v2 31 5 = sp := by rw [hv2, xu_k, fu_n _ _ _ (by decide), h5]
    have hv2_31_6 : v2 31 6 = en := by rw [hv2, xu_k, fu_n _ _ _ (by decide), h6]
    have hv2_31_7 : v2 31 7 = 1 := by rw [hv2, xu_k, fu_s]
    have hv2_31_8 : v2 31 8 = op := by rw [hv2, xu_k, fu_n _ _ _ (by decide), h8]
    have hv2_31_3 : v2 31 3 = vi 31 3 := by rw [hv2, xu_k, fu_n _ _ _ (by decide)]
    have hv2_31_22 : v2 31 22 = vi 31 22 := by rw [hv2, xu_k, fu_n _ _ _ (by decide)]
    have frv2 : ∀ k : Nat, (¬ k = 31 ∧ ¬ k = 32) → v2 k = vi k := fun k hk => by rw [hv2, xu_c _ _ _ _ (by omega)]
    refine vx_iconst hC eX12_figures_30 ?_
    refine vx_istore_n hC (lv1 := [(1, xa_i 0), (0, xa_r 31)]) (by decide) rfl eX12_figures_31 ?_
    refine vx_iconst hC eX12_figures_32 ?_
    refine vx_istore_n hC (lv1 := [(2, xa_i 0), (1, xa_i 0), (0, xa_r 31)]) (by decide) rfl eX12_figures_33 ?_
    refine vx_iload_n hC 0 rfl eX12_figures_34 ?_
    refine vx_iconst hC eX12_figures_35 ?_
    refine vx_icmp_ge hC (tgt := 97) (by omega) (by decide) eX12_figures_36 (fun c3 => absurd c3 (by omega)) (fun c3 => ?_)
    refine vx_aload_n hC 2 rfl eX12_figures_39 ?_
    refine vx_gi hC 7 (ot_31 hO) lf_X12_67 rfl eX12_figures_40 ?_
    refine vx_eqi hv2_31_7 ?_
    refine vx_if_ne hC (tgt := 97) (by omega) (by decide) eX12_figures_43 (fun c4 => ?_) (fun c4 => absurd c4 (by omega))
    refine vx_iload_n hC 1 rfl eX12_figures_97 ?_
    exact vx_iret hC hM rfl eX12_figures_98 (⟨_, rfl, (by unfold pNv; (repeat' split) <;> omega), hv2_32, hv2_31_4, (by rw [hv2_31_5]; unfold pNs; (repeat' split) <;> omega), hv2_31_6, (by rw [hv2_31_7]; unfold pNw; (repeat' split) <;> omega), hv2_31_8, hv2_31_3, hv2_31_22, rfl, rfl, rfl, rfl, fun k hk => frv2 k hk⟩)
  · refine vx_aload_n hC 0 rfl eX12_figures_8 ?_
    refine vx_callV_i hC (kX12_hereP G d _ _ _ _ _ hO h u ac en sp w op L h32 h4 h5 h6 h7 h8 hac hen (by omega) (by omega) (by omega)) ly_X12_71 (ot_31 hO) rfl rfl rfl hRm (by omega) (Nat.le_of_ble_eq_true rfl) rfl eX12_figures_9 (fun x5 n9 t9 a9 b9 c9 hx5 => ?_)
    obtain ⟨hx5, rfl, rfl, rfl, rfl, rfl⟩ := hx5
    have hrx5 := hh sp
    refine vx_bipush hC (by decide) eX12_figures_12 ?_
    refine vx_bipush hC (by decide) eX12_figures_14 ?_
    refine vx_callS_i hC (kX12_in G d _ _ _ _ _ _ _ _ (by omega) (by omega) (by omega)) ly_X12_57 rfl hRm (by omega) (Nat.le_of_ble_eq_true rfl) rfl eX12_figures_16 (fun x6 n9 t9 a9 b9 c9 hx6 => ?_)
    obtain ⟨hx6, rfl, rfl, rfl, rfl, rfl⟩ := hx6
    refine vx_if_ne hC (tgt := 26) (by omega) (by decide) eX12_figures_19 (fun c7 => ?_) (fun c7 => ?_)
    · refine vx_iconst hC eX12_figures_26 ?_
      refine vx_pi hC 7 (ot_31 hO) lp_X12_67 rfl (Or.inl rfl) (Or.inr ⟨rfl, by omega⟩) eX12_figures_27 ?_
      refine vx_vi (fun v8 hv8 => ?_)
      have hv8_32 : v8 32 = pput u ac L := by rw [hv8, xu_c _ _ _ _ (by decide), h32]
      have hv8_31_4 : v8 31 4 = ac := by rw [hv8, xu_k, fu_n _ _ _ (by decide), h4]
      have hv8_31_5 : v8 31 5 = sp := by rw [hv8, xu_k, fu_n _ _ _ (by decide), h5]
      have hv8_31_6 : v8 31 6 = en := by rw [hv8, xu_k, fu_n _ _ _ (by decide), h6]
      have hv8_31_7 : v8 31 7 = 0 := by rw [hv8, xu_k, fu_s]
      have hv8_31_8 : v8 31 8 = op := by rw [hv8, xu_k, fu_n _ _ _ (by decide), h8]
      have hv8_31_3 : v8 31 3 = vi 31 3 := by rw [hv8, xu_k, fu_n _ _ _ (by decide)]
      have hv8_31_22 : v8 31 22 = vi 31 22 := by rw [hv8, xu_k, fu_n _ _ _ (by decide)]
      have frv8 : ∀ k : Nat, (¬ k = 31 ∧ ¬ k = 32) → v8 k = vi k := fun k hk => by rw [hv8, xu_c _ _ _ _ (by omega)]
      refine vx_iconst hC eX12_figures_30 ?_
      refine vx_istore_n hC (lv1 := [(1, xa_i 0), (0, xa_r 31)]) (by decide) rfl eX12_figures_31 ?_
      refine vx_iconst hC eX12_figures_32 ?_
      refine vx_istore_n hC (lv1 := [(2, xa_i 0), (1, xa_i 0), (0, xa_r 31)]) (by decide) rfl eX12_figures_33 ?_
      refine vx_iload_n hC 0 rfl eX12_figures_34 ?_
      refine vx_iconst hC eX12_figures_35 ?_
      refine vx_icmp_ge hC (tgt := 97) (by omega) (by decide) eX12_figures_36 (fun c9 => absurd c9 (by omega)) (fun c9 => ?_)
      refine vx_aload_n hC 2 rfl eX12_figures_39 ?_
      refine vx_gi hC 7 (ot_31 hO) lf_X12_67 rfl eX12_figures_40 ?_
      refine vx_eqi hv8_31_7 ?_
      refine vx_if_ne hC (tgt := 97) (by omega) (by decide) eX12_figures_43 (fun c10 => absurd c10 (by omega)) (fun c10 => ?_)
      refine vx_aload_n hC 2 rfl eX12_figures_46 ?_
      refine vx_callV_i hC (kX12_hereP G d _ _ _ _ _ hO h u ac en sp 0 op L hv8_32 hv8_31_4 hv8_31_5 hv8_31_6 hv8_31_7 hv8_31_8 hac hen (by omega) (by omega) (by omega)) ly_X12_71 (ot_31 hO) rfl rfl rfl hRm (by omega) (Nat.le_of_ble_eq_true rfl) rfl eX12_figures_47 (fun x11 n9 t9 a9 b9 c9 hx11 => ?_)
      obtain ⟨hx11, rfl, rfl, rfl, rfl, rfl⟩ := hx11
      have hrx11 := hh sp
      refine vx_bipush hC (by decide) eX12_figures_50 ?_
      refine vx_bipush hC (by decide) eX12_figures_52 ?_
      refine vx_callS_i hC (kX12_in G d _ _ _ _ _ _ _ _ (by omega) (by omega) (by omega)) ly_X12_57 rfl hRm (by omega) (Nat.le_of_ble_eq_true rfl) rfl eX12_figures_54 (fun x12 n9 t9 a9 b9 c9 hx12 => ?_)
      obtain ⟨hx12, rfl, rfl, rfl, rfl, rfl⟩ := hx12
      refine vx_if_eq hC (tgt := 97) (by omega) (by decide) eX12_figures_57 (fun c13 => ?_) (fun c13 => ?_)
      · refine vx_iload_n hC 1 rfl eX12_figures_97 ?_
        exact vx_iret hC hM rfl eX12_figures_98 (⟨_, rfl, (by unfold pNv; (repeat' split) <;> omega), hv8_32, hv8_31_4, (by rw [hv8_31_5]; unfold pNs; (repeat' split) <;> omega), hv8_31_6, (by rw [hv8_31_7]; unfold pNw; (repeat' split) <;> omega), hv8_31_8, hv8_31_3, hv8_31_22, rfl, rfl, rfl, rfl, fun k hk => frv8 k hk⟩)
      · refine vx_iload_n hC 0 rfl eX12_figures_60 ?_
        refine vx_if_eq hC (tgt := 68) (by omega) (by decide) eX12_figures_61 (fun c14 => ?_) (fun c14 => absurd c14 (by omega))
        refine vx_bipush hC (by decide) eX12_figures_68 ?_
        refine vx_iload_n hC 1 rfl eX12_figures_70 ?_
        refine vx_imul hC eX12_figures_71 ?_
        refine vx_aload_n hC 2 rfl eX12_figures_72 ?_
        refine vx_callV_i hC (kX12_hereP G d _ _ _ _ _ hO h u ac en sp 0 op L hv8_32 hv8_31_4 hv8_31_5 hv8_31_6 hv8_31_7 hv8_31_8 hac hen (by omega) (by omega) (by omega)) ly_X12_71 (ot_31 hO) rfl rfl rfl hRm (by omega) (Nat.le_of_ble_eq_true rfl) rfl eX12_figures_73 (fun x15 n9 t9 a9 b9 c9 hx15 => ?_)
        obtain ⟨hx15, rfl, rfl, rfl, rfl, rfl⟩ := hx15
        have hrx15 := hh sp
        refine vx_iadd hC eX12_figures_76 ?_
        refine vx_bipush hC (by decide) eX12_figures_77 ?_
        refine vx_isub hC eX12_figures_79 ?_
        refine vx_top (fun x16 hx16 => ?_)
        refine vx_istore_n hC (lv1 := [(1, xa_i x16), (2, xa_i 0), (0, xa_r 31)]) (by decide) rfl eX12_figures_80 ?_
        refine vx_aload_n hC 2 rfl eX12_figures_81 ?_
        refine vx_dup hC rfl eX12_figures_82 ?_
        refine vx_gi hC 5 (ot_31 hO) lf_X12_61 rfl eX12_figures_83 ?_
        refine vx_eqi hv8_31_5 ?_
        refine vx_iconst hC eX12_figures_86 ?_
        refine vx_iadd hC eX12_figures_87 ?_
        refine vx_pi hC 5 (ot_31 hO) lp_X12_61 rfl (Or.inl rfl) (Or.inl rfl) eX12_figures_88 ?_
        refine vx_vi (fun v17 hv17 => ?_)
        have hv17_32 : v17 32 = pput u ac L := by rw [hv17, xu_c _ _ _ _ (by decide), hv8_32]
        have hv17_31_4 : v17 31 4 = ac := by rw [hv17, xu_k, fu_n _ _ _ (by decide), hv8_31_4]
        have hv17_31_5 : v17 31 5 = (sp + 1) := by rw [hv17, xu_k, fu_s]
        have hv17_31_6 : v17 31 6 = en := by rw [hv17, xu_k, fu_n _ _ _ (by decide), hv8_31_6]
        have hv17_31_7 : v17 31 7 = 0 := by rw [hv17, xu_k, fu_n _ _ _ (by decide), hv8_31_7]
        have hv17_31_8 : v17 31 8 = op := by rw [hv17, xu_k, fu_n _ _ _ (by decide), hv8_31_8]
        have hv17_31_3 : v17 31 3 = vi 31 3 := by rw [hv17, xu_k, fu_n _ _ _ (by decide), hv8_31_3]
        have hv17_31_22 : v17 31 22 = vi 31 22 := by rw [hv17, xu_k, fu_n _ _ _ (by decide), hv8_31_22]
        have frv17 : ∀ k : Nat, (¬ k = 31 ∧ ¬ k = 32) → v17 k = vi k := fun k hk => by rw [hv17, xu_c _ _ _ _ (by omega)]; exact frv8 k hk
        refine vx_iinc hC (lv1 := [(2, xa_i (0 + 1)), (1, xa_i x16), (0, xa_r 31)]) 1 rfl (by decide) rfl eX12_figures_91 ?_
        refine vx_goto hC (tgt := 34) (by decide) eX12_figures_94 ?_
        refine vx_iload_n hC 0 rfl eX12_figures_34 ?_
        refine vx_iconst hC eX12_figures_35 ?_
        refine vx_icmp_ge hC (tgt := 97) (by omega) (by decide) eX12_figures_36 (fun c18 => absurd c18 (by omega)) (fun c18 => ?_)
        refine vx_aload_n hC 2 rfl eX12_figures_39 ?_
        refine vx_gi hC 7 (ot_31 hO) lf_X12_67 rfl eX12_figures_40 ?_
        refine vx_eqi hv17_31_7 ?_
        refine vx_if_ne hC (tgt := 97) (by omega) (by decide) eX12_figures_43 (fun c19 => absurd c19 (by omega)) (fun c19 => ?_)
        refine vx_aload_n hC 2 rfl eX12_figures_46 ?_
        refine vx_callV_i hC (kX12_hereP G d _ _ _ _ _ hO h u ac en (sp + 1) 0 op L hv17_32 hv17_31_4 hv17_31_5 hv17_31_6 hv17_31_7 hv17_31_8 hac hen (by omega) (by omega) (by omega)) ly_X12_71 (ot_31 hO) rfl rfl rfl hRm (by omega) (Nat.le_of_ble_eq_true rfl) rfl eX12_figures_47 (fun x20 n9 t9 a9 b9 c9 hx20 => ?_)
        obtain ⟨hx20, rfl, rfl, rfl, rfl, rfl⟩ := hx20
        have hrx20 := hh (sp + 1)
        refine vx_bipush hC (by decide) eX12_figures_50 ?_
        refine vx_bipush hC (by decide) eX12_figures_52 ?_
        refine vx_callS_i hC (kX12_in G d _ _ _ _ _ _ _ _ (by omega) (by omega) (by omega)) ly_X12_57 rfl hRm (by omega) (Nat.le_of_ble_eq_true rfl) rfl eX12_figures_54 (fun x21 n9 t9 a9 b9 c9 hx21 => ?_)
        obtain ⟨hx21, rfl, rfl, rfl, rfl, rfl⟩ := hx21
        refine vx_if_eq hC (tgt := 97) (by omega) (by decide) eX12_figures_57 (fun c22 => ?_) (fun c22 => ?_)
        · refine vx_iload_n hC 1 rfl eX12_figures_97 ?_
          exact vx_iret hC hM rfl eX12_figures_98 (⟨_, rfl, (by unfold pNv; (repeat' split) <;> omega), hv17_32, hv17_31_4, (by rw [hv17_31_5]; unfold pNs; (repeat' split) <;> omega), hv17_31_6, (by rw [hv17_31_7]; unfold pNw; (repeat' split) <;> omega), hv17_31_8, hv17_31_3, hv17_31_22, rfl, rfl, rfl, rfl, fun k hk => frv17 k hk⟩)
        · refine vx_iload_n hC 0 rfl eX12_figures_60 ?_
          refine vx_if_eq hC (tgt := 68) (by omega) (by decide) eX12_figures_61 (fun c23 => absurd c23 (by omega)) (fun c23 => ?_)
          refine vx_iload_n hC 1 rfl eX12_figures_64 ?_
          refine vx_if_le hC (tgt := 97) (by omega) (by decide) eX12_figures_65 (fun c24 => ?_) (fun c24 => ?_)
          · refine vx_iload_n hC 1 rfl eX12_figures_97 ?_
            exact vx_iret hC hM rfl eX12_figures_98 (⟨_, rfl, (by unfold pNv; (repeat' split) <;> omega), hv17_32, hv17_31_4, (by rw [hv17_31_5]; unfold pNs; (repeat' split) <;> omega), hv17_31_6, (by rw [hv17_31_7]; unfold pNw; (repeat' split) <;> omega), hv17_31_8, hv17_31_3, hv17_31_22, rfl, rfl, rfl, rfl, fun k hk => frv17 k hk⟩)
          · refine vx_bipush hC (by decide) eX12_figures_68 ?_
            refine vx_iload_n hC 1 rfl eX12_figures_70 ?_
            refine vx_imul hC eX12_figures_71 ?_
            refine vx_aload_n hC 2 rfl eX12_figures_72 ?_
            refine vx_callV_i hC (kX12_hereP G d _ _ _ _ _ hO h u ac en (sp + 1) 0 op L hv17_32 hv17_31_4 hv17_31_5 hv17_31_6 hv17_31_7 hv17_31_8 hac hen (by omega) (by omega) (by omega)) ly_X12_71 (ot_31 hO) rfl rfl rfl hRm (by omega) (Nat.le_of_ble_eq_true rfl) rfl eX12_figures_73 (fun x25 n9 t9 a9 b9 c9 hx25 => ?_)
            obtain ⟨hx25, rfl, rfl, rfl, rfl, rfl⟩ := hx25
            have hrx25 := hh (sp + 1)
            refine vx_iadd hC eX12_figures_76 ?_
            refine vx_bipush hC (by decide) eX12_figures_77 ?_
            refine vx_isub hC eX12_figures_79 ?_
            refine vx_top (fun x26 hx26 => ?_)
            refine vx_istore_n hC (lv1 := [(1, xa_i x26), (2, xa_i (0 + 1)), (0, xa_r 31)]) (by decide) rfl eX12_figures_80 ?_
            refine vx_aload_n hC 2 rfl eX12_figures_81 ?_
            refine vx_dup hC rfl eX12_figures_82 ?_
            refine vx_gi hC 5 (ot_31 hO) lf_X12_61 rfl eX12_figures_83 ?_
            refine vx_eqi hv17_31_5 ?_
            refine vx_iconst hC eX12_figures_86 ?_
            refine vx_iadd hC eX12_figures_87 ?_
            refine vx_pi hC 5 (ot_31 hO) lp_X12_61 rfl (Or.inl rfl) (Or.inl rfl) eX12_figures_88 ?_
            refine vx_vi (fun v27 hv27 => ?_)
            have hv27_32 : v27 32 = pput u ac L := by rw [hv27, xu_c _ _ _ _ (by decide), hv17_32]
            have hv27_31_4 : v27 31 4 = ac := by rw [hv27, xu_k, fu_n _ _ _ (by decide), hv17_31_4]
            have hv27_31_5 : v27 31 5 = ((sp + 1) + 1) := by rw [hv27, xu_k, fu_s]
            have hv27_31_6 : v27 31 6 = en := by rw [hv27, xu_k, fu_n _ _ _ (by decide), hv17_31_6]
            have hv27_31_7 : v27 31 7 = 0 := by rw [hv27, xu_k, fu_n _ _ _ (by decide), hv17_31_7]
            have hv27_31_8 : v27 31 8 = op := by rw [hv27, xu_k, fu_n _ _ _ (by decide), hv17_31_8]
            have hv27_31_3 : v27 31 3 = vi 31 3 := by rw [hv27, xu_k, fu_n _ _ _ (by decide), hv17_31_3]
            have hv27_31_22 : v27 31 22 = vi 31 22 := by rw [hv27, xu_k, fu_n _ _ _ (by decide), hv17_31_22]
            have frv27 : ∀ k : Nat, (¬ k = 31 ∧ ¬ k = 32) → v27 k = vi k := fun k hk => by rw [hv27, xu_c _ _ _ _ (by omega)]; exact frv17 k hk
            refine vx_iinc hC (lv1 := [(2, xa_i ((0 + 1) + 1)), (1, xa_i x26), (0, xa_r 31)]) 1 rfl (by decide) rfl eX12_figures_91 ?_
            refine vx_goto hC (tgt := 34) (by decide) eX12_figures_94 ?_
            refine vx_iload_n hC 0 rfl eX12_figures_34 ?_
            refine vx_iconst hC eX12_figures_35 ?_
            refine vx_icmp_ge hC (tgt := 97) (by omega) (by decide) eX12_figures_36 (fun c28 => ?_) (fun c28 => absurd c28 (by omega))
            refine vx_iload_n hC 1 rfl eX12_figures_97 ?_
            exact vx_iret hC hM rfl eX12_figures_98 (⟨_, rfl, (by unfold pNv; (repeat' split) <;> omega), hv27_32, hv27_31_4, (by rw [hv27_31_5]; unfold pNs; (repeat' split) <;> omega), hv27_31_6, (by rw [hv27_31_7]; unfold pNw; (repeat' split) <;> omega), hv27_31_8, hv27_31_3, hv27_31_22, rfl, rfl, rfl, rfl, fun k hk => frv27 k hk⟩)
    · refine vx_iconst hC eX12_figures_22 ?_
      refine vx_goto hC (tgt := 27) (by decide) eX12_figures_23 ?_
      refine vx_pi hC 7 (ot_31 hO) lp_X12_67 rfl (Or.inl rfl) (Or.inr ⟨rfl, by omega⟩) eX12_figures_27 ?_
      refine vx_vi (fun v29 hv29 => ?_)
      have hv29_32 : v29 32 = pput u ac L := by rw [hv29, xu_c _ _ _ _ (by decide), h32]
      have hv29_31_4 : v29 31 4 = ac := by rw [hv29, xu_k, fu_n _ _ _ (by decide), h4]
      have hv29_31_5 : v29 31 5 = sp := by rw [hv29, xu_k, fu_n _ _ _ (by decide), h5]
      have hv29_31_6 : v29 31 6 = en := by rw [hv29, xu_k, fu_n _ _ _ (by decide), h6]
      have hv29_31_7 : v29 31 7 = 1 := by rw [hv29, xu_k, fu_s]
      have hv29_31_8 : v29 31 8 = op := by rw [hv29, xu_k, fu_n _ _ _ (by decide), h8]
      have hv29_31_3 : v29 31 3 = vi 31 3 := by rw [hv29, xu_k, fu_n _ _ _ (by decide)]
      have hv29_31_22 : v29 31 22 = vi 31 22 := by rw [hv29, xu_k, fu_n _ _ _ (by decide)]
      have frv29 : ∀ k : Nat, (¬ k = 31 ∧ ¬ k = 32) → v29 k = vi k := fun k hk => by rw [hv29, xu_c _ _ _ _ (by omega)]
      refine vx_iconst hC eX12_figures_30 ?_
      refine vx_istore_n hC (lv1 := [(1, xa_i 0), (0, xa_r 31)]) (by decide) rfl eX12_figures_31 ?_
      refine vx_iconst hC eX12_figures_32 ?_
      refine vx_istore_n hC (lv1 := [(2, xa_i 0), (1, xa_i 0), (0, xa_r 31)]) (by decide) rfl eX12_figures_33 ?_
      refine vx_iload_n hC 0 rfl eX12_figures_34 ?_
      refine vx_iconst hC eX12_figures_35 ?_
      refine vx_icmp_ge hC (tgt := 97) (by omega) (by decide) eX12_figures_36 (fun c30 => absurd c30 (by omega)) (fun c30 => ?_)
      refine vx_aload_n hC 2 rfl eX12_figures_39 ?_
      refine vx_gi hC 7 (ot_31 hO) lf_X12_67 rfl eX12_figures_40 ?_
      refine vx_eqi hv29_31_7 ?_
      refine vx_if_ne hC (tgt := 97) (by omega) (by decide) eX12_figures_43 (fun c31 => ?_) (fun c31 => absurd c31 (by omega))
      refine vx_iload_n hC 1 rfl eX12_figures_97 ?_
      exact vx_iret hC hM rfl eX12_figures_98 (⟨_, rfl, (by unfold pNv; (repeat' split) <;> omega), hv29_32, hv29_31_4, (by rw [hv29_31_5]; unfold pNs; (repeat' split) <;> omega), hv29_31_6, (by rw [hv29_31_7]; unfold pNw; (repeat' split) <;> omega), hv29_31_8, hv29_31_3, hv29_31_22, rfl, rfl, rfl, rfl, fun k hk => frv29 k hk⟩)
set_option maxHeartbeats 4000000 in
set_option maxRecDepth 100000 in
theorem kX12_among (G : xg_T) (d : Nat) (n : Nat) (tau : Nat → Nat × Nat) (vi vl : Nat → Int → Int) (vr : Nat → Int → Option Nat) (hO : xo n tau vr) (h u : Int → Int) (ac en sp w op : Int) (L : List Int) (h32 : vi 32 = pput u ac L) (h4 : vi 31 4 = ac) (h5 : vi 31 5 = sp) (h6 : vi 31 6 = en) (h7 : vi 31 7 = w) (h8 : vi 31 8 = op) (hac : 0 ≤ ac ∧ ac ≤ 4) (hen : pH h u en) (hsp : 0 ≤ sp ∧ sp ≤ en) (hw : w = 0 ∨ w = 1) (hL : (L.length : Int) ≤ sp) (i : Nat) (hi : i < 8) : xm G yX12_among cX12_among 3 (some .int) (d + 5) 0 0 [xa_r 31, xa_r (1000002 + i)] n tau vi vl vr (xp_i (fun z9 n1 t1 a1 b1 c1 => (z9 = tix (h sp) (xw_byt.getD i []) 0) ∧ (a1 32 = pput u ac L) ∧ (a1 31 4 = ac) ∧ (a1 31 5 = (if tix (h sp) (xw_byt.getD i []) 0 = -1 then sp else sp + 1)) ∧ (a1 31 6 = en) ∧ (a1 31 7 = w) ∧ (a1 31 8 = op) ∧ (a1 31 3 = vi 31 3) ∧ (a1 31 22 = vi 31 22) ∧ xs_I (fun k => ¬ k = 31 ∧ ¬ k = 32) n tau vi vl vr n1 t1 a1 b1 c1)) := by
  refine xm.of (lv := [(0, xa_r 31), (1, xa_r (1000002 + i))]) (by decide) (Nat.le_of_ble_eq_true rfl) rfl (fun K hC hM hRm => ?_)
  have he := hen.1
  have hh := hen.2
  have hhs := hh sp
  have h10 := tb_l10 i hi
  refine vx_iconst hC eX12_among_0 ?_
  refine vx_istore_n hC (lv1 := [(2, xa_i 0), (0, xa_r 31), (1, xa_r (1000002 + i))]) (by decide) rfl eX12_among_1 ?_
  have LP2 : ∀ (j : Nat) (kk : Int) (hkk : 0 ≤ kk ∧ kk ≤ ((xw_byt.getD i []).length : Int)) (hres : tix (h sp) ((xw_byt.getD i []).drop kk.toNat) kk = tix (h sp) (xw_byt.getD i []) 0) (hj : ((xw_byt.getD i []).length : Int) - kk < (j : Int)), xv G K 3 (xk_Q G K (xp_i (fun z9 n1 t1 a1 b1 c1 => (z9 = tix (h sp) (xw_byt.getD i []) 0) ∧ (a1 32 = pput u ac L) ∧ (a1 31 4 = ac) ∧ (a1 31 5 = (if tix (h sp) (xw_byt.getD i []) 0 = -1 then sp else sp + 1)) ∧ (a1 31 6 = en) ∧ (a1 31 7 = w) ∧ (a1 31 8 = op) ∧ (a1 31 3 = vi 31 3) ∧ (a1 31 22 = vi 31 22) ∧ xs_I (fun k => ¬ k = 31 ∧ ¬ k = 32) n tau vi vl vr n1 t1 a1 b1 c1)) 0 0) 0 0 n tau vi vl vr 2 [(2, xa_i kk), (0, xa_r 31), (1, xa_r (1000002 + i))] [] := by
    intro j
    induction j with
    | zero => intro kk hkk hres hj; exfalso; omega
    | succ j ih =>
      intro kk hkk hres hj
      refine vx_iload_n hC 0 rfl eX12_among_2 ?_
      refine vx_aload_n hC 2 rfl eX12_among_3 ?_
      refine vx_callX_i hC (kJ0_length_8abf5 G (d + 2) _ _ _ _ _ _ hi) ly_X12_75 hi rfl rfl hRm (by omega) (Nat.le_of_ble_eq_true rfl) rfl eX12_among_4 (fun x1 n9 t9 a9 b9 c9 hx1 => ?_)
      obtain ⟨hx1, rfl, rfl, rfl, rfl, rfl⟩ := hx1
      refine vx_icmp_ge hC (tgt := 40) (by omega) (by decide) eX12_among_7 (fun c2 => ?_) (fun c2 => ?_)
      · refine vx_iconst hC eX12_among_40 ?_
        exact vx_iret hC hM rfl eX12_among_41 (⟨_, rfl, (by rw [← hres]; first | (rw [tix_end (by omega)]) | (rw [tix_step (by omega), if_pos (by omega)])), h32, h4, (by rw [h5, ← hres]; first | (rw [tix_end (by omega), if_pos rfl]) | (rw [tix_step (by omega), if_pos (show (xw_byt.getD i []).getD kk.toNat 0 = h sp by omega), if_neg (by omega)]; omega)), h6, h7, h8, rfl, rfl, rfl, rfl, rfl, rfl, fun k hk => rfl⟩)
      · have hb := tb_b i hi kk.toNat (by omega)
        refine vx_aload_n hC 1 rfl eX12_among_10 ?_
        refine vx_callV_i hC (kX12_hereP G (d + 3) _ _ _ _ _ hO h u ac en sp w op L h32 h4 h5 h6 h7 h8 hac hen (by omega) (by omega) (by omega)) ly_X12_71 (ot_31 hO) rfl rfl rfl hRm (by omega) (Nat.le_of_ble_eq_true rfl) rfl eX12_among_11 (fun x3 n9 t9 a9 b9 c9 hx3 => ?_)
        obtain ⟨hx3, rfl, rfl, rfl, rfl, rfl⟩ := hx3
        have hrx3 := hh sp
        refine vx_aload_n hC 2 rfl eX12_among_14 ?_
        refine vx_iload_n hC 0 rfl eX12_among_15 ?_
        refine vx_callX_i hC (kJ0_charAt_5068e G d _ _ _ _ _ _ hi kk (by omega)) ly_X12_80 hi rfl rfl hRm (by omega) (Nat.le_of_ble_eq_true rfl) rfl eX12_among_16 (fun x4 n9 t9 a9 b9 c9 hx4 => ?_)
        obtain ⟨hx4, rfl, rfl, rfl, rfl, rfl⟩ := hx4
        refine vx_icmp_ne hC (tgt := 34) (by omega) (by decide) eX12_among_19 (fun c5 => ?_) (fun c5 => ?_)
        · refine vx_iinc hC (lv1 := [(2, xa_i (kk + 1)), (0, xa_r 31), (1, xa_r (1000002 + i))]) 0 rfl (by decide) rfl eX12_among_34 ?_
          refine vx_goto hC (tgt := 2) (by decide) eX12_among_37 ?_
          exact ih (kk + 1) (by omega) (by rw [← hres, tix_step (j := kk.toNat) (k := kk) (by omega), if_neg (by omega), show (kk + 1).toNat = kk.toNat + 1 by omega]) (by omega)
        · refine vx_aload_n hC 1 rfl eX12_among_22 ?_
          refine vx_dup hC rfl eX12_among_23 ?_
          refine vx_gi hC 5 (ot_31 hO) lf_X12_61 rfl eX12_among_24 ?_
          refine vx_eqi h5 ?_
          refine vx_iconst hC eX12_among_27 ?_
          refine vx_iadd hC eX12_among_28 ?_
          refine vx_top (fun x6 hx6 => ?_)
          refine vx_pi hC 5 (ot_31 hO) lp_X12_61 rfl (Or.inl rfl) (Or.inl rfl) eX12_among_29 ?_
          refine vx_vi (fun v7 hv7 => ?_)
          have hv7_32 : v7 32 = pput u ac L := by rw [hv7, xu_c _ _ _ _ (by decide), h32]
          have hv7_31_4 : v7 31 4 = ac := by rw [hv7, xu_k, fu_n _ _ _ (by decide), h4]
          have hv7_31_5 : v7 31 5 = x6 := by rw [hv7, xu_k, fu_s]
          have hv7_31_6 : v7 31 6 = en := by rw [hv7, xu_k, fu_n _ _ _ (by decide), h6]
          have hv7_31_7 : v7 31 7 = w := by rw [hv7, xu_k, fu_n _ _ _ (by decide), h7]
          have hv7_31_8 : v7 31 8 = op := by rw [hv7, xu_k, fu_n _ _ _ (by decide), h8]
          have hv7_31_3 : v7 31 3 = vi 31 3 := by rw [hv7, xu_k, fu_n _ _ _ (by decide)]
          have hv7_31_22 : v7 31 22 = vi 31 22 := by rw [hv7, xu_k, fu_n _ _ _ (by decide)]
          have frv7 : ∀ k : Nat, (¬ k = 31 ∧ ¬ k = 32) → v7 k = vi k := fun k hk => by rw [hv7, xu_c _ _ _ _ (by omega)]
          refine vx_iload_n hC 0 rfl eX12_among_32 ?_
          exact vx_iret hC hM rfl eX12_among_33 (⟨_, rfl, (by rw [← hres]; first | (rw [tix_end (by omega)]) | (rw [tix_step (by omega), if_pos (by omega)])), hv7_32, hv7_31_4, (by rw [hv7_31_5, ← hres]; first | (rw [tix_end (by omega), if_pos rfl]) | (rw [tix_step (by omega), if_pos (show (xw_byt.getD i []).getD kk.toNat 0 = h sp by omega), if_neg (by omega)]; omega)), hv7_31_6, hv7_31_7, hv7_31_8, hv7_31_3, hv7_31_22, rfl, rfl, rfl, rfl, fun k hk => frv7 k hk⟩)
  exact LP2 11 0 (by omega) rfl (by omega)
set_option maxHeartbeats 4000000 in
set_option maxRecDepth 100000 in
theorem kX12_spells (G : xg_T) (d : Nat) (n : Nat) (tau : Nat → Nat × Nat) (vi vl : Nat → Int → Int) (vr : Nat → Int → Option Nat) (hO : xo n tau vr) (h u : Int → Int) (ac en sp w op : Int) (L : List Int) (h32 : vi 32 = pput u ac L) (h4 : vi 31 4 = ac) (h5 : vi 31 5 = sp) (h6 : vi 31 6 = en) (h7 : vi 31 7 = w) (h8 : vi 31 8 = op) (hac : 0 ≤ ac ∧ ac ≤ 4) (hen : pH h u en) (hsp : 0 ≤ sp ∧ sp ≤ en) (hw : w = 0 ∨ w = 1) (hL : (L.length : Int) ≤ sp) (i : Nat) (hi : i < 8) : xm G yX12_spells cX12_spells 3 none (d + 5) 0 0 [xa_r 31, xa_r (1000002 + i)] n tau vi vl vr (xp_v (fun n1 t1 a1 b1 c1 => (a1 32 = pput u ac L) ∧ (a1 31 4 = ac) ∧ (a1 31 5 = (pLt h (xw_byt.getD i []) w sp).2) ∧ (a1 31 6 = en) ∧ (a1 31 7 = (pLt h (xw_byt.getD i []) w sp).1) ∧ (a1 31 8 = op) ∧ (a1 31 3 = vi 31 3) ∧ (a1 31 22 = vi 31 22) ∧ xs_I (fun k => ¬ k = 31 ∧ ¬ k = 32) n tau vi vl vr n1 t1 a1 b1 c1)) := by
  refine xm.of (lv := [(0, xa_r 31), (1, xa_r (1000002 + i))]) (by decide) (Nat.le_of_ble_eq_true rfl) rfl (fun K hC hM hRm => ?_)
  have he := hen.1
  have hh := hen.2
  have hhs := hh sp
  have h10 := tb_l10 i hi
  refine vx_iconst hC eX12_spells_0 ?_
  refine vx_istore_n hC (lv1 := [(2, xa_i 0), (0, xa_r 31), (1, xa_r (1000002 + i))]) (by decide) rfl eX12_spells_1 ?_
  have LP2 : ∀ (j : Nat) (kk : Int) (sp1 : Int) (w1 : Int) (m2 : Nat → Int → Int) (hkk : 0 ≤ kk ∧ kk ≤ ((xw_byt.getD i []).length : Int)) (hs1 : sp ≤ sp1 ∧ sp1 ≤ en) (hw1 : w1 = 0 ∨ w1 = 1) (hres : pLt h ((xw_byt.getD i []).drop kk.toNat) w1 sp1 = pLt h (xw_byt.getD i []) w sp) (eq0 : m2 32 = pput u ac L) (eq1 : m2 31 4 = ac) (eq2 : m2 31 5 = sp1) (eq3 : m2 31 6 = en) (eq4 : m2 31 7 = w1) (eq5 : m2 31 8 = op) (eq6 : m2 31 3 = vi 31 3) (eq7 : m2 31 22 = vi 31 22) (frq : ∀ k : Nat, (¬ k = 31 ∧ ¬ k = 32) → m2 k = vi k) (hj : ((xw_byt.getD i []).length : Int) - kk < (j : Int)), xv G K 3 (xk_Q G K (xp_v (fun n1 t1 a1 b1 c1 => (a1 32 = pput u ac L) ∧ (a1 31 4 = ac) ∧ (a1 31 5 = (pLt h (xw_byt.getD i []) w sp).2) ∧ (a1 31 6 = en) ∧ (a1 31 7 = (pLt h (xw_byt.getD i []) w sp).1) ∧ (a1 31 8 = op) ∧ (a1 31 3 = vi 31 3) ∧ (a1 31 22 = vi 31 22) ∧ xs_I (fun k => ¬ k = 31 ∧ ¬ k = 32) n tau vi vl vr n1 t1 a1 b1 c1)) 0 0) 0 0 n tau m2 vl vr 2 [(2, xa_i kk), (0, xa_r 31), (1, xa_r (1000002 + i))] [] := by
    intro j
    induction j with
    | zero => intro kk sp1 w1 m2 hkk hs1 hw1 hres eq0 eq1 eq2 eq3 eq4 eq5 eq6 eq7 frq hj; exfalso; omega
    | succ j ih =>
      intro kk sp1 w1 m2 hkk hs1 hw1 hres eq0 eq1 eq2 eq3 eq4 eq5 eq6 eq7 frq hj
      refine vx_iload_n hC 0 rfl eX12_spells_2 ?_
      refine vx_aload_n hC 2 rfl eX12_spells_3 ?_
      refine vx_callX_i hC (kJ0_length_8abf5 G (d + 2) _ _ _ _ _ _ hi) ly_X12_75 hi rfl rfl hRm (by omega) (Nat.le_of_ble_eq_true rfl) rfl eX12_spells_4 (fun x1 n9 t9 a9 b9 c9 hx1 => ?_)
      obtain ⟨hx1, rfl, rfl, rfl, rfl, rfl⟩ := hx1
      refine vx_icmp_ge hC (tgt := 25) (by omega) (by decide) eX12_spells_7 (fun c2 => ?_) (fun c2 => ?_)
      · exact vx_vret hC hM eX12_spells_25 (⟨rfl, eq0, eq1, (by rw [← hres, pLt_end (by omega)]; exact eq2), eq3, (by rw [← hres, pLt_end (by omega)]; exact eq4), eq5, eq6, eq7, rfl, rfl, rfl, rfl, fun k hk => frq k hk⟩)
      · have hb := tb_b i hi kk.toNat (by omega)
        refine vx_aload_n hC 1 rfl eX12_spells_10 ?_
        refine vx_aload_n hC 2 rfl eX12_spells_11 ?_
        refine vx_iload_n hC 0 rfl eX12_spells_12 ?_
        refine vx_callX_i hC (kJ0_charAt_5068e G d _ _ _ _ _ _ hi kk (by omega)) ly_X12_80 hi rfl rfl hRm (by omega) (Nat.le_of_ble_eq_true rfl) rfl eX12_spells_13 (fun x3 n9 t9 a9 b9 c9 hx3 => ?_)
        obtain ⟨hx3, rfl, rfl, rfl, rfl, rfl⟩ := hx3
        have hby := hx3
        refine vx_callV_v hC (kX12_must G (d + 2) _ _ _ _ _ hO h u ac en sp1 w1 op L eq0 eq1 eq2 eq3 eq4 eq5 hac hen (by omega) (by omega) (by omega) x3 (by omega)) ly_X12_84 (ot_31 hO) rfl rfl rfl hRm (by omega) (Nat.le_of_ble_eq_true rfl) rfl eX12_spells_16 (fun ng5 tg5 ag5 bg5 cg5 hg5 => ?_)
        obtain ⟨qg5_0, qg5_1, qg5_2, qg5_3, qg5_4, qg5_5, qg5_6, qg5_7, rfl, rfl, rfl, rfl, frg5⟩ := hg5
        have qg5_0b : ag5 32 = pput u ac L := by first | exact qg5_0 | rw [qg5_0, eq0] | (rw [qg5_0]; exact eq0)
        have qg5_1b : ag5 31 4 = ac := by first | exact qg5_1 | rw [qg5_1, eq1] | (rw [qg5_1]; exact eq1)
        have qg5_2b : ag5 31 5 = pMs h x3 w1 sp1 := by first | exact qg5_2 | rw [qg5_2, eq2] | (rw [qg5_2]; exact eq2)
        have qg5_3b : ag5 31 6 = en := by first | exact qg5_3 | rw [qg5_3, eq3] | (rw [qg5_3]; exact eq3)
        have qg5_4b : ag5 31 7 = pMw h x3 w1 sp1 := by first | exact qg5_4 | rw [qg5_4, eq4] | (rw [qg5_4]; exact eq4)
        have qg5_5b : ag5 31 8 = op := by first | exact qg5_5 | rw [qg5_5, eq5] | (rw [qg5_5]; exact eq5)
        have qg5_6b : ag5 31 3 = vi 31 3 := by first | exact qg5_6 | rw [qg5_6, eq6] | (rw [qg5_6]; exact eq6)
        have qg5_7b : ag5 31 22 = vi 31 22 := by first | exact qg5_7 | rw [qg5_7, eq7] | (rw [qg5_7]; exact eq7)
        have frvig5 : ∀ k : Nat, (¬ k = 31 ∧ ¬ k = 32) → ag5 k = vi k := fun k hk => (frg5 k (by omega)).trans (frq k hk)
        obtain ⟨sp6, hsp6⟩ : ∃ z : Int, z = pMs h x3 w1 sp1 := ⟨_, rfl⟩
        have esp6 : ag5 31 5 = sp6 := by rw [hsp6]; exact qg5_2b
        obtain ⟨w7, hw7⟩ : ∃ z : Int, z = pMw h x3 w1 sp1 := ⟨_, rfl⟩
        have ew7 : ag5 31 7 = w7 := by rw [hw7]; exact qg5_4b
        have hfsp6 := pM_r (c := x3) (w := w1) hen (by omega) (sp := sp1) (by omega)
        rw [← hsp6, ← hw7] at hfsp6
        refine vx_iinc hC (lv1 := [(2, xa_i (kk + 1)), (0, xa_r 31), (1, xa_r (1000002 + i))]) 0 rfl (by decide) rfl eX12_spells_19 ?_
        refine vx_goto hC (tgt := 2) (by decide) eX12_spells_22 ?_
        exact ih (kk + 1) sp6 w7 ag5 (by omega) (by omega) (by omega) (by rw [← hres, pLt_step (L := xw_byt.getD i []) (j := kk.toNat) (by omega), show (kk + 1).toNat = kk.toNat + 1 by omega, hsp6, hw7, hby]) qg5_0b qg5_1b esp6 qg5_3b ew7 qg5_5b qg5_6b qg5_7b frvig5 (by omega)
  exact LP2 11 0 sp w vi (by omega) (by omega) (by omega) rfl h32 h4 h5 h6 h7 h8 rfl rfl (fun _ _ => rfl) (by omega)
set_option maxHeartbeats 4000000 in
set_option maxRecDepth 100000 in
theorem kX12_factorW (G : xg_T) (d : Nat) (n : Nat) (tau : Nat → Nat × Nat) (vi vl : Nat → Int → Int) (vr : Nat → Int → Option Nat) (hO : xo n tau vr) (h7 : vi 31 7 = 1) : xm G yX12_factor cX12_factor 5 none (d + 1) 0 0 [xa_r 31] n tau vi vl vr (xp_v (fun n1 t1 a1 b1 c1 => xs_0 n tau vi vl vr n1 t1 a1 b1 c1)) := by
  refine xm.of (lv := [(0, xa_r 31)]) (by decide) (Nat.le_of_ble_eq_true rfl) rfl (fun K hC hM hRm => ?_)
  refine vx_aload_n hC 0 rfl eX12_factor_0 ?_
  refine vx_gi hC 7 (ot_31 hO) lf_X12_67 rfl eX12_factor_1 ?_
  refine vx_eqi h7 ?_
  refine vx_if_eq hC (tgt := 8) (by omega) (by decide) eX12_factor_4 (fun c1 => absurd c1 (by omega)) (fun c1 => ?_)
  exact vx_vret hC hM eX12_factor_7 (⟨rfl, xs_0.rf _ _ _ _ _⟩)
set_option maxHeartbeats 4000000 in
set_option maxRecDepth 100000 in
theorem kX12_everyW (G : xg_T) (d : Nat) (n : Nat) (tau : Nat → Nat × Nat) (vi vl : Nat → Int → Int) (vr : Nat → Int → Option Nat) (hO : xo n tau vr) (h7 : vi 31 7 = 1) : xm G yX12_every cX12_every 1 none (d + 2) 0 0 [xa_r 31] n tau vi vl vr (xp_v (fun n1 t1 a1 b1 c1 => xs_0 n tau vi vl vr n1 t1 a1 b1 c1)) := by
  refine xm.of (lv := [(0, xa_r 31)]) (by decide) (Nat.le_of_ble_eq_true rfl) rfl (fun K hC hM hRm => ?_)
  refine vx_aload_n hC 0 rfl eX12_every_0 ?_
  refine vx_callV_v hC (kX12_factorW G d _ _ _ _ _ hO h7) ly_X12_94 (ot_31 hO) rfl rfl rfl hRm (by omega) (Nat.le_of_ble_eq_true rfl) rfl eX12_every_1 (fun n9 t9 a9 b9 c9 hx1 => ?_)
  obtain ⟨rfl, rfl, rfl, rfl, rfl⟩ := hx1
  refine vx_aload_n hC 0 rfl eX12_every_4 ?_
  refine vx_gi hC 7 (ot_31 hO) lf_X12_67 rfl eX12_every_5 ?_
  refine vx_eqi h7 ?_
  refine vx_if_ne hC (tgt := 43) (by omega) (by decide) eX12_every_8 (fun c2 => ?_) (fun c2 => absurd c2 (by omega))
  exact vx_vret hC hM eX12_every_43 (⟨rfl, xs_0.rf _ _ _ _ _⟩)
set_option maxHeartbeats 4000000 in
set_option maxRecDepth 100000 in
theorem kX12_someW (G : xg_T) (d : Nat) (n : Nat) (tau : Nat → Nat × Nat) (vi vl : Nat → Int → Int) (vr : Nat → Int → Option Nat) (hO : xo n tau vr) (h7 : vi 31 7 = 1) : xm G yX12_some cX12_some 1 none (d + 3) 0 0 [xa_r 31] n tau vi vl vr (xp_v (fun n1 t1 a1 b1 c1 => xs_0 n tau vi vl vr n1 t1 a1 b1 c1)) := by
  refine xm.of (lv := [(0, xa_r 31)]) (by decide) (Nat.le_of_ble_eq_true rfl) rfl (fun K hC hM hRm => ?_)
  refine vx_aload_n hC 0 rfl eX12_some_0 ?_
  refine vx_callV_v hC (kX12_everyW G d _ _ _ _ _ hO h7) ly_X12_114 (ot_31 hO) rfl rfl rfl hRm (by omega) (Nat.le_of_ble_eq_true rfl) rfl eX12_some_1 (fun n9 t9 a9 b9 c9 hx1 => ?_)
  obtain ⟨rfl, rfl, rfl, rfl, rfl⟩ := hx1
  refine vx_aload_n hC 0 rfl eX12_some_4 ?_
  refine vx_gi hC 7 (ot_31 hO) lf_X12_67 rfl eX12_some_5 ?_
  refine vx_eqi h7 ?_
  refine vx_if_ne hC (tgt := 43) (by omega) (by decide) eX12_some_8 (fun c2 => ?_) (fun c2 => absurd c2 (by omega))
  exact vx_vret hC hM eX12_some_43 (⟨rfl, xs_0.rf _ _ _ _ _⟩)
def FC (G : xg_T) (y : MethodName) (cc : ByteArray) (nL ky : Nat) (h u : Int → Int) (ac en op : Int) (P : Int → pr_T) : Prop := ∀ (d n : Nat) (tau : Nat → Nat × Nat) (vi vl : Nat → Int → Int) (vr : Nat → Int → Option Nat), xo n tau vr → ∀ (sp : Int) (L : List Int), vi 32 = pput u ac L → vi 31 4 = ac → vi 31 5 = sp → vi 31 6 = en → vi 31 7 = 0 → vi 31 8 = op → (0 ≤ sp ∧ sp ≤ en) → (L.length : Int) ≤ sp → xm G y cc nL none (d + ky) 0 0 [xa_r 31] n tau vi vl vr (xp_v (fun n1 t1 a1 b1 c1 => (a1 32 = pput u ac (L ++ (P sp).2.2)) ∧ (a1 31 4 = ac) ∧ (a1 31 5 = (P sp).2.1) ∧ (a1 31 6 = en) ∧ (a1 31 7 = 1 - (P sp).1) ∧ (a1 31 8 = op) ∧ (a1 31 3 = vi 31 3) ∧ (a1 31 22 = vi 31 22) ∧ xs_I (fun k => ¬ k = 31 ∧ ¬ k = 32) n tau vi vl vr n1 t1 a1 b1 c1))
set_option maxHeartbeats 4000000 in
set_option maxRecDepth 100000 in
theorem kX12_everyS (G : xg_T) (h u : Int → Int) (ac en : Int) (hac : 0 ≤ ac ∧ ac ≤ 4) (hen : pH h u en) (op : Int) (ky b : Nat) (hky : 6 ≤ ky) (P : Int → pr_T) (hP : ∀ sp, 0 ≤ sp ∧ sp ≤ en → pOK en b sp (P sp)) (hF : FC G yX12_factor cX12_factor 5 (ky) h u ac en op (P)) : FC G yX12_every cX12_every 1 (ky + 1) h u ac en op (pSeq P h 38 (-2)) := by
  unfold FC
  intro d n tau vi vl vr hO sp L h32 h4 h5 h6 h7 h8 hsp hL
  refine xm.of (lv := [(0, xa_r 31)]) (by decide) (Nat.le_of_ble_eq_true rfl) rfl (fun K hC hM hRm => ?_)
  have he := hen.1
  have hh := hen.2
  have hhs := hh sp
  refine vx_aload_n hC 0 rfl eX12_every_0 ?_
  refine vx_callV_v hC (hF d _ _ _ _ _ hO sp L h32 h4 h5 h6 h7 h8 (by omega) (by omega)) ly_X12_94 (ot_31 hO) rfl rfl rfl hRm (by omega) (Nat.le_of_ble_eq_true rfl) rfl eX12_every_1 (fun ng2 tg2 ag2 bg2 cg2 hg2 => ?_)
  obtain ⟨qg2_0, qg2_1, qg2_2, qg2_3, qg2_4, qg2_5, qg2_6, qg2_7, rfl, rfl, rfl, rfl, frg2⟩ := hg2
  have qg2_0b : ag2 32 = pput u ac (L ++ (P sp).2.2) := by first | exact qg2_0 | rw [qg2_0, h32] | (rw [qg2_0]; exact h32)
  have qg2_1b : ag2 31 4 = ac := by first | exact qg2_1 | rw [qg2_1, h4] | (rw [qg2_1]; exact h4)
  have qg2_2b : ag2 31 5 = (P sp).2.1 := by first | exact qg2_2 | rw [qg2_2, h5] | (rw [qg2_2]; exact h5)
  have qg2_3b : ag2 31 6 = en := by first | exact qg2_3 | rw [qg2_3, h6] | (rw [qg2_3]; exact h6)
  have qg2_4b : ag2 31 7 = 1 - (P sp).1 := by first | exact qg2_4 | rw [qg2_4, h7] | (rw [qg2_4]; exact h7)
  have qg2_5b : ag2 31 8 = op := by first | exact qg2_5 | rw [qg2_5, h8] | (rw [qg2_5]; exact h8)
  have frvig2 : ∀ k : Nat, (¬ k = 31 ∧ ¬ k = 32) → ag2 k = vi k := fun k hk => (frg2 k (by omega))
  obtain ⟨sp3, hsp3⟩ : ∃ z : Int, z = (P sp).2.1 := ⟨_, rfl⟩
  have esp3 : ag2 31 5 = sp3 := by rw [hsp3]; exact qg2_2b
  obtain ⟨w4, hw4⟩ : ∃ z : Int, z = 1 - (P sp).1 := ⟨_, rfl⟩
  have ew4 : ag2 31 7 = w4 := by rw [hw4]; exact qg2_4b
  obtain ⟨L5, hL5⟩ : ∃ z : List Int, z = L ++ (P sp).2.2 := ⟨_, rfl⟩
  have eL5 : ag2 32 = pput u ac L5 := by rw [hL5]; exact qg2_0b
  have hosp3 := hP sp (by omega)
  have hlL5 : (L5.length : Int) = (L.length : Int) + ((P sp).2.2.length : Int) := by rw [hL5, List.length_append]; omega
  obtain ⟨o1sp3, o2sp3, o3sp3, o4sp3, o5sp3⟩ := hosp3
  have LP4 : ∀ (j : Nat) (c : Nat) (sp1 : Int) (w1 : Int) (acc : List Int) (m2 : Nat → Int → Int) (hc : en - sp1 < (c : Int) ∧ sp ≤ sp1 ∧ sp1 ≤ en) (hacc : (acc.length : Int) ≤ sp1 - sp) (hinv : (w1 = 0 ∧ pLoop P h 38 (-2) c sp1 acc = pSeq P h 38 (-2) sp) ∨ (w1 = 1 ∧ (0, sp1, acc) = pSeq P h 38 (-2) sp)) (eq0 : m2 32 = pput u ac (L ++ acc)) (eq1 : m2 31 4 = ac) (eq2 : m2 31 5 = sp1) (eq3 : m2 31 6 = en) (eq4 : m2 31 7 = w1) (eq5 : m2 31 8 = op) (eq6 : m2 31 3 = vi 31 3) (eq7 : m2 31 22 = vi 31 22) (frq : ∀ k : Nat, (¬ k = 31 ∧ ¬ k = 32) → m2 k = vi k) (hj : (c : Int) < (j : Int)), xv G K 1 (xk_Q G K (xp_v (fun n1 t1 a1 b1 c1 => (a1 32 = pput u ac (L ++ ((pSeq P h 38 (-2)) sp).2.2)) ∧ (a1 31 4 = ac) ∧ (a1 31 5 = ((pSeq P h 38 (-2)) sp).2.1) ∧ (a1 31 6 = en) ∧ (a1 31 7 = 1 - ((pSeq P h 38 (-2)) sp).1) ∧ (a1 31 8 = op) ∧ (a1 31 3 = vi 31 3) ∧ (a1 31 22 = vi 31 22) ∧ xs_I (fun k => ¬ k = 31 ∧ ¬ k = 32) n tau vi vl vr n1 t1 a1 b1 c1)) 0 0) 0 0 n tau m2 vl vr 4 [(0, xa_r 31)] [] := by
    intro j
    induction j with
    | zero => intro c sp1 w1 acc m2 hc hacc hinv eq0 eq1 eq2 eq3 eq4 eq5 eq6 eq7 frq hj; exfalso; omega
    | succ j ih =>
      intro c sp1 w1 acc m2 hc hacc hinv eq0 eq1 eq2 eq3 eq4 eq5 eq6 eq7 frq hj
      refine vx_aload_n hC 0 rfl eX12_every_4 ?_
      refine vx_gi hC 7 (ot_31 hO) lf_X12_67 rfl eX12_every_5 ?_
      refine vx_eqi eq4 ?_
      refine vx_if_ne hC (tgt := 43) (by omega) (by decide) eX12_every_8 (fun c6 => ?_) (fun c6 => ?_)
      · have hE9 : (1 - w1, sp1, acc) = pSeq P h 38 (-2) sp := by rcases hinv with ⟨h8, h9⟩ | ⟨h8, h9⟩; (rw [h8]; exact pLoop_end h9 (by omega)); (rw [h8]; exact h9)
        exact vx_vret hC hM eX12_every_43 (⟨rfl, (by rw [← hE9]; exact eq0), eq1, (by rw [← hE9]; exact eq2), eq3, (by rw [← hE9]; show _ = 1 - (1 - w1); rw [eq4]; omega), eq5, eq6, eq7, rfl, rfl, rfl, rfl, fun k hk => frq k hk⟩)
      · have ew0 : m2 31 7 = 0 := by rw [eq4]; omega
        have hla : ((L ++ acc).length : Int) = (L.length : Int) + (acc.length : Int) := by rw [List.length_append]; omega
        have hres9 : pLoop P h 38 (-2) c sp1 acc = pSeq P h 38 (-2) sp := by rcases hinv with ⟨h8, h9⟩ | ⟨h8, h9⟩; exact h9; omega
        refine vx_aload_n hC 0 rfl eX12_every_11 ?_
        refine vx_callV_i hC (kX12_hereP G d _ _ _ _ _ hO h u ac en sp1 0 op (L ++ acc) eq0 eq1 eq2 eq3 ew0 eq5 hac hen (by omega) (by omega) (by omega)) ly_X12_71 (ot_31 hO) rfl rfl rfl hRm (by omega) (Nat.le_of_ble_eq_true rfl) rfl eX12_every_12 (fun x7 n9 t9 a9 b9 c9 hx7 => ?_)
        obtain ⟨hx7, rfl, rfl, rfl, rfl, rfl⟩ := hx7
        have hrx7 := hh sp1
        refine vx_bipush hC (by decide) eX12_every_15 ?_
        refine vx_icmp_ne hC (tgt := 43) (by omega) (by decide) eX12_every_17 (fun c8 => ?_) (fun c8 => ?_)
        · have hE9 : (1 - w1, sp1, acc) = pSeq P h 38 (-2) sp := by rcases hinv with ⟨h8, h9⟩ | ⟨h8, h9⟩; (rw [h8]; exact pLoop_end h9 (by omega)); (rw [h8]; exact h9)
          exact vx_vret hC hM eX12_every_43 (⟨rfl, (by rw [← hE9]; exact eq0), eq1, (by rw [← hE9]; exact eq2), eq3, (by rw [← hE9]; show _ = 1 - (1 - w1); rw [ew0]; omega), eq5, eq6, eq7, rfl, rfl, rfl, rfl, fun k hk => frq k hk⟩)
        · obtain ⟨c1, rfl⟩ : ∃ c1, c = c1 + 1 := ⟨c - 1, by omega⟩
          refine vx_aload_n hC 0 rfl eX12_every_20 ?_
          refine vx_dup hC rfl eX12_every_21 ?_
          refine vx_gi hC 5 (ot_31 hO) lf_X12_61 rfl eX12_every_22 ?_
          refine vx_eqi eq2 ?_
          refine vx_iconst hC eX12_every_25 ?_
          refine vx_iadd hC eX12_every_26 ?_
          refine vx_pi hC 5 (ot_31 hO) lp_X12_61 rfl (Or.inl rfl) (Or.inl rfl) eX12_every_27 ?_
          refine vx_vi (fun v9 hv9 => ?_)
          have hv9_32 : v9 32 = pput u ac (L ++ acc) := by rw [hv9, xu_c _ _ _ _ (by decide), eq0]
          have hv9_31_4 : v9 31 4 = ac := by rw [hv9, xu_k, fu_n _ _ _ (by decide), eq1]
          have hv9_31_5 : v9 31 5 = (sp1 + 1) := by rw [hv9, xu_k, fu_s]
          have hv9_31_6 : v9 31 6 = en := by rw [hv9, xu_k, fu_n _ _ _ (by decide), eq3]
          have hv9_31_7 : v9 31 7 = 0 := by rw [hv9, xu_k, fu_n _ _ _ (by decide), ew0]
          have hv9_31_8 : v9 31 8 = op := by rw [hv9, xu_k, fu_n _ _ _ (by decide), eq5]
          have hv9_31_3 : v9 31 3 = vi 31 3 := by rw [hv9, xu_k, fu_n _ _ _ (by decide), eq6]
          have hv9_31_22 : v9 31 22 = vi 31 22 := by rw [hv9, xu_k, fu_n _ _ _ (by decide), eq7]
          have frv9 : ∀ k : Nat, (¬ k = 31 ∧ ¬ k = 32) → v9 k = vi k := fun k hk => by rw [hv9, xu_c _ _ _ _ (by omega)]; exact frq k hk
          refine vx_aload_n hC 0 rfl eX12_every_30 ?_
          refine vx_callV_v hC (hF d _ _ _ _ _ hO (sp1 + 1) (L ++ acc) hv9_32 hv9_31_4 hv9_31_5 hv9_31_6 hv9_31_7 hv9_31_8 (by omega) (by omega)) ly_X12_94 (ot_31 hO) rfl rfl rfl hRm (by omega) (Nat.le_of_ble_eq_true rfl) rfl eX12_every_31 (fun ng11 tg11 ag11 bg11 cg11 hg11 => ?_)
          obtain ⟨qg11_0, qg11_1, qg11_2, qg11_3, qg11_4, qg11_5, qg11_6, qg11_7, rfl, rfl, rfl, rfl, frg11⟩ := hg11
          have qg11_0b : ag11 32 = pput u ac ((L ++ acc) ++ (P (sp1 + 1)).2.2) := by first | exact qg11_0 | rw [qg11_0, hv9_32] | (rw [qg11_0]; exact hv9_32)
          have qg11_1b : ag11 31 4 = ac := by first | exact qg11_1 | rw [qg11_1, hv9_31_4] | (rw [qg11_1]; exact hv9_31_4)
          have qg11_2b : ag11 31 5 = (P (sp1 + 1)).2.1 := by first | exact qg11_2 | rw [qg11_2, hv9_31_5] | (rw [qg11_2]; exact hv9_31_5)
          have qg11_3b : ag11 31 6 = en := by first | exact qg11_3 | rw [qg11_3, hv9_31_6] | (rw [qg11_3]; exact hv9_31_6)
          have qg11_4b : ag11 31 7 = 1 - (P (sp1 + 1)).1 := by first | exact qg11_4 | rw [qg11_4, hv9_31_7] | (rw [qg11_4]; exact hv9_31_7)
          have qg11_5b : ag11 31 8 = op := by first | exact qg11_5 | rw [qg11_5, hv9_31_8] | (rw [qg11_5]; exact hv9_31_8)
          have qg11_6b : ag11 31 3 = vi 31 3 := by first | exact qg11_6 | rw [qg11_6, hv9_31_3] | (rw [qg11_6]; exact hv9_31_3)
          have qg11_7b : ag11 31 22 = vi 31 22 := by first | exact qg11_7 | rw [qg11_7, hv9_31_22] | (rw [qg11_7]; exact hv9_31_22)
          have frvig11 : ∀ k : Nat, (¬ k = 31 ∧ ¬ k = 32) → ag11 k = vi k := fun k hk => (frg11 k (by omega)).trans (frv9 k hk)
          obtain ⟨sp12, hsp12⟩ : ∃ z : Int, z = (P (sp1 + 1)).2.1 := ⟨_, rfl⟩
          have esp12 : ag11 31 5 = sp12 := by rw [hsp12]; exact qg11_2b
          obtain ⟨w13, hw13⟩ : ∃ z : Int, z = 1 - (P (sp1 + 1)).1 := ⟨_, rfl⟩
          have ew13 : ag11 31 7 = w13 := by rw [hw13]; exact qg11_4b
          obtain ⟨L14, hL14⟩ : ∃ z : List Int, z = (L ++ acc) ++ (P (sp1 + 1)).2.2 := ⟨_, rfl⟩
          have eL14 : ag11 32 = pput u ac L14 := by rw [hL14]; exact qg11_0b
          have hosp12 := hP (sp1 + 1) (by omega)
          have hlL14 : (L14.length : Int) = ((L ++ acc).length : Int) + ((P (sp1 + 1)).2.2.length : Int) := by rw [hL14, List.length_append]; omega
          obtain ⟨o1sp12, o2sp12, o3sp12, o4sp12, o5sp12⟩ := hosp12
          refine vx_aload_n hC 0 rfl eX12_every_34 ?_
          refine vx_bipush hC (by decide) eX12_every_35 ?_
          refine vx_callV_v hC (kX12_emits G d _ _ _ _ _ hO h u ac en sp12 w13 op L14 eL14 qg11_1b esp12 qg11_3b ew13 qg11_5b hac hen (by omega) (by omega) (by omega) (-2)) ly_X12_97 (ot_31 hO) rfl rfl rfl hRm (by omega) (Nat.le_of_ble_eq_true rfl) rfl eX12_every_37 (fun ng16 tg16 ag16 bg16 cg16 hg16 => ?_)
          obtain ⟨qg16_0, qg16_1, qg16_2, qg16_3, qg16_4, qg16_5, qg16_6, qg16_7, rfl, rfl, rfl, rfl, frg16⟩ := hg16
          have qg16_0b : ag16 32 = pput u ac (pE w13 L14 (-2)) := by first | exact qg16_0 | rw [qg16_0, eL14] | (rw [qg16_0]; exact eL14)
          have qg16_1b : ag16 31 4 = ac := by first | exact qg16_1 | rw [qg16_1, qg11_1b] | (rw [qg16_1]; exact qg11_1b)
          have qg16_2b : ag16 31 5 = sp12 := by first | exact qg16_2 | rw [qg16_2, esp12] | (rw [qg16_2]; exact esp12)
          have qg16_3b : ag16 31 6 = en := by first | exact qg16_3 | rw [qg16_3, qg11_3b] | (rw [qg16_3]; exact qg11_3b)
          have qg16_4b : ag16 31 7 = w13 := by first | exact qg16_4 | rw [qg16_4, ew13] | (rw [qg16_4]; exact ew13)
          have qg16_5b : ag16 31 8 = op := by first | exact qg16_5 | rw [qg16_5, qg11_5b] | (rw [qg16_5]; exact qg11_5b)
          have qg16_6b : ag16 31 3 = vi 31 3 := by first | exact qg16_6 | rw [qg16_6, qg11_6b] | (rw [qg16_6]; exact qg11_6b)
          have qg16_7b : ag16 31 22 = vi 31 22 := by first | exact qg16_7 | rw [qg16_7, qg11_7b] | (rw [qg16_7]; exact qg11_7b)
          have frvig16 : ∀ k : Nat, (¬ k = 31 ∧ ¬ k = 32) → ag16 k = vi k := fun k hk => (frg16 k (by omega)).trans (frvig11 k hk)
          obtain ⟨L17, hL17⟩ : ∃ z : List Int, z = pE w13 L14 (-2) := ⟨_, rfl⟩
          have eL17 : ag16 32 = pput u ac L17 := by rw [hL17]; exact qg16_0b
          have hfL17 := pE_len w13 L14 (-2)
          rw [← hL17] at hfL17
          have hLe : L17 = L ++ pE (1 - (P (sp1 + 1)).1) (acc ++ (P (sp1 + 1)).2.2) (-2) := by rw [hL17, hL14, hw13, ← pE_app, List.append_assoc]
          have hpl := pE_len (1 - (P (sp1 + 1)).1) (acc ++ (P (sp1 + 1)).2.2) (-2)
          have hla2 : ((acc ++ (P (sp1 + 1)).2.2).length : Int) = (acc.length : Int) + ((P (sp1 + 1)).2.2.length : Int) := by rw [List.length_append]; omega
          refine vx_goto hC (tgt := 4) (by decide) eX12_every_40 ?_
          exact ih c1 sp12 w13 (pE (1 - (P (sp1 + 1)).1) (acc ++ (P (sp1 + 1)).2.2) (-2)) ag16 (by omega) (by omega) (by rw [hsp12, hw13]; exact pLoop_step hres9 (by omega) o1sp12) (by rw [← hLe]; exact eL17) qg16_1b qg16_2b qg16_3b qg16_4b qg16_5b qg16_6b qg16_7b frvig16 (by omega)
  exact LP4 102 101 sp3 w4 (P sp).2.2 ag2 (by omega) (by omega) (by rw [hsp3, hw4]; exact pSeq_start o1sp3) (by rw [← hL5]; exact eL5) qg2_1b esp3 qg2_3b ew4 qg2_5b qg2_6 qg2_7 frvig2 (by omega)
set_option maxHeartbeats 4000000 in
set_option maxRecDepth 100000 in
theorem kX12_someS (G : xg_T) (h u : Int → Int) (ac en : Int) (hac : 0 ≤ ac ∧ ac ≤ 4) (hen : pH h u en) (op : Int) (ky b : Nat) (hky : 6 ≤ ky) (P : Int → pr_T) (hP : ∀ sp, 0 ≤ sp ∧ sp ≤ en → pOK en b sp (P sp)) (hF : FC G yX12_every cX12_every 1 (ky) h u ac en op (P)) : FC G yX12_some cX12_some 1 (ky + 1) h u ac en op (pSeq P h 124 (-3)) := by
  unfold FC
  intro d n tau vi vl vr hO sp L h32 h4 h5 h6 h7 h8 hsp hL
  refine xm.of (lv := [(0, xa_r 31)]) (by decide) (Nat.le_of_ble_eq_true rfl) rfl (fun K hC hM hRm => ?_)
  have he := hen.1
  have hh := hen.2
  have hhs := hh sp
  refine vx_aload_n hC 0 rfl eX12_some_0 ?_
  refine vx_callV_v hC (hF d _ _ _ _ _ hO sp L h32 h4 h5 h6 h7 h8 (by omega) (by omega)) ly_X12_114 (ot_31 hO) rfl rfl rfl hRm (by omega) (Nat.le_of_ble_eq_true rfl) rfl eX12_some_1 (fun ng2 tg2 ag2 bg2 cg2 hg2 => ?_)
  obtain ⟨qg2_0, qg2_1, qg2_2, qg2_3, qg2_4, qg2_5, qg2_6, qg2_7, rfl, rfl, rfl, rfl, frg2⟩ := hg2
  have qg2_0b : ag2 32 = pput u ac (L ++ (P sp).2.2) := by first | exact qg2_0 | rw [qg2_0, h32] | (rw [qg2_0]; exact h32)
  have qg2_1b : ag2 31 4 = ac := by first | exact qg2_1 | rw [qg2_1, h4] | (rw [qg2_1]; exact h4)
  have qg2_2b : ag2 31 5 = (P sp).2.1 := by first | exact qg2_2 | rw [qg2_2, h5] | (rw [qg2_2]; exact h5)
  have qg2_3b : ag2 31 6 = en := by first | exact qg2_3 | rw [qg2_3, h6] | (rw [qg2_3]; exact h6)
  have qg2_4b : ag2 31 7 = 1 - (P sp).1 := by first | exact qg2_4 | rw [qg2_4, h7] | (rw [qg2_4]; exact h7)
  have qg2_5b : ag2 31 8 = op := by first | exact qg2_5 | rw [qg2_5, h8] | (rw [qg2_5]; exact h8)
  have frvig2 : ∀ k : Nat, (¬ k = 31 ∧ ¬ k = 32) → ag2 k = vi k := fun k hk => (frg2 k (by omega))
  obtain ⟨sp3, hsp3⟩ : ∃ z : Int, z = (P sp).2.1 := ⟨_, rfl⟩
  have esp3 : ag2 31 5 = sp3 := by rw [hsp3]; exact qg2_2b
  obtain ⟨w4, hw4⟩ : ∃ z : Int, z = 1 - (P sp).1 := ⟨_, rfl⟩
  have ew4 : ag2 31 7 = w4 := by rw [hw4]; exact qg2_4b
  obtain ⟨L5, hL5⟩ : ∃ z : List Int, z = L ++ (P sp).2.2 := ⟨_, rfl⟩
  have eL5 : ag2 32 = pput u ac L5 := by rw [hL5]; exact qg2_0b
  have hosp3 := hP sp (by omega)
  have hlL5 : (L5.length : Int) = (L.length : Int) + ((P sp).2.2.length : Int) := by rw [hL5, List.length_append]; omega
  obtain ⟨o1sp3, o2sp3, o3sp3, o4sp3, o5sp3⟩ := hosp3
  have LP4 : ∀ (j : Nat) (c : Nat) (sp1 : Int) (w1 : Int) (acc : List Int) (m2 : Nat → Int → Int) (hc : en - sp1 < (c : Int) ∧ sp ≤ sp1 ∧ sp1 ≤ en) (hacc : (acc.length : Int) ≤ sp1 - sp) (hinv : (w1 = 0 ∧ pLoop P h 124 (-3) c sp1 acc = pSeq P h 124 (-3) sp) ∨ (w1 = 1 ∧ (0, sp1, acc) = pSeq P h 124 (-3) sp)) (eq0 : m2 32 = pput u ac (L ++ acc)) (eq1 : m2 31 4 = ac) (eq2 : m2 31 5 = sp1) (eq3 : m2 31 6 = en) (eq4 : m2 31 7 = w1) (eq5 : m2 31 8 = op) (eq6 : m2 31 3 = vi 31 3) (eq7 : m2 31 22 = vi 31 22) (frq : ∀ k : Nat, (¬ k = 31 ∧ ¬ k = 32) → m2 k = vi k) (hj : (c : Int) < (j : Int)), xv G K 1 (xk_Q G K (xp_v (fun n1 t1 a1 b1 c1 => (a1 32 = pput u ac (L ++ ((pSeq P h 124 (-3)) sp).2.2)) ∧ (a1 31 4 = ac) ∧ (a1 31 5 = ((pSeq P h 124 (-3)) sp).2.1) ∧ (a1 31 6 = en) ∧ (a1 31 7 = 1 - ((pSeq P h 124 (-3)) sp).1) ∧ (a1 31 8 = op) ∧ (a1 31 3 = vi 31 3) ∧ (a1 31 22 = vi 31 22) ∧ xs_I (fun k => ¬ k = 31 ∧ ¬ k = 32) n tau vi vl vr n1 t1 a1 b1 c1)) 0 0) 0 0 n tau m2 vl vr 4 [(0, xa_r 31)] [] := by
    intro j
    induction j with
    | zero => intro c sp1 w1 acc m2 hc hacc hinv eq0 eq1 eq2 eq3 eq4 eq5 eq6 eq7 frq hj; exfalso; omega
    | succ j ih =>
      intro c sp1 w1 acc m2 hc hacc hinv eq0 eq1 eq2 eq3 eq4 eq5 eq6 eq7 frq hj
      refine vx_aload_n hC 0 rfl eX12_some_4 ?_
      refine vx_gi hC 7 (ot_31 hO) lf_X12_67 rfl eX12_some_5 ?_
      refine vx_eqi eq4 ?_
      refine vx_if_ne hC (tgt := 43) (by omega) (by decide) eX12_some_8 (fun c6 => ?_) (fun c6 => ?_)
      · have hE9 : (1 - w1, sp1, acc) = pSeq P h 124 (-3) sp := by rcases hinv with ⟨h8, h9⟩ | ⟨h8, h9⟩; (rw [h8]; exact pLoop_end h9 (by omega)); (rw [h8]; exact h9)
        exact vx_vret hC hM eX12_some_43 (⟨rfl, (by rw [← hE9]; exact eq0), eq1, (by rw [← hE9]; exact eq2), eq3, (by rw [← hE9]; show _ = 1 - (1 - w1); rw [eq4]; omega), eq5, eq6, eq7, rfl, rfl, rfl, rfl, fun k hk => frq k hk⟩)
      · have ew0 : m2 31 7 = 0 := by rw [eq4]; omega
        have hla : ((L ++ acc).length : Int) = (L.length : Int) + (acc.length : Int) := by rw [List.length_append]; omega
        have hres9 : pLoop P h 124 (-3) c sp1 acc = pSeq P h 124 (-3) sp := by rcases hinv with ⟨h8, h9⟩ | ⟨h8, h9⟩; exact h9; omega
        refine vx_aload_n hC 0 rfl eX12_some_11 ?_
        refine vx_callV_i hC (kX12_hereP G d _ _ _ _ _ hO h u ac en sp1 0 op (L ++ acc) eq0 eq1 eq2 eq3 ew0 eq5 hac hen (by omega) (by omega) (by omega)) ly_X12_71 (ot_31 hO) rfl rfl rfl hRm (by omega) (Nat.le_of_ble_eq_true rfl) rfl eX12_some_12 (fun x7 n9 t9 a9 b9 c9 hx7 => ?_)
        obtain ⟨hx7, rfl, rfl, rfl, rfl, rfl⟩ := hx7
        have hrx7 := hh sp1
        refine vx_bipush hC (by decide) eX12_some_15 ?_
        refine vx_icmp_ne hC (tgt := 43) (by omega) (by decide) eX12_some_17 (fun c8 => ?_) (fun c8 => ?_)
        · have hE9 : (1 - w1, sp1, acc) = pSeq P h 124 (-3) sp := by rcases hinv with ⟨h8, h9⟩ | ⟨h8, h9⟩; (rw [h8]; exact pLoop_end h9 (by omega)); (rw [h8]; exact h9)
          exact vx_vret hC hM eX12_some_43 (⟨rfl, (by rw [← hE9]; exact eq0), eq1, (by rw [← hE9]; exact eq2), eq3, (by rw [← hE9]; show _ = 1 - (1 - w1); rw [ew0]; omega), eq5, eq6, eq7, rfl, rfl, rfl, rfl, fun k hk => frq k hk⟩)
        · obtain ⟨c1, rfl⟩ : ∃ c1, c = c1 + 1 := ⟨c - 1, by omega⟩
          refine vx_aload_n hC 0 rfl eX12_some_20 ?_
          refine vx_dup hC rfl eX12_some_21 ?_
          refine vx_gi hC 5 (ot_31 hO) lf_X12_61 rfl eX12_some_22 ?_
          refine vx_eqi eq2 ?_
          refine vx_iconst hC eX12_some_25 ?_
          refine vx_iadd hC eX12_some_26 ?_
          refine vx_pi hC 5 (ot_31 hO) lp_X12_61 rfl (Or.inl rfl) (Or.inl rfl) eX12_some_27 ?_
          refine vx_vi (fun v9 hv9 => ?_)
          have hv9_32 : v9 32 = pput u ac (L ++ acc) := by rw [hv9, xu_c _ _ _ _ (by decide), eq0]
          have hv9_31_4 : v9 31 4 = ac := by rw [hv9, xu_k, fu_n _ _ _ (by decide), eq1]
          have hv9_31_5 : v9 31 5 = (sp1 + 1) := by rw [hv9, xu_k, fu_s]
          have hv9_31_6 : v9 31 6 = en := by rw [hv9, xu_k, fu_n _ _ _ (by decide), eq3]
          have hv9_31_7 : v9 31 7 = 0 := by rw [hv9, xu_k, fu_n _ _ _ (by decide), ew0]
          have hv9_31_8 : v9 31 8 = op := by rw [hv9, xu_k, fu_n _ _ _ (by decide), eq5]
          have hv9_31_3 : v9 31 3 = vi 31 3 := by rw [hv9, xu_k, fu_n _ _ _ (by decide), eq6]
          have hv9_31_22 : v9 31 22 = vi 31 22 := by rw [hv9, xu_k, fu_n _ _ _ (by decide), eq7]
          have frv9 : ∀ k : Nat, (¬ k = 31 ∧ ¬ k = 32) → v9 k = vi k := fun k hk => by rw [hv9, xu_c _ _ _ _ (by omega)]; exact frq k hk
          refine vx_aload_n hC 0 rfl eX12_some_30 ?_
          refine vx_callV_v hC (hF d _ _ _ _ _ hO (sp1 + 1) (L ++ acc) hv9_32 hv9_31_4 hv9_31_5 hv9_31_6 hv9_31_7 hv9_31_8 (by omega) (by omega)) ly_X12_114 (ot_31 hO) rfl rfl rfl hRm (by omega) (Nat.le_of_ble_eq_true rfl) rfl eX12_some_31 (fun ng11 tg11 ag11 bg11 cg11 hg11 => ?_)
          obtain ⟨qg11_0, qg11_1, qg11_2, qg11_3, qg11_4, qg11_5, qg11_6, qg11_7, rfl, rfl, rfl, rfl, frg11⟩ := hg11
          have qg11_0b : ag11 32 = pput u ac ((L ++ acc) ++ (P (sp1 + 1)).2.2) := by first | exact qg11_0 | rw [qg11_0, hv9_32] | (rw [qg11_0]; exact hv9_32)
          have qg11_1b : ag11 31 4 = ac := by first | exact qg11_1 | rw [qg11_1, hv9_31_4] | (rw [qg11_1]; exact hv9_31_4)
          have qg11_2b : ag11 31 5 = (P (sp1 + 1)).2.1 := by first | exact qg11_2 | rw [qg11_2, hv9_31_5] | (rw [qg11_2]; exact hv9_31_5)
          have qg11_3b : ag11 31 6 = en := by first | exact qg11_3 | rw [qg11_3, hv9_31_6] | (rw [qg11_3]; exact hv9_31_6)
          have qg11_4b : ag11 31 7 = 1 - (P (sp1 + 1)).1 := by first | exact qg11_4 | rw [qg11_4, hv9_31_7] | (rw [qg11_4]; exact hv9_31_7)
          have qg11_5b : ag11 31 8 = op := by first | exact qg11_5 | rw [qg11_5, hv9_31_8] | (rw [qg11_5]; exact hv9_31_8)
          have qg11_6b : ag11 31 3 = vi 31 3 := by first | exact qg11_6 | rw [qg11_6, hv9_31_3] | (rw [qg11_6]; exact hv9_31_3)
          have qg11_7b : ag11 31 22 = vi 31 22 := by first | exact qg11_7 | rw [qg11_7, hv9_31_22] | (rw [qg11_7]; exact hv9_31_22)
          have frvig11 : ∀ k : Nat, (¬ k = 31 ∧ ¬ k = 32) → ag11 k = vi k := fun k hk => (frg11 k (by omega)).trans (frv9 k hk)
          obtain ⟨sp12, hsp12⟩ : ∃ z : Int, z = (P (sp1 + 1)).2.1 := ⟨_, rfl⟩
          have esp12 : ag11 31 5 = sp12 := by rw [hsp12]; exact qg11_2b
          obtain ⟨w13, hw13⟩ : ∃ z : Int, z = 1 - (P (sp1 + 1)).1 := ⟨_, rfl⟩
          have ew13 : ag11 31 7 = w13 := by rw [hw13]; exact qg11_4b
          obtain ⟨L14, hL14⟩ : ∃ z : List Int, z = (L ++ acc) ++ (P (sp1 + 1)).2.2 := ⟨_, rfl⟩
          have eL14 : ag11 32 = pput u ac L14 := by rw [hL14]; exact qg11_0b
          have hosp12 := hP (sp1 + 1) (by omega)
          have hlL14 : (L14.length : Int) = ((L ++ acc).length : Int) + ((P (sp1 + 1)).2.2.length : Int) := by rw [hL14, List.length_append]; omega
          obtain ⟨o1sp12, o2sp12, o3sp12, o4sp12, o5sp12⟩ := hosp12
          refine vx_aload_n hC 0 rfl eX12_some_34 ?_
          refine vx_bipush hC (by decide) eX12_some_35 ?_
          refine vx_callV_v hC (kX12_emits G d _ _ _ _ _ hO h u ac en sp12 w13 op L14 eL14 qg11_1b esp12 qg11_3b ew13 qg11_5b hac hen (by omega) (by omega) (by omega) (-3)) ly_X12_97 (ot_31 hO) rfl rfl rfl hRm (by omega) (Nat.le_of_ble_eq_true rfl) rfl eX12_some_37 (fun ng16 tg16 ag16 bg16 cg16 hg16 => ?_)
          obtain ⟨qg16_0, qg16_1, qg16_2, qg16_3, qg16_4, qg16_5, qg16_6, qg16_7, rfl, rfl, rfl, rfl, frg16⟩ := hg16
          have qg16_0b : ag16 32 = pput u ac (pE w13 L14 (-3)) := by first | exact qg16_0 | rw [qg16_0, eL14] | (rw [qg16_0]; exact eL14)
          have qg16_1b : ag16 31 4 = ac := by first | exact qg16_1 | rw [qg16_1, qg11_1b] | (rw [qg16_1]; exact qg11_1b)
          have qg16_2b : ag16 31 5 = sp12 := by first | exact qg16_2 | rw [qg16_2, esp12] | (rw [qg16_2]; exact esp12)
          have qg16_3b : ag16 31 6 = en := by first | exact qg16_3 | rw [qg16_3, qg11_3b] | (rw [qg16_3]; exact qg11_3b)
          have qg16_4b : ag16 31 7 = w13 := by first | exact qg16_4 | rw [qg16_4, ew13] | (rw [qg16_4]; exact ew13)
          have qg16_5b : ag16 31 8 = op := by first | exact qg16_5 | rw [qg16_5, qg11_5b] | (rw [qg16_5]; exact qg11_5b)
          have qg16_6b : ag16 31 3 = vi 31 3 := by first | exact qg16_6 | rw [qg16_6, qg11_6b] | (rw [qg16_6]; exact qg11_6b)
          have qg16_7b : ag16 31 22 = vi 31 22 := by first | exact qg16_7 | rw [qg16_7, qg11_7b] | (rw [qg16_7]; exact qg11_7b)
          have frvig16 : ∀ k : Nat, (¬ k = 31 ∧ ¬ k = 32) → ag16 k = vi k := fun k hk => (frg16 k (by omega)).trans (frvig11 k hk)
          obtain ⟨L17, hL17⟩ : ∃ z : List Int, z = pE w13 L14 (-3) := ⟨_, rfl⟩
          have eL17 : ag16 32 = pput u ac L17 := by rw [hL17]; exact qg16_0b
          have hfL17 := pE_len w13 L14 (-3)
          rw [← hL17] at hfL17
          have hLe : L17 = L ++ pE (1 - (P (sp1 + 1)).1) (acc ++ (P (sp1 + 1)).2.2) (-3) := by rw [hL17, hL14, hw13, ← pE_app, List.append_assoc]
          have hpl := pE_len (1 - (P (sp1 + 1)).1) (acc ++ (P (sp1 + 1)).2.2) (-3)
          have hla2 : ((acc ++ (P (sp1 + 1)).2.2).length : Int) = (acc.length : Int) + ((P (sp1 + 1)).2.2.length : Int) := by rw [List.length_append]; omega
          refine vx_goto hC (tgt := 4) (by decide) eX12_some_40 ?_
          exact ih c1 sp12 w13 (pE (1 - (P (sp1 + 1)).1) (acc ++ (P (sp1 + 1)).2.2) (-3)) ag16 (by omega) (by omega) (by rw [hsp12, hw13]; exact pLoop_step hres9 (by omega) o1sp12) (by rw [← hLe]; exact eL17) qg16_1b qg16_2b qg16_3b qg16_4b qg16_5b qg16_6b qg16_7b frvig16 (by omega)
  exact LP4 102 101 sp3 w4 (P sp).2.2 ag2 (by omega) (by omega) (by rw [hsp3, hw4]; exact pSeq_start o1sp3) (by rw [← hL5]; exact eL5) qg2_1b esp3 qg2_3b ew4 qg2_5b qg2_6 qg2_7 frvig2 (by omega)
theorem pE_nil (w : Int) (L : List Int) (x : Int) : pE w L x = L ++ pE w [] x := by rw [← pE_app, List.append_nil]
theorem pF_not {h : Int → Int} {k : Nat} {sp : Int} (e : h sp = 33) (hr : (pF h k (sp + 1)).1 = 0 ∨ (pF h k (sp + 1)).1 = 1) : pF h (k + 1) sp = ((pF h k (sp + 1)).1, (pF h k (sp + 1)).2.1, pE (1 - (pF h k (sp + 1)).1) (pF h k (sp + 1)).2.2 (-1)) := by
  rw [pF, if_pos e]
  unfold pE
  rcases hr with hr | hr
  · rw [if_pos hr, if_neg (by omega)]
  · rw [if_neg (by omega), if_pos (by omega), hr]
theorem pF_par {h : Int → Int} {k : Nat} {sp : Int} (e : h sp = 40) (hr : (pEx (pF h k) h (sp + 1)).1 = 0 ∨ (pEx (pF h k) h (sp + 1)).1 = 1) : pF h (k + 1) sp = (1 - pMw h 41 (1 - (pEx (pF h k) h (sp + 1)).1) (pEx (pF h k) h (sp + 1)).2.1, pMs h 41 (1 - (pEx (pF h k) h (sp + 1)).1) (pEx (pF h k) h (sp + 1)).2.1, (pEx (pF h k) h (sp + 1)).2.2) := by
  rw [pF, if_neg (by omega), if_pos e]
  generalize pEx (pF h k) h (sp + 1) = r at *
  unfold pMw pMs
  rcases hr with hr | hr
  · rw [if_pos hr, if_neg (by omega), if_neg (by omega)]
    exact Prod.ext (by show r.1 = 1 - 1; omega) rfl
  · rw [if_neg (by omega)]
    by_cases e2 : h r.2.1 = 41
    · rw [if_pos e2, if_pos (by omega), if_pos (by omega)]; rfl
    · rw [if_neg e2, if_neg (by omega), if_neg (by omega)]; rfl
theorem pF_tst {h : Int → Int} : ∀ {k : Nat} {sp : Int}, ¬ h sp = 33 → ¬ h sp = 40 → pF h k sp = pTest h sp
  | 0, _, _, _ => rfl
  | k + 1, sp, h1, h2 => by rw [pF, if_neg h1, if_neg h2]
theorem pTest_0 {h : Int → Int} {sp : Int} (e : h sp = 33 ∨ h sp = 40) : pTest h sp = (0, sp, []) := by
  unfold pTest
  rw [if_pos]
  unfold pA1
  rcases e with e | e <;> rw [e] <;> decide
theorem pTest_1 {h : Int → Int} {sp : Int} (e : pA1 h sp = -1) : pTest h sp = (0, sp, []) := by unfold pTest; rw [if_pos e]
theorem pTest_2 {h : Int → Int} {sp s1 : Int} (h1 : s1 = sp + 1) (e : ¬ pA1 h sp = -1) (e2 : pA2 h s1 = -1) : pTest h sp = (0, s1, []) := by subst h1; unfold pTest; rw [if_neg e, if_pos e2]
theorem pTest_3 {h : Int → Int} {sp s1 s2 a b : Int} (h1 : s1 = sp + 1) (h2 : s2 = sp + 2) (ha : a = pA1 h sp) (hb : b = pA2 h s1) (na : ¬ a = -1) (nb : ¬ b = -1) : pTest h sp = (1 - pNw h 0 s2, pNs h 0 s2, pE (pNw h 0 s2) [] (a + 8 * b + 32 * pNv h 0 s2)) := by
  subst h1 h2 ha hb
  unfold pTest pE
  rw [if_neg na, if_neg nb]
  by_cases e : pNw h 0 (sp + 2) = 0
  · rw [if_pos e, if_pos e, e]; rfl
  · rw [if_neg e, if_neg e]
    have e1 : ¬ ((0 : Int) = 0 ∧ 48 ≤ h (sp + 2) ∧ h (sp + 2) ≤ 57) := fun q => e (by unfold pNw; rw [if_pos q])
    have e2 : pNw h 0 (sp + 2) = 1 := by unfold pNw; rw [if_neg e1]
    have e3 : pNs h 0 (sp + 2) = sp + 2 := by unfold pNs; rw [if_neg e1]
    rw [e2, e3]; rfl
