theorem trc_r (x : Int) : (x < 0 ∧ trc x = x) ∨ (0 ≤ x ∧ trc x = (x % 8 * 3 + x / 8 % 4) * 100 + x / 32) := by unfold trc; split <;> omega
set_option maxHeartbeats 4000000 in
set_option maxRecDepth 100000 in
theorem kX8_passes (G : xg_T) (d : Nat) (n : Nat) (tau : Nat → Nat × Nat) (vi vl : Nat → Int → Int) (vr : Nat → Int → Option Nat) (hO : xo n tau vr) (b : Int → Int) (hb : ∀ j : Int, 0 ≤ j → j < 6 → vi 7 j = b j) (hbr : ∀ j : Int, 0 ≤ b j ∧ b j ≤ 12) (x : Int) (hx : 0 ≤ x ∧ x % 8 < 6 ∧ x / 8 % 4 < 3 ∧ x / 32 ≤ 99) : xm G yX8_passes cX8_passes 5 (some .boolean) (d + 1) 0 0 [xa_i (trc x), xa_r 7] n tau vi vl vr (xp_i (fun z9 n1 t1 a1 b1 c1 => z9 = mtst b x ∧ xs_0 n tau vi vl vr n1 t1 a1 b1 c1)) := by
  refine xm.of (lv := [(0, xa_i (trc x)), (1, xa_r 7)]) (by decide) (Nat.le_of_ble_eq_true rfl) rfl (fun K hC hM hRm => ?_)
  have hy := trc_r x
  have y1 : trc x / 300 = x % 8 := by omega
  have y2 : trc x % 100 = x / 32 := by omega
  have y3 : trc x / 100 % 3 = x / 8 % 4 := by omega
  refine vx_iload_n hC 0 rfl eX8_passes_0 ?_
  refine vx_sipush hC (by decide) eX8_passes_1 ?_
  refine vx_idiv hC (by omega) eX8_passes_4 ?_
  refine vx_top (fun x1 hx1 => ?_)
  refine vx_istore_n hC (lv1 := [(2, xa_i x1), (0, xa_i (trc x)), (1, xa_r 7)]) (by decide) rfl eX8_passes_5 ?_
  refine vx_iload_n hC 0 rfl eX8_passes_6 ?_
  refine vx_if_lt hC (tgt := 22) (by omega) (by decide) eX8_passes_7 (fun c2 => absurd c2 (by omega)) (fun c2 => ?_)
  refine vx_iload_n hC 0 rfl eX8_passes_10 ?_
  refine vx_aload_n hC 2 rfl eX8_passes_11 ?_
  refine vx_alen hC (ot_7 hO) (by decide) (by omega) eX8_passes_12 ?_
  refine vx_icmp_ge hC (tgt := 22) (by omega) (by decide) eX8_passes_13 (fun c3 => absurd c3 (by omega)) (fun c3 => ?_)
  refine vx_aload_n hC 2 rfl eX8_passes_16 ?_
  refine vx_iload_n hC 0 rfl eX8_passes_17 ?_
  refine vx_iaload hC (ot_7 hO) (by omega) (by omega) eX8_passes_18 ?_
  refine vx_eqi (y := b (x % 8)) (by rw [show x1 = x % 8 by omega]; exact hb _ (by omega) (by omega)) ?_
  have hbx := hbr (x % 8)
  refine vx_goto hC (tgt := 23) (by decide) eX8_passes_19 ?_
  refine vx_top (fun x4 hx4 => ?_)
  refine vx_istore_n hC (lv1 := [(3, xa_i x4), (2, xa_i x1), (0, xa_i (trc x)), (1, xa_r 7)]) (by decide) rfl eX8_passes_23 ?_
  refine vx_iload_n hC 2 rfl eX8_passes_24 ?_
  refine vx_bipush hC (by decide) eX8_passes_25 ?_
  refine vx_irem hC (by omega) eX8_passes_27 ?_
  refine vx_top (fun x5 hx5 => ?_)
  refine vx_istore hC (lv1 := [(4, xa_i x5), (3, xa_i x4), (2, xa_i x1), (0, xa_i (trc x)), (1, xa_r 7)]) (by decide) rfl eX8_passes_28 ?_
  refine vx_iload_n hC 3 rfl eX8_passes_30 ?_
  refine vx_bipush hC (by decide) eX8_passes_31 ?_
  refine vx_idiv hC (by omega) eX8_passes_33 ?_
  refine vx_iconst hC eX8_passes_34 ?_
  refine vx_irem hC (by omega) eX8_passes_35 ?_
  refine vx_top (fun x6 hx6 => ?_)
  rcases (show x6 = 0 ∨ x6 = 1 ∨ (¬ x6 = 0 ∧ ¬ x6 = 1) by omega) with c7 | c7 | c7
  · refine vx_lookup hC (tgt := 64) (by omega) (by decide) (by rw [c7] <;> rfl) (by decide) eX8_passes_36 ?_
    refine vx_iload_n hC 1 rfl eX8_passes_64 ?_
    refine vx_iload hC 0 rfl eX8_passes_65 ?_
    refine vx_icmp_ge hC (tgt := 74) (by omega) (by decide) eX8_passes_67 (fun c8 => ?_) (fun c8 => ?_)
    · refine vx_iconst hC eX8_passes_74 ?_
      exact vx_iret hC hM (by decide) eX8_passes_75 (⟨_, rfl, by unfold mtst; (repeat' split) <;> omega, xs_0.rf _ _ _ _ _⟩)
    · refine vx_iconst hC eX8_passes_70 ?_
      refine vx_goto hC (tgt := 75) (by decide) eX8_passes_71 ?_
      exact vx_iret hC hM (by decide) eX8_passes_75 (⟨_, rfl, by unfold mtst; (repeat' split) <;> omega, xs_0.rf _ _ _ _ _⟩)
  · refine vx_lookup hC (tgt := 76) (by omega) (by decide) (by rw [c7] <;> rfl) (by decide) eX8_passes_36 ?_
    refine vx_iload_n hC 1 rfl eX8_passes_76 ?_
    refine vx_iload hC 0 rfl eX8_passes_77 ?_
    refine vx_icmp_ne hC (tgt := 86) (by omega) (by decide) eX8_passes_79 (fun c9 => ?_) (fun c9 => ?_)
    · refine vx_iconst hC eX8_passes_86 ?_
      exact vx_iret hC hM (by decide) eX8_passes_87 (⟨_, rfl, by unfold mtst; (repeat' split) <;> omega, xs_0.rf _ _ _ _ _⟩)
    · refine vx_iconst hC eX8_passes_82 ?_
      refine vx_goto hC (tgt := 87) (by decide) eX8_passes_83 ?_
      exact vx_iret hC hM (by decide) eX8_passes_87 (⟨_, rfl, by unfold mtst; (repeat' split) <;> omega, xs_0.rf _ _ _ _ _⟩)
  · refine vx_lookup hC (tgt := 88) (by omega) (by decide) (xn_osw c7) (by decide) eX8_passes_36 ?_
    refine vx_iload_n hC 1 rfl eX8_passes_88 ?_
    refine vx_iload hC 0 rfl eX8_passes_89 ?_
    refine vx_icmp_le hC (tgt := 98) (by omega) (by decide) eX8_passes_91 (fun c10 => ?_) (fun c10 => ?_)
    · refine vx_iconst hC eX8_passes_98 ?_
      exact vx_iret hC hM (by decide) eX8_passes_99 (⟨_, rfl, by unfold mtst; (repeat' split) <;> omega, xs_0.rf _ _ _ _ _⟩)
    · refine vx_iconst hC eX8_passes_94 ?_
      refine vx_goto hC (tgt := 99) (by decide) eX8_passes_95 ?_
      exact vx_iret hC hM (by decide) eX8_passes_99 (⟨_, rfl, by unfold mtst; (repeat' split) <;> omega, xs_0.rf _ _ _ _ _⟩)
theorem mnot_b (y : Int) : mnot y = 0 ∨ mnot y = 1 := by unfold mnot; split <;> omega
theorem mbin_b (x y z : Int) : mbin x y z = 0 ∨ mbin x y z = 1 := by unfold mbin; (repeat' split) <;> omega
set_option maxHeartbeats 4000000 in
set_option maxRecDepth 100000 in
theorem kX8_holds (G : xg_T) (d : Nat) (n : Nat) (tau : Nat → Nat × Nat) (vi vl : Nat → Int → Int) (vr : Nat → Int → Option Nat) (hO : xo n tau vr) (b : Int → Int) (hb : ∀ j : Int, 0 ≤ j → j < 6 → vi 7 j = b j) (hbr : ∀ j : Int, 0 ≤ b j ∧ b j ≤ 12) (kt kc nc : Nat) (ht : kt < n ∧ tau kt = (8, 0)) (hc : kc < n ∧ tau kc = (14, nc)) (hr2 : vr kt 2 = some kc) (hnc : nc ≤ 100) (e : List Int) (t9 : Int) (rest : List Int) (f : Int) (hf : 0 ≤ f ∧ f + (e.length : Int) ≤ (nc : Int)) (hC9 : ∀ j : Nat, j < e.length → vi kc (f + (j : Int)) = trc (e.getD j 0)) (hgt : ∀ x ∈ e, -10 < x) (ht9 : t9 ≤ -10) (hwf : me_wf (e ++ t9 :: rest) 0 = true) : xm G yX8_holds cX8_holds 9 (some .boolean) (d + 2) 0 0 [xa_r kt, xa_i f, xa_i (f + (e.length : Int)), xa_r 7] n tau vi vl vr (xp_i (fun z9 n1 t1 a1 b1 c1 => ((z9 = 0 ∨ z9 = 1) ∧ ∀ sm, me b (e ++ t9 :: rest) [] sm = me b rest [] (sm + mend z9 t9)) ∧ xs_0 n tau vi vl vr n1 t1 a1 b1 c1)) := by
  refine xm.of (lv := [(0, xa_r kt), (1, xa_i f), (2, xa_i (f + (e.length : Int))), (3, xa_r 7)]) (by decide) (Nat.le_of_ble_eq_true rfl) rfl (fun K hC hM hRm => ?_)
  refine vx_lconst hC 0 (by decide) eX8_holds_0 ?_
  refine vx_lstore hC (lv1 := [(4, xa_l 0), (0, xa_r kt), (1, xa_i f), (2, xa_i (f + (e.length : Int))), (3, xa_r 7)]) (by decide) rfl eX8_holds_1 ?_
  refine vx_iconst hC eX8_holds_3 ?_
  refine vx_iload_n hC 2 rfl eX8_holds_4 ?_
  refine vx_mmax hC (by omega) ly_X8_27 hRm (by omega) (Nat.le_of_ble_eq_true rfl) eX8_holds_5 ?_
  refine vx_eqi (y := f) (by split <;> omega) ?_
  refine vx_istore hC (lv1 := [(6, xa_i f), (4, xa_l 0), (0, xa_r kt), (1, xa_i f), (2, xa_i (f + (e.length : Int))), (3, xa_r 7)]) (by decide) rfl eX8_holds_8 ?_
  have LP10 : ∀ (j : Nat) (er : List Int) (ii : Int) (op : Int) (L : List Int) (hii : ii + (er.length : Int) = (f + (e.length : Int)) ∧ f ≤ ii) (hCr : ∀ j : Nat, j < er.length → vi kc (ii + (j : Int)) = trc (er.getD j 0)) (hgr : ∀ x ∈ er, -10 < x) (hwr : me_wf (er ++ t9 :: rest) L.length = true) (hres : ∀ sm, me b (er ++ t9 :: rest) L sm = me b (e ++ t9 :: rest) [] sm) (hop : op = bt L) (hLb : ∀ x ∈ L, x = 0 ∨ x = 1) (hLl : L.length ≤ 60) (hj : (er.length : Int) < (j : Int)), xv G K 9 (xk_Q G K (xp_i (fun z9 n1 t1 a1 b1 c1 => ((z9 = 0 ∨ z9 = 1) ∧ ∀ sm, me b (e ++ t9 :: rest) [] sm = me b rest [] (sm + mend z9 t9)) ∧ xs_0 n tau vi vl vr n1 t1 a1 b1 c1)) 0 0) 0 0 n tau vi vl vr 10 [(6, xa_i ii), (4, xa_l op), (0, xa_r kt), (1, xa_i f), (2, xa_i (f + (e.length : Int))), (3, xa_r 7)] [] := by
    intro j
    induction j with
    | zero => intro er ii op L hii hCr hgr hwr hres hop hLb hLl hj; exfalso; omega
    | succ j ih =>
      intro er ii op L hii hCr hgr hwr hres hop hLb hLl hj
      refine vx_iload hC 0 rfl eX8_holds_10 ?_
      refine vx_iload_n hC 4 rfl eX8_holds_12 ?_
      refine vx_icmp_ge hC (tgt := 134) (by omega) (by decide) eX8_holds_13 (fun c1 => ?_) (fun c1 => ?_)
      · obtain rfl : er = [] := List.eq_nil_of_length_eq_zero (by omega)
        obtain ⟨w0, w1, w2, w5⟩ := me_wf_end (show ¬ -10 < t9 by omega) (show me_wf (t9 :: rest) L.length = true from hwr)
        obtain ⟨y, rfl⟩ : ∃ y, L = [y] := by cases L with | nil => simp at w2 | cons y L1 => cases L1 with | nil => exact ⟨y, rfl⟩ | cons y2 L2 => simp at w2
        have hyb := hLb y (List.mem_cons_self)
        have hop2 : op = y + 2 * 0 := hop
        refine vx_lload hC 1 rfl eX8_holds_134 ?_
        refine vx_lconst hC 1 (by decide) eX8_holds_136 ?_
        refine vx_land hC eX8_holds_137 ?_
        refine vx_eql (b6_and1 (by omega)) ?_
        refine vx_lconst hC 1 (by decide) eX8_holds_138 ?_
        refine vx_lcmp hC (by omega) eX8_holds_139 ?_
        refine vx_if_ne hC (tgt := 147) (by omega) (by decide) eX8_holds_140 (fun c2 => ?_) (fun c2 => ?_)
        · refine vx_iconst hC eX8_holds_147 ?_
          exact vx_iret hC hM (by decide) eX8_holds_148 (⟨_, rfl, ⟨by omega, fun sm => by rw [← hres sm]; show me b (t9 :: rest) [y] sm = _; rw [me_end (by omega), show y = 0 by omega]⟩, xs_0.rf _ _ _ _ _⟩)
        · refine vx_iconst hC eX8_holds_143 ?_
          refine vx_goto hC (tgt := 148) (by decide) eX8_holds_144 ?_
          exact vx_iret hC hM (by decide) eX8_holds_148 (⟨_, rfl, ⟨by omega, fun sm => by rw [← hres sm]; show me b (t9 :: rest) [y] sm = _; rw [me_end (by omega), show y = 1 by omega]⟩, xs_0.rf _ _ _ _ _⟩)
      · refine vx_iload hC 0 rfl eX8_holds_16 ?_
        refine vx_aload_n hC 2 rfl eX8_holds_18 ?_
        refine vx_gr hC 2 ht lf_X8_16 rfl hr2 eX8_holds_19 ?_
        refine vx_alen hC hc (by decide) (by omega) eX8_holds_22 ?_
        refine vx_icmp_ge hC (tgt := 134) (by omega) (by decide) eX8_holds_23 (fun c3 => absurd c3 (by omega)) (fun c3 => ?_)
        obtain ⟨x, er1, rfl⟩ : ∃ x er1, er = x :: er1 := by cases er with | nil => (exfalso; simp only [List.length_nil] at hii; omega) | cons x er1 => exact ⟨x, er1, rfl⟩
        have hx0 : vi kc ii = trc x := by have h9 := hCr 0 (by simp); simpa using h9
        have hgx := hgr x (List.mem_cons_self)
        have hlen : ((x :: er1).length : Int) = (er1.length : Int) + 1 := by simp
        replace hwr : me_wf (x :: (er1 ++ t9 :: rest)) L.length = true := hwr
        replace hres : ∀ sm, me b (x :: (er1 ++ t9 :: rest)) L sm = me b (e ++ t9 :: rest) [] sm := hres
        have hB := bt_r60 hLb hLl
        have htr := trc_r x
        have hx9 : 0 ≤ x → x / 32 ≤ 99 := fun h9 => (me_wf_pos h9 hwr).2.2.1
        refine vx_lload hC 1 rfl eX8_holds_26 ?_
        refine vx_lconst hC 1 (by decide) eX8_holds_28 ?_
        refine vx_land hC eX8_holds_29 ?_
        refine vx_eql (b6_and1 (by omega)) ?_
        refine vx_topl (fun x4 hx4 => ?_)
        refine vx_lstore hC (lv1 := [(7, xa_l x4), (6, xa_i ii), (4, xa_l op), (0, xa_r kt), (1, xa_i f), (2, xa_i (f + (e.length : Int))), (3, xa_r 7)]) (by decide) rfl eX8_holds_30 ?_
        refine vx_aload_n hC 3 rfl eX8_holds_32 ?_
        refine vx_gr hC 2 ht lf_X8_16 rfl hr2 eX8_holds_33 ?_
        refine vx_iload hC 1 rfl eX8_holds_36 ?_
        refine vx_iaload hC hc (by omega) (by omega) eX8_holds_38 ?_
        refine vx_eqi hx0 ?_
        refine vx_top (fun x5 hx5 => ?_)
        rcases (show x5 = -3 ∨ x5 = -2 ∨ x5 = -1 ∨ (¬ x5 = -3 ∧ ¬ x5 = -2 ∧ ¬ x5 = -1) by omega) with c6 | c6 | c6 | c6
        · refine vx_tableIn hC (tgt := 89) (by omega) (by omega) (by rw [c6]; rfl) (by decide) eX8_holds_39 ?_
          obtain ⟨w0, w1, w5⟩ := me_wf_bin (by omega) (by omega) (by omega) hwr
          obtain ⟨y1, y2, L2, rfl⟩ : ∃ y1 y2 L2, L = y1 :: y2 :: L2 := by cases L with | nil => simp at w1 | cons y L1 => cases L1 with | nil => simp at w1 | cons y2 L2 => exact ⟨y, y2, L2, rfl⟩
          have hyb1 := hLb y1 (List.mem_cons_self)
          have hyb2 := hLb y2 (List.mem_cons_of_mem _ (List.mem_cons_self))
          have hop2 : op = y1 + 2 * (y2 + 2 * bt L2) := hop
          have hB2 := bt_r L2 (fun z hz => hLb z (List.mem_cons_of_mem _ (List.mem_cons_of_mem _ hz)))
          refine vx_lload hC 2 rfl eX8_holds_89 ?_
          refine vx_iconst hC eX8_holds_91 ?_
          refine vx_lshr hC eX8_holds_92 ?_
          refine vx_eql (b6_shr (by omega)) ?_
          refine vx_lload hC 0 rfl eX8_holds_93 ?_
          refine vx_lor hC eX8_holds_95 ?_
          refine vx_eql (b6_or (by omega) (by omega)) ?_
          refine vx_topl (fun x7 hx7 => ?_)
          refine vx_lstore hC (lv1 := [(4, xa_l x7), (7, xa_l x4), (6, xa_i ii), (0, xa_r kt), (1, xa_i f), (2, xa_i (f + (e.length : Int))), (3, xa_r 7)]) (by decide) rfl eX8_holds_96 ?_
          refine vx_goto hC (tgt := 128) (by decide) eX8_holds_98 ?_
          refine vx_iinc hC (lv1 := [(6, xa_i (ii + 1)), (4, xa_l x7), (7, xa_l x4), (0, xa_r kt), (1, xa_i f), (2, xa_i (f + (e.length : Int))), (3, xa_r 7)]) 2 rfl (by decide) rfl eX8_holds_128 ?_
          refine vx_goto hC (tgt := 10) (by decide) eX8_holds_131 ?_
          refine vx_lv (lv1 := [(6, xa_i (ii + 1)), (4, xa_l x7), (0, xa_r kt), (1, xa_i f), (2, xa_i (f + (e.length : Int))), (3, xa_r 7)]) [0, 1, 3, 4, 5, 6] rfl ?_
          exact ih er1 (ii + 1) x7 (mbin x y1 y2 :: L2) (by omega) (fun j hj1 => by have h9 := hCr (j + 1) (by simp only [List.length_cons]; omega); rw [show ii + 1 + (j : Int) = ii + ((j + 1 : Nat) : Int) by omega, h9]; rfl) (fun z hz => hgr z (List.mem_cons_of_mem _ hz)) (by simpa using w5) (fun sm => by rw [← hres sm, me_bin (by omega) (by omega) (by omega)]) (by show x7 = mbin x y1 y2 + 2 * bt L2; unfold mbin; (repeat' split) <;> omega) (fun z hz => by rcases List.mem_cons.mp hz with h9 | h9; (rw [h9]; exact mbin_b x y1 y2); exact (fun z hz => hLb z (List.mem_cons_of_mem _ (List.mem_cons_of_mem _ hz))) z h9) (by simp only [List.length_cons] at *; omega) (by (try simp only [List.length_cons] at *); omega)
        · refine vx_tableIn hC (tgt := 73) (by omega) (by omega) (by rw [c6]; rfl) (by decide) eX8_holds_39 ?_
          obtain ⟨w0, w1, w5⟩ := me_wf_bin (by omega) (by omega) (by omega) hwr
          obtain ⟨y1, y2, L2, rfl⟩ : ∃ y1 y2 L2, L = y1 :: y2 :: L2 := by cases L with | nil => simp at w1 | cons y L1 => cases L1 with | nil => simp at w1 | cons y2 L2 => exact ⟨y, y2, L2, rfl⟩
          have hyb1 := hLb y1 (List.mem_cons_self)
          have hyb2 := hLb y2 (List.mem_cons_of_mem _ (List.mem_cons_self))
          have hop2 : op = y1 + 2 * (y2 + 2 * bt L2) := hop
          have hB2 := bt_r L2 (fun z hz => hLb z (List.mem_cons_of_mem _ (List.mem_cons_of_mem _ hz)))
          refine vx_lload hC 2 rfl eX8_holds_73 ?_
          refine vx_iconst hC eX8_holds_75 ?_
          refine vx_lshr hC eX8_holds_76 ?_
          refine vx_eql (b6_shr (by omega)) ?_
          refine vx_lload hC 0 rfl eX8_holds_77 ?_
          refine vx_ldc2 hC (-2) wd_648 eX8_holds_79 ?_
          refine vx_lor hC eX8_holds_82 ?_
          refine vx_eql (b6_m2 (by omega)) ?_
          refine vx_land hC eX8_holds_83 ?_
          refine vx_eql (b6_and2 (by omega) (by omega)) ?_
          refine vx_topl (fun x8 hx8 => ?_)
          refine vx_lstore hC (lv1 := [(4, xa_l x8), (7, xa_l x4), (6, xa_i ii), (0, xa_r kt), (1, xa_i f), (2, xa_i (f + (e.length : Int))), (3, xa_r 7)]) (by decide) rfl eX8_holds_84 ?_
          refine vx_goto hC (tgt := 128) (by decide) eX8_holds_86 ?_
          refine vx_iinc hC (lv1 := [(6, xa_i (ii + 1)), (4, xa_l x8), (7, xa_l x4), (0, xa_r kt), (1, xa_i f), (2, xa_i (f + (e.length : Int))), (3, xa_r 7)]) 2 rfl (by decide) rfl eX8_holds_128 ?_
          refine vx_goto hC (tgt := 10) (by decide) eX8_holds_131 ?_
          refine vx_lv (lv1 := [(6, xa_i (ii + 1)), (4, xa_l x8), (0, xa_r kt), (1, xa_i f), (2, xa_i (f + (e.length : Int))), (3, xa_r 7)]) [0, 1, 3, 4, 5, 6] rfl ?_
          exact ih er1 (ii + 1) x8 (mbin x y1 y2 :: L2) (by omega) (fun j hj1 => by have h9 := hCr (j + 1) (by simp only [List.length_cons]; omega); rw [show ii + 1 + (j : Int) = ii + ((j + 1 : Nat) : Int) by omega, h9]; rfl) (fun z hz => hgr z (List.mem_cons_of_mem _ hz)) (by simpa using w5) (fun sm => by rw [← hres sm, me_bin (by omega) (by omega) (by omega)]) (by show x8 = mbin x y1 y2 + 2 * bt L2; unfold mbin; (repeat' split) <;> omega) (fun z hz => by rcases List.mem_cons.mp hz with h9 | h9; (rw [h9]; exact mbin_b x y1 y2); exact (fun z hz => hLb z (List.mem_cons_of_mem _ (List.mem_cons_of_mem _ hz))) z h9) (by simp only [List.length_cons] at *; omega) (by (try simp only [List.length_cons] at *); omega)
        · refine vx_tableIn hC (tgt := 64) (by omega) (by omega) (by rw [c6]; rfl) (by decide) eX8_holds_39 ?_
          obtain rfl : x = -1 := by omega
          obtain ⟨w1, w5⟩ := me_wf_not hwr
          obtain ⟨y, L1, rfl⟩ : ∃ y L1, L = y :: L1 := by cases L with | nil => simp at w1 | cons y L1 => exact ⟨y, L1, rfl⟩
          have hyb := hLb y (List.mem_cons_self)
          have hop2 : op = y + 2 * bt L1 := hop
          refine vx_lload hC 2 rfl eX8_holds_64 ?_
          refine vx_lconst hC 1 (by decide) eX8_holds_66 ?_
          refine vx_lxor hC eX8_holds_67 ?_
          refine vx_eql (b6_xor1 (by omega)) ?_
          refine vx_topl (fun x9 hx9 => ?_)
          refine vx_lstore hC (lv1 := [(4, xa_l x9), (7, xa_l x4), (6, xa_i ii), (0, xa_r kt), (1, xa_i f), (2, xa_i (f + (e.length : Int))), (3, xa_r 7)]) (by decide) rfl eX8_holds_68 ?_
          refine vx_goto hC (tgt := 128) (by decide) eX8_holds_70 ?_
          refine vx_iinc hC (lv1 := [(6, xa_i (ii + 1)), (4, xa_l x9), (7, xa_l x4), (0, xa_r kt), (1, xa_i f), (2, xa_i (f + (e.length : Int))), (3, xa_r 7)]) 2 rfl (by decide) rfl eX8_holds_128 ?_
          refine vx_goto hC (tgt := 10) (by decide) eX8_holds_131 ?_
          refine vx_lv (lv1 := [(6, xa_i (ii + 1)), (4, xa_l x9), (0, xa_r kt), (1, xa_i f), (2, xa_i (f + (e.length : Int))), (3, xa_r 7)]) [0, 1, 3, 4, 5, 6] rfl ?_
          exact ih er1 (ii + 1) x9 (mnot y :: L1) (by omega) (fun j hj1 => by have h9 := hCr (j + 1) (by simp only [List.length_cons]; omega); rw [show ii + 1 + (j : Int) = ii + ((j + 1 : Nat) : Int) by omega, h9]; rfl) (fun z hz => hgr z (List.mem_cons_of_mem _ hz)) w5 (fun sm => by rw [← hres sm, me_not]) (by show x9 = mnot y + 2 * bt L1; unfold mnot; split <;> omega) (fun z hz => by rcases List.mem_cons.mp hz with h9 | h9; (rw [h9]; exact mnot_b y); exact (fun z hz => hLb z (List.mem_cons_of_mem _ hz)) z h9) (by simp only [List.length_cons] at *; omega) (by (try simp only [List.length_cons] at *); omega)
        · refine vx_tableOut hC (tgt := 101) (by omega) (by omega) (by decide) eX8_holds_39 ?_
          have hx00 : 0 ≤ x := by
            by_cases h9 : -10 < x ∧ ¬ 0 ≤ x
            · by_cases h8 : x = -1
              · omega
              · have := (me_wf_bin h9.2 h8 h9.1 hwr).1; omega
            · omega
          obtain ⟨w1, w2, w3, w4, w5⟩ := me_wf_pos hx00 hwr
          have hmb := mtst_b b x
          refine vx_lload hC 2 rfl eX8_holds_101 ?_
          refine vx_iconst hC eX8_holds_103 ?_
          refine vx_lshl hC eX8_holds_104 ?_
          refine vx_eql (b6_shl (by omega)) ?_
          refine vx_topl (fun x10 hx10 => ?_)
          refine vx_aload_n hC 3 rfl eX8_holds_105 ?_
          refine vx_gr hC 2 ht lf_X8_16 rfl hr2 eX8_holds_106 ?_
          refine vx_iload hC 1 rfl eX8_holds_109 ?_
          refine vx_iaload hC hc (by omega) (by omega) eX8_holds_111 ?_
          refine vx_eqi hx0 ?_
          refine vx_aload_n hC 6 rfl eX8_holds_112 ?_
          refine vx_callS_i hC (kX8_passes G d _ _ _ _ _ hO b hb hbr x (by omega)) ly_X8_35 rfl hRm (by omega) (Nat.le_of_ble_eq_true rfl) rfl eX8_holds_113 (fun x11 n9 t9 a9 b9 c9 hx11 => ?_)
          obtain ⟨hx11, rfl, rfl, rfl, rfl, rfl⟩ := hx11
          have J124_z12 : ∀ z12 : Int, (z12 = mtst b x) → xv G K 9 (xk_Q G K (xp_i (fun z9 n1 t1 a1 b1 c1 => ((z9 = 0 ∨ z9 = 1) ∧ ∀ sm, me b (e ++ t9 :: rest) [] sm = me b rest [] (sm + mend z9 t9)) ∧ xs_0 n tau vi vl vr n1 t1 a1 b1 c1)) 0 0) 0 0 n tau vi vl vr 124 [(7, xa_l x4), (6, xa_i ii), (4, xa_l op), (0, xa_r kt), (1, xa_i f), (2, xa_i (f + (e.length : Int))), (3, xa_r 7)] [xa_i z12, xa_l x10] := by
            intro z12 hz12
            refine vx_i2l hC (by omega) eX8_holds_124 ?_
            refine vx_lor hC eX8_holds_125 ?_
            refine vx_eql (b6_or (by omega) (by omega)) ?_
            refine vx_topl (fun x13 hx13 => ?_)
            refine vx_lstore hC (lv1 := [(4, xa_l x13), (7, xa_l x4), (6, xa_i ii), (0, xa_r kt), (1, xa_i f), (2, xa_i (f + (e.length : Int))), (3, xa_r 7)]) (by decide) rfl eX8_holds_126 ?_
            refine vx_iinc hC (lv1 := [(6, xa_i (ii + 1)), (4, xa_l x13), (7, xa_l x4), (0, xa_r kt), (1, xa_i f), (2, xa_i (f + (e.length : Int))), (3, xa_r 7)]) 2 rfl (by decide) rfl eX8_holds_128 ?_
            refine vx_goto hC (tgt := 10) (by decide) eX8_holds_131 ?_
            refine vx_lv (lv1 := [(6, xa_i (ii + 1)), (4, xa_l x13), (0, xa_r kt), (1, xa_i f), (2, xa_i (f + (e.length : Int))), (3, xa_r 7)]) [0, 1, 3, 4, 5, 6] rfl ?_
            exact ih er1 (ii + 1) x13 (mtst b x :: L) (by omega) (fun j hj1 => by have h9 := hCr (j + 1) (by simp only [List.length_cons]; omega); rw [show ii + 1 + (j : Int) = ii + ((j + 1 : Nat) : Int) by omega, h9]; rfl) (fun z hz => hgr z (List.mem_cons_of_mem _ hz)) w5 (fun sm => by rw [← hres sm, me_pos (by omega)]) (by show x13 = mtst b x + 2 * bt L; omega) (fun z hz => by rcases List.mem_cons.mp hz with h9 | h9; (rw [h9]; exact mtst_b b x); exact hLb z h9) (by simp only [List.length_cons]; omega) (by (try simp only [List.length_cons] at *); omega)
          refine vx_if_eq hC (tgt := 123) (by omega) (by decide) eX8_holds_116 (fun c14 => ?_) (fun c14 => ?_)
          · refine vx_iconst hC eX8_holds_123 ?_
            exact J124_z12 _ (by omega)
          · refine vx_iconst hC eX8_holds_119 ?_
            refine vx_goto hC (tgt := 124) (by decide) eX8_holds_120 ?_
            exact J124_z12 _ (by omega)
  exact LP10 101 e f 0 [] (by omega) hC9 hgt hwf (fun _ => rfl) rfl (fun z hz => absurd hz List.not_mem_nil) (by decide) (by omega)
theorem me_wf_app {t : Int} {rest : List Int} : ∀ {e : List Int} {d : Nat}, me_wf (e ++ t :: rest) d = true → t ≤ -10 → (∀ x ∈ e, -10 < x) → ((-109 ≤ t ∧ t ≤ -10) ∨ (-299 ≤ t ∧ t ≤ -200)) ∧ me_wf rest 0 = true
  | [], d, h, ht, _ => by
    obtain ⟨a, b, c, e⟩ := me_wf_end (show ¬ -10 < t by omega) h
    exact ⟨b, e⟩
  | x :: e, d, h, ht, hx => by
    have h1 := hx x (List.mem_cons_self)
    have h2 : ∀ y ∈ e, -10 < y := fun y hy => hx y (List.mem_cons_of_mem _ hy)
    replace h : me_wf (x :: (e ++ t :: rest)) d = true := h
    by_cases h0 : 0 ≤ x
    · exact me_wf_app (me_wf_pos h0 h).2.2.2.2 ht h2
    · by_cases h3 : x = -1
      · subst h3; exact me_wf_app (me_wf_not h).2 ht h2
      · exact me_wf_app (me_wf_bin h0 h3 h1 h).2.2 ht h2
set_option maxHeartbeats 4000000 in
set_option maxRecDepth 100000 in
theorem kX8_leaning (G : xg_T) (d : Nat) (n : Nat) (tau : Nat → Nat × Nat) (vi vl : Nat → Int → Int) (vr : Nat → Int → Option Nat) (hO : xo n tau vr) (b : Int → Int) (hb : ∀ j : Int, 0 ≤ j → j < 6 → vi 7 j = b j) (hbr : ∀ j : Int, 0 ≤ b j ∧ b j ≤ 12) (kt kw ke kc : Nat) (cl : List (List Int × Int)) (ht : kt < n ∧ tau kt = (8, 0)) (hw : kw < n ∧ tau kw = (14, cl.length)) (he : ke < n ∧ tau ke = (14, cl.length)) (hc : kc < n ∧ tau kc = (14, cln cl)) (hr0 : vr kt 0 = some kw) (hr1 : vr kt 1 = some ke) (hr2 : vr kt 2 = some kc) (hcl : cl.length ≤ 10) (hnc : cln cl ≤ 100) (htr : tr_ok (vi kw) (vi ke) (vi kc) cl 0 0) (hwf : me_wf (fl cl) 0 = true) : xm G yX8_leaning cX8_leaning 5 (some .int) (d + 3) 0 0 [xa_r kt, xa_r 7] n tau vi vl vr (xp_i (fun z9 n1 t1 a1 b1 c1 => ((-1000 ≤ z9 ∧ z9 ≤ 1000) ∧ ∀ z, me b (fl cl) [] z = z + z9) ∧ xs_0 n tau vi vl vr n1 t1 a1 b1 c1)) := by
  refine xm.of (lv := [(0, xa_r kt), (1, xa_r 7)]) (by decide) (Nat.le_of_ble_eq_true rfl) rfl (fun K hC hM hRm => ?_)
  refine vx_iconst hC eX8_leaning_0 ?_
  refine vx_istore_n hC (lv1 := [(2, xa_i 0), (0, xa_r kt), (1, xa_r 7)]) (by decide) rfl eX8_leaning_1 ?_
  refine vx_iconst hC eX8_leaning_2 ?_
  refine vx_istore_n hC (lv1 := [(3, xa_i 0), (2, xa_i 0), (0, xa_r kt), (1, xa_r 7)]) (by decide) rfl eX8_leaning_3 ?_
  refine vx_iconst hC eX8_leaning_4 ?_
  refine vx_istore hC (lv1 := [(4, xa_i 0), (3, xa_i 0), (2, xa_i 0), (0, xa_r kt), (1, xa_r 7)]) (by decide) rfl eX8_leaning_5 ?_
  have LP7 : ∀ (j : Nat) (cr : List (List Int × Int)) (ii : Int) (f : Int) (sm : Int) (hii : ii + (cr.length : Int) = (cl.length : Int) ∧ 0 ≤ ii) (hf : f + (cln cr : Int) = (cln cl : Int) ∧ 0 ≤ f) (htr2 : tr_ok (vi kw) (vi ke) (vi kc) cr ii f) (hwr : me_wf (fl cr) 0 = true) (hres : ∀ z, me b (fl cr) [] (z + sm) = me b (fl cl) [] z) (hsm : -100 * ii ≤ sm ∧ sm ≤ 100 * ii) (hj : (cr.length : Int) < (j : Int)), xv G K 5 (xk_Q G K (xp_i (fun z9 n1 t1 a1 b1 c1 => ((-1000 ≤ z9 ∧ z9 ≤ 1000) ∧ ∀ z, me b (fl cl) [] z = z + z9) ∧ xs_0 n tau vi vl vr n1 t1 a1 b1 c1)) 0 0) 0 0 n tau vi vl vr 7 [(4, xa_i ii), (3, xa_i f), (2, xa_i sm), (0, xa_r kt), (1, xa_r 7)] [] := by
    intro j
    induction j with
    | zero => intro cr ii f sm hii hf htr2 hwr hres hsm hj; exfalso; omega
    | succ j ih =>
      intro cr ii f sm hii hf htr2 hwr hres hsm hj
      refine vx_iload hC 0 rfl eX8_leaning_7 ?_
      refine vx_aload_n hC 3 rfl eX8_leaning_9 ?_
      refine vx_gr hC 0 ht lf_X8_7 rfl hr0 eX8_leaning_10 ?_
      refine vx_alen hC hw (by decide) (by omega) eX8_leaning_13 ?_
      refine vx_icmp_ge hC (tgt := 67) (by omega) (by decide) eX8_leaning_14 (fun c1 => ?_) (fun c1 => ?_)
      · obtain rfl : cr = [] := List.eq_nil_of_length_eq_zero (by omega)
        refine vx_iload_n hC 2 rfl eX8_leaning_67 ?_
        exact vx_iret hC hM rfl eX8_leaning_68 (⟨_, rfl, ⟨by omega, fun z => by rw [← hres z]; rfl⟩, xs_0.rf _ _ _ _ _⟩)
      · refine vx_iload hC 0 rfl eX8_leaning_17 ?_
        refine vx_aload_n hC 3 rfl eX8_leaning_19 ?_
        refine vx_gr hC 1 ht lf_X8_13 rfl hr1 eX8_leaning_20 ?_
        refine vx_alen hC he (by decide) (by omega) eX8_leaning_23 ?_
        refine vx_icmp_ge hC (tgt := 67) (by omega) (by decide) eX8_leaning_24 (fun c2 => absurd c2 (by omega)) (fun c2 => ?_)
        obtain ⟨q, cr1, rfl⟩ : ∃ q cr1, cr = q :: cr1 := by cases cr with | nil => (exfalso; simp only [List.length_nil] at hii; omega) | cons q cr1 => exact ⟨q, cr1, rfl⟩
        obtain ⟨r1, r2, r3, r4, r5, r6⟩ := htr2
        have hlen : ((q :: cr1).length : Int) = (cr1.length : Int) + 1 := by simp
        have hcn : (cln (q :: cr1) : Int) = (q.1.length : Int) + (cln cr1 : Int) := by show ((q.1.length + cln cr1 : Nat) : Int) = _; omega
        replace hwr : me_wf (q.1 ++ q.2 :: fl cr1) 0 = true := hwr
        have hwe := me_wf_app hwr r3 r4
        have hwn : me_wf (fl cr1) 0 = true := hwe.2
        have hwq : -99 ≤ mwt q.2 ∧ mwt q.2 ≤ 99 := by unfold mwt; split <;> omega
        refine vx_aload_n hC 3 rfl eX8_leaning_27 ?_
        refine vx_iload_n hC 1 rfl eX8_leaning_28 ?_
        refine vx_aload_n hC 3 rfl eX8_leaning_29 ?_
        refine vx_gr hC 1 ht lf_X8_13 rfl hr1 eX8_leaning_30 ?_
        refine vx_iload hC 0 rfl eX8_leaning_33 ?_
        refine vx_iaload hC he (by omega) (by omega) eX8_leaning_35 ?_
        refine vx_eqi r1 ?_
        refine vx_aload_n hC 4 rfl eX8_leaning_36 ?_
        refine vx_callV_i hC (kX8_holds G d _ _ _ _ _ hO b hb hbr kt kc (cln cl) ht hc hr2 hnc q.1 q.2 (fl cr1) f (by omega) r5 r4 r3 hwr) ly_X8_23 ht rfl rfl rfl hRm (by omega) (Nat.le_of_ble_eq_true rfl) rfl eX8_leaning_37 (fun x3 n9 t9 a9 b9 c9 hx3 => ?_)
        obtain ⟨hx3, rfl, rfl, rfl, rfl, rfl⟩ := hx3
        obtain ⟨hz9, hme⟩ := hx3
        refine vx_if_eq hC (tgt := 53) (by omega) (by decide) eX8_leaning_40 (fun c4 => ?_) (fun c4 => ?_)
        · refine vx_aload_n hC 3 rfl eX8_leaning_53 ?_
          refine vx_gr hC 1 ht lf_X8_13 rfl hr1 eX8_leaning_54 ?_
          refine vx_iload hC 0 rfl eX8_leaning_57 ?_
          refine vx_iaload hC he (by omega) (by omega) eX8_leaning_59 ?_
          refine vx_eqi r1 ?_
          refine vx_istore_n hC (lv1 := [(3, xa_i (f + (q.1.length : Int))), (4, xa_i ii), (2, xa_i sm), (0, xa_r kt), (1, xa_r 7)]) (by decide) rfl eX8_leaning_60 ?_
          refine vx_iinc hC (lv1 := [(4, xa_i (ii + 1)), (3, xa_i (f + (q.1.length : Int))), (2, xa_i sm), (0, xa_r kt), (1, xa_r 7)]) 1 rfl (by decide) rfl eX8_leaning_61 ?_
          refine vx_goto hC (tgt := 7) (by decide) eX8_leaning_64 ?_
          exact ih cr1 (ii + 1) (f + (q.1.length : Int)) sm (by omega) (by omega) r6 hwn (fun z => by rw [← hres z]; show _ = me b (q.1 ++ q.2 :: fl cr1) [] (z + sm); rw [hme (z + sm)]; congr 1; unfold mend; (first | rw [if_neg (by omega)] | rw [if_pos (by omega)]); omega) (by omega) (by (try simp only [List.length_cons] at *); omega)
        · refine vx_iload_n hC 2 rfl eX8_leaning_43 ?_
          refine vx_aload_n hC 3 rfl eX8_leaning_44 ?_
          refine vx_gr hC 0 ht lf_X8_7 rfl hr0 eX8_leaning_45 ?_
          refine vx_iload hC 0 rfl eX8_leaning_48 ?_
          refine vx_iaload hC hw (by omega) (by omega) eX8_leaning_50 ?_
          refine vx_eqi r2 ?_
          refine vx_iadd hC eX8_leaning_51 ?_
          refine vx_top (fun x5 hx5 => ?_)
          refine vx_istore_n hC (lv1 := [(2, xa_i x5), (4, xa_i ii), (3, xa_i f), (0, xa_r kt), (1, xa_r 7)]) (by decide) rfl eX8_leaning_52 ?_
          refine vx_aload_n hC 3 rfl eX8_leaning_53 ?_
          refine vx_gr hC 1 ht lf_X8_13 rfl hr1 eX8_leaning_54 ?_
          refine vx_iload hC 1 rfl eX8_leaning_57 ?_
          refine vx_iaload hC he (by omega) (by omega) eX8_leaning_59 ?_
          refine vx_eqi r1 ?_
          refine vx_istore_n hC (lv1 := [(3, xa_i (f + (q.1.length : Int))), (2, xa_i x5), (4, xa_i ii), (0, xa_r kt), (1, xa_r 7)]) (by decide) rfl eX8_leaning_60 ?_
          refine vx_iinc hC (lv1 := [(4, xa_i (ii + 1)), (3, xa_i (f + (q.1.length : Int))), (2, xa_i x5), (0, xa_r kt), (1, xa_r 7)]) 2 rfl (by decide) rfl eX8_leaning_61 ?_
          refine vx_goto hC (tgt := 7) (by decide) eX8_leaning_64 ?_
          exact ih cr1 (ii + 1) (f + (q.1.length : Int)) x5 (by omega) (by omega) r6 hwn (fun z => by rw [← hres z]; show _ = me b (q.1 ++ q.2 :: fl cr1) [] (z + sm); rw [hme (z + sm)]; congr 1; unfold mend; (first | rw [if_neg (by omega)] | rw [if_pos (by omega)]); omega) (by omega) (by (try simp only [List.length_cons] at *); omega)
  exact LP7 11 cl 0 0 0 (by omega) (by omega) htr hwf (fun z => by rw [Int.add_zero]) (by omega) (by omega)
set_option maxHeartbeats 4000000 in
set_option maxRecDepth 100000 in
theorem kX6_odds (G : xg_T) (d : Nat) (n : Nat) (tau : Nat → Nat × Nat) (vi vl : Nat → Int → Int) (vr : Nat → Int → Option Nat) (hO : xo n tau vr) (s : Int → Int) (hS : rp_S 1 s n tau vi vr) (hV : ms_V s) (p : Int) (hp : 0 ≤ p ∧ p < s 0) (kp : Nat) (hk : rp_P s p kp n tau vi) (q : Int) (hq : 0 ≤ q ∧ q ≤ s (18 + p)) (st : Int) (hst : 0 ≤ st ∧ st ≤ 12) : xm G yX6_odds cX6_odds 5 (some .int) (d + 4) 0 0 [xa_r 1, xa_r kp, xa_i q, xa_i st] n tau vi vl vr (xp_i (fun z9 n1 t1 a1 b1 c1 => (z9 = ms_odds s p q st) ∧ xs_I (fun k => ¬ k = 7) n tau vi vl vr n1 t1 a1 b1 c1)) := by
  refine xm.of (lv := [(0, xa_r 1), (1, xa_r kp), (2, xa_i q), (3, xa_i st)]) (by decide) (Nat.le_of_ble_eq_true rfl) rfl (fun K hC hM hRm => ?_)
  obtain ⟨q1, q3, q7, q8, q9, q10, qt, qp, qr, qpl, qtb⟩ := id hS
  have hW : ms_W s := hV.1
  have h60 := hV.2
  obtain ⟨hr, h0, h1, h2, h3, h4, h5, h6, hp0, hrow, hwon, htape, htab⟩ := id hW
  obtain ⟨k1, k2, k3, k4, k5, k6⟩ := id hk
  obtain ⟨g1, g2, g3, g4⟩ := hp0 p hp.1 hp.2
  refine vx_aload_n hC 0 rfl eX6_odds_0 ?_
  refine vx_callV_q hC (kX6_holding G (d + 2) _ _ _ _ _ hO s hS hV) ly_X6_62 (ot_1 hO) rfl rfl rfl hRm (by omega) (Nat.le_of_ble_eq_true rfl) rfl eX6_odds_1 (fun r1 n9 t9 a9 b9 c9 hr1 => ?_)
  obtain ⟨hr1, rfl, rfl, rfl, rfl, rfl⟩ := hr1
  rcases hr1 with ⟨rfl, hno⟩ | ⟨kt, rfl, hyes, hkt⟩
  · refine vx_astore hC (lv1 := [(4, xa_n), (0, xa_r 1), (1, xa_r kp), (2, xa_i q), (3, xa_i st)]) (by decide) rfl eX6_odds_4 ?_
    refine vx_aload hC 0 rfl eX6_odds_6 ?_
    refine vx_ifnonnull hC (tgt := 13) (by decide) eX6_odds_8 (fun k h => by cases h) (fun _ => ?_)
    refine vx_iconst hC eX6_odds_11 ?_
    exact vx_iret hC hM rfl eX6_odds_12 (⟨_, rfl, (by unfold ms_odds ms_hold; rw [if_pos (by omega)]; rfl), rfl, rfl, rfl, rfl, fun k hk => rfl⟩)
  · obtain ⟨t1, t2, t3, kw, ke, kc, cl, t4, t5, t6, t7, t8, t9, t10, t11, t12, t13⟩ := id hkt
    refine vx_astore hC (lv1 := [(4, xa_r kt), (0, xa_r 1), (1, xa_r kp), (2, xa_i q), (3, xa_i st)]) (by decide) rfl eX6_odds_4 ?_
    refine vx_aload hC 0 rfl eX6_odds_6 ?_
    refine vx_ifnonnull hC (tgt := 13) (by decide) eX6_odds_8 (fun _ _ => ?_) (fun h => by cases h)
    refine vx_aload_n hC 1 rfl eX6_odds_13 ?_
    refine vx_gr hC 11 (ot_1 hO) lf_X6_34 rfl (or_1_11 hO) eX6_odds_14 ?_
    refine vx_iconst hC eX6_odds_17 ?_
    refine vx_aload_n hC 2 rfl eX6_odds_18 ?_
    refine vx_gi hC 1 ⟨k1.2, k2⟩ (lf_X6_69 (xp_pn _)) rfl eX6_odds_19 ?_
    refine vx_eqi k4 ?_
    refine vx_iastore hC (ot_7 hO) (by omega) (by omega) eX6_odds_22 ?_
    refine vx_vi (fun v2 hv2 => ?_)
    have hv2_1_1 : v2 1 1 = s 3 := by rw [hv2, xu_c _ _ _ _ (by decide), q1]
    have hv2_1_3 : v2 1 3 = s 1 := by rw [hv2, xu_c _ _ _ _ (by decide), q3]
    have hv2_1_7 : v2 1 7 = s 0 := by rw [hv2, xu_c _ _ _ _ (by decide), q7]
    have hv2_1_8 : v2 1 8 = s 5 := by rw [hv2, xu_c _ _ _ _ (by decide), q8]
    have hv2_1_9 : v2 1 9 = s 2 := by rw [hv2, xu_c _ _ _ _ (by decide), q9]
    have hv2_1_10 : v2 1 10 = wb s (s 2).toNat := by rw [hv2, xu_c _ _ _ _ (by decide), q10]
    have hv2_kp_0 : v2 kp 0 = s (10 + p) := by rw [hv2, xu_c _ _ _ _ (by omega), k3]
    have hv2_kp_1 : v2 kp 1 = p := by rw [hv2, xu_c _ _ _ _ (by omega), k4]
    have hv2_kp_2 : v2 kp 2 = s (14 + p) := by rw [hv2, xu_c _ _ _ _ (by omega), k5]
    have hv2_kp_3 : v2 kp 3 = s (18 + p) := by rw [hv2, xu_c _ _ _ _ (by omega), k6]
    obtain ⟨f3, hf3⟩ : ∃ f, f = fu (vi 7) 0 p := ⟨_, rfl⟩
    have hv2_7 : v2 7 = f3 := by rw [hv2, hf3, xu_k]
    have hv2_kt_3 : v2 kt 3 = s (166 + (s 1 - 1)) := by rw [hv2, xu_c _ _ _ _ (by omega), t3]
    have hv2_kw : v2 kw = vi kw := by rw [hv2, xu_c _ _ _ _ (by omega)]
    have hv2_ke : v2 ke = vi ke := by rw [hv2, xu_c _ _ _ _ (by omega)]
    have hv2_kc : v2 kc = vi kc := by rw [hv2, xu_c _ _ _ _ (by omega)]
    have frv2 : ∀ k : Nat, (¬ k = 7) → v2 k = vi k := fun k hk => by rw [hv2, xu_c _ _ _ _ (by omega)]
    refine vx_aload_n hC 1 rfl eX6_odds_23 ?_
    refine vx_gr hC 11 (ot_1 hO) lf_X6_34 rfl (or_1_11 hO) eX6_odds_24 ?_
    refine vx_iconst hC eX6_odds_27 ?_
    refine vx_aload_n hC 2 rfl eX6_odds_28 ?_
    refine vx_gi hC 0 ⟨k1.2, k2⟩ (lf_X6_87 (xp_pn _)) rfl eX6_odds_29 ?_
    refine vx_eqi hv2_kp_0 ?_
    refine vx_iastore hC (ot_7 hO) (by omega) (by omega) eX6_odds_32 ?_
    refine vx_vi (fun v4 hv4 => ?_)
    have hv4_1_1 : v4 1 1 = s 3 := by rw [hv4, xu_c _ _ _ _ (by decide), hv2_1_1]
    have hv4_1_3 : v4 1 3 = s 1 := by rw [hv4, xu_c _ _ _ _ (by decide), hv2_1_3]
    have hv4_1_7 : v4 1 7 = s 0 := by rw [hv4, xu_c _ _ _ _ (by decide), hv2_1_7]
    have hv4_1_8 : v4 1 8 = s 5 := by rw [hv4, xu_c _ _ _ _ (by decide), hv2_1_8]
    have hv4_1_9 : v4 1 9 = s 2 := by rw [hv4, xu_c _ _ _ _ (by decide), hv2_1_9]
    have hv4_1_10 : v4 1 10 = wb s (s 2).toNat := by rw [hv4, xu_c _ _ _ _ (by decide), hv2_1_10]
    have hv4_kp_0 : v4 kp 0 = s (10 + p) := by rw [hv4, xu_c _ _ _ _ (by omega), hv2_kp_0]
    have hv4_kp_1 : v4 kp 1 = p := by rw [hv4, xu_c _ _ _ _ (by omega), hv2_kp_1]
    have hv4_kp_2 : v4 kp 2 = s (14 + p) := by rw [hv4, xu_c _ _ _ _ (by omega), hv2_kp_2]
    have hv4_kp_3 : v4 kp 3 = s (18 + p) := by rw [hv4, xu_c _ _ _ _ (by omega), hv2_kp_3]
    obtain ⟨f5, hf5⟩ : ∃ f, f = fu (f3) 1 (s (10 + p)) := ⟨_, rfl⟩
    have hv4_7 : v4 7 = f5 := by rw [hv4, hf5, xu_k, hv2_7]
    have hv4_kt_3 : v4 kt 3 = s (166 + (s 1 - 1)) := by rw [hv4, xu_c _ _ _ _ (by omega), hv2_kt_3]
    have hv4_kw : v4 kw = vi kw := by rw [hv4, xu_c _ _ _ _ (by omega), hv2_kw]
    have hv4_ke : v4 ke = vi ke := by rw [hv4, xu_c _ _ _ _ (by omega), hv2_ke]
    have hv4_kc : v4 kc = vi kc := by rw [hv4, xu_c _ _ _ _ (by omega), hv2_kc]
    have frv4 : ∀ k : Nat, (¬ k = 7) → v4 k = vi k := fun k hk => by rw [hv4, xu_c _ _ _ _ (by omega)]; exact frv2 k hk
    refine vx_aload_n hC 1 rfl eX6_odds_33 ?_
    refine vx_gr hC 11 (ot_1 hO) lf_X6_34 rfl (or_1_11 hO) eX6_odds_34 ?_
    refine vx_iconst hC eX6_odds_37 ?_
    refine vx_iload_n hC 3 rfl eX6_odds_38 ?_
    refine vx_iastore hC (ot_7 hO) (by omega) (by omega) eX6_odds_39 ?_
    refine vx_vi (fun v6 hv6 => ?_)
    have hv6_1_1 : v6 1 1 = s 3 := by rw [hv6, xu_c _ _ _ _ (by decide), hv4_1_1]
    have hv6_1_3 : v6 1 3 = s 1 := by rw [hv6, xu_c _ _ _ _ (by decide), hv4_1_3]
    have hv6_1_7 : v6 1 7 = s 0 := by rw [hv6, xu_c _ _ _ _ (by decide), hv4_1_7]
    have hv6_1_8 : v6 1 8 = s 5 := by rw [hv6, xu_c _ _ _ _ (by decide), hv4_1_8]
    have hv6_1_9 : v6 1 9 = s 2 := by rw [hv6, xu_c _ _ _ _ (by decide), hv4_1_9]
    have hv6_1_10 : v6 1 10 = wb s (s 2).toNat := by rw [hv6, xu_c _ _ _ _ (by decide), hv4_1_10]
    have hv6_kp_0 : v6 kp 0 = s (10 + p) := by rw [hv6, xu_c _ _ _ _ (by omega), hv4_kp_0]
    have hv6_kp_1 : v6 kp 1 = p := by rw [hv6, xu_c _ _ _ _ (by omega), hv4_kp_1]
    have hv6_kp_2 : v6 kp 2 = s (14 + p) := by rw [hv6, xu_c _ _ _ _ (by omega), hv4_kp_2]
    have hv6_kp_3 : v6 kp 3 = s (18 + p) := by rw [hv6, xu_c _ _ _ _ (by omega), hv4_kp_3]
    obtain ⟨f7, hf7⟩ : ∃ f, f = fu (f5) 2 q := ⟨_, rfl⟩
    have hv6_7 : v6 7 = f7 := by rw [hv6, hf7, xu_k, hv4_7]
    have hv6_kt_3 : v6 kt 3 = s (166 + (s 1 - 1)) := by rw [hv6, xu_c _ _ _ _ (by omega), hv4_kt_3]
    have hv6_kw : v6 kw = vi kw := by rw [hv6, xu_c _ _ _ _ (by omega), hv4_kw]
    have hv6_ke : v6 ke = vi ke := by rw [hv6, xu_c _ _ _ _ (by omega), hv4_ke]
    have hv6_kc : v6 kc = vi kc := by rw [hv6, xu_c _ _ _ _ (by omega), hv4_kc]
    have frv6 : ∀ k : Nat, (¬ k = 7) → v6 k = vi k := fun k hk => by rw [hv6, xu_c _ _ _ _ (by omega)]; exact frv4 k hk
    refine vx_aload_n hC 1 rfl eX6_odds_40 ?_
    refine vx_gr hC 11 (ot_1 hO) lf_X6_34 rfl (or_1_11 hO) eX6_odds_41 ?_
    refine vx_iconst hC eX6_odds_44 ?_
    refine vx_aload_n hC 2 rfl eX6_odds_45 ?_
    refine vx_gi hC 3 ⟨k1.2, k2⟩ (lf_X6_76 (xp_pn _)) rfl eX6_odds_46 ?_
    refine vx_eqi hv6_kp_3 ?_
    refine vx_iload_n hC 3 rfl eX6_odds_49 ?_
    refine vx_isub hC eX6_odds_50 ?_
    refine vx_top (fun x8 hx8 => ?_)
    refine vx_iastore hC (ot_7 hO) (by omega) (by omega) eX6_odds_51 ?_
    refine vx_vi (fun v9 hv9 => ?_)
    have hv9_1_1 : v9 1 1 = s 3 := by rw [hv9, xu_c _ _ _ _ (by decide), hv6_1_1]
    have hv9_1_3 : v9 1 3 = s 1 := by rw [hv9, xu_c _ _ _ _ (by decide), hv6_1_3]
    have hv9_1_7 : v9 1 7 = s 0 := by rw [hv9, xu_c _ _ _ _ (by decide), hv6_1_7]
    have hv9_1_8 : v9 1 8 = s 5 := by rw [hv9, xu_c _ _ _ _ (by decide), hv6_1_8]
    have hv9_1_9 : v9 1 9 = s 2 := by rw [hv9, xu_c _ _ _ _ (by decide), hv6_1_9]
    have hv9_1_10 : v9 1 10 = wb s (s 2).toNat := by rw [hv9, xu_c _ _ _ _ (by decide), hv6_1_10]
    have hv9_kp_0 : v9 kp 0 = s (10 + p) := by rw [hv9, xu_c _ _ _ _ (by omega), hv6_kp_0]
    have hv9_kp_1 : v9 kp 1 = p := by rw [hv9, xu_c _ _ _ _ (by omega), hv6_kp_1]
    have hv9_kp_2 : v9 kp 2 = s (14 + p) := by rw [hv9, xu_c _ _ _ _ (by omega), hv6_kp_2]
    have hv9_kp_3 : v9 kp 3 = s (18 + p) := by rw [hv9, xu_c _ _ _ _ (by omega), hv6_kp_3]
    obtain ⟨f10, hf10⟩ : ∃ f, f = fu (f7) 3 x8 := ⟨_, rfl⟩
    have hv9_7 : v9 7 = f10 := by rw [hv9, hf10, xu_k, hv6_7]
    have hv9_kt_3 : v9 kt 3 = s (166 + (s 1 - 1)) := by rw [hv9, xu_c _ _ _ _ (by omega), hv6_kt_3]
    have hv9_kw : v9 kw = vi kw := by rw [hv9, xu_c _ _ _ _ (by omega), hv6_kw]
    have hv9_ke : v9 ke = vi ke := by rw [hv9, xu_c _ _ _ _ (by omega), hv6_ke]
    have hv9_kc : v9 kc = vi kc := by rw [hv9, xu_c _ _ _ _ (by omega), hv6_kc]
    have frv9 : ∀ k : Nat, (¬ k = 7) → v9 k = vi k := fun k hk => by rw [hv9, xu_c _ _ _ _ (by omega)]; exact frv6 k hk
    refine vx_aload_n hC 1 rfl eX6_odds_52 ?_
    refine vx_gr hC 11 (ot_1 hO) lf_X6_34 rfl (or_1_11 hO) eX6_odds_53 ?_
    refine vx_iconst hC eX6_odds_56 ?_
    refine vx_iload_n hC 4 rfl eX6_odds_57 ?_
    refine vx_iastore hC (ot_7 hO) (by omega) (by omega) eX6_odds_58 ?_
    refine vx_vi (fun v11 hv11 => ?_)
    have hv11_1_1 : v11 1 1 = s 3 := by rw [hv11, xu_c _ _ _ _ (by decide), hv9_1_1]
    have hv11_1_3 : v11 1 3 = s 1 := by rw [hv11, xu_c _ _ _ _ (by decide), hv9_1_3]
    have hv11_1_7 : v11 1 7 = s 0 := by rw [hv11, xu_c _ _ _ _ (by decide), hv9_1_7]
    have hv11_1_8 : v11 1 8 = s 5 := by rw [hv11, xu_c _ _ _ _ (by decide), hv9_1_8]
    have hv11_1_9 : v11 1 9 = s 2 := by rw [hv11, xu_c _ _ _ _ (by decide), hv9_1_9]
    have hv11_1_10 : v11 1 10 = wb s (s 2).toNat := by rw [hv11, xu_c _ _ _ _ (by decide), hv9_1_10]
    have hv11_kp_0 : v11 kp 0 = s (10 + p) := by rw [hv11, xu_c _ _ _ _ (by omega), hv9_kp_0]
    have hv11_kp_1 : v11 kp 1 = p := by rw [hv11, xu_c _ _ _ _ (by omega), hv9_kp_1]
    have hv11_kp_2 : v11 kp 2 = s (14 + p) := by rw [hv11, xu_c _ _ _ _ (by omega), hv9_kp_2]
    have hv11_kp_3 : v11 kp 3 = s (18 + p) := by rw [hv11, xu_c _ _ _ _ (by omega), hv9_kp_3]
    obtain ⟨f12, hf12⟩ : ∃ f, f = fu (f10) 4 st := ⟨_, rfl⟩
    have hv11_7 : v11 7 = f12 := by rw [hv11, hf12, xu_k, hv9_7]
    have hv11_kt_3 : v11 kt 3 = s (166 + (s 1 - 1)) := by rw [hv11, xu_c _ _ _ _ (by omega), hv9_kt_3]
    have hv11_kw : v11 kw = vi kw := by rw [hv11, xu_c _ _ _ _ (by omega), hv9_kw]
    have hv11_ke : v11 ke = vi ke := by rw [hv11, xu_c _ _ _ _ (by omega), hv9_ke]
    have hv11_kc : v11 kc = vi kc := by rw [hv11, xu_c _ _ _ _ (by omega), hv9_kc]
    have frv11 : ∀ k : Nat, (¬ k = 7) → v11 k = vi k := fun k hk => by rw [hv11, xu_c _ _ _ _ (by omega)]; exact frv9 k hk
    refine vx_aload_n hC 1 rfl eX6_odds_59 ?_
    refine vx_gr hC 11 (ot_1 hO) lf_X6_34 rfl (or_1_11 hO) eX6_odds_60 ?_
    refine vx_iconst hC eX6_odds_63 ?_
    refine vx_aload_n hC 1 rfl eX6_odds_64 ?_
    refine vx_gi hC 8 (ot_1 hO) lf_X6_53 rfl eX6_odds_65 ?_
    refine vx_eqi hv11_1_8 ?_
    refine vx_iastore hC (ot_7 hO) (by omega) (by omega) eX6_odds_68 ?_
    refine vx_vi (fun v13 hv13 => ?_)
    have hv13_1_1 : v13 1 1 = s 3 := by rw [hv13, xu_c _ _ _ _ (by decide), hv11_1_1]
    have hv13_1_3 : v13 1 3 = s 1 := by rw [hv13, xu_c _ _ _ _ (by decide), hv11_1_3]
    have hv13_1_7 : v13 1 7 = s 0 := by rw [hv13, xu_c _ _ _ _ (by decide), hv11_1_7]
    have hv13_1_8 : v13 1 8 = s 5 := by rw [hv13, xu_c _ _ _ _ (by decide), hv11_1_8]
    have hv13_1_9 : v13 1 9 = s 2 := by rw [hv13, xu_c _ _ _ _ (by decide), hv11_1_9]
    have hv13_1_10 : v13 1 10 = wb s (s 2).toNat := by rw [hv13, xu_c _ _ _ _ (by decide), hv11_1_10]
    have hv13_kp_0 : v13 kp 0 = s (10 + p) := by rw [hv13, xu_c _ _ _ _ (by omega), hv11_kp_0]
    have hv13_kp_1 : v13 kp 1 = p := by rw [hv13, xu_c _ _ _ _ (by omega), hv11_kp_1]
    have hv13_kp_2 : v13 kp 2 = s (14 + p) := by rw [hv13, xu_c _ _ _ _ (by omega), hv11_kp_2]
    have hv13_kp_3 : v13 kp 3 = s (18 + p) := by rw [hv13, xu_c _ _ _ _ (by omega), hv11_kp_3]
    obtain ⟨f14, hf14⟩ : ∃ f, f = fu (f12) 5 (s 5) := ⟨_, rfl⟩
    have hv13_7 : v13 7 = f14 := by rw [hv13, hf14, xu_k, hv11_7]
    have hv13_kt_3 : v13 kt 3 = s (166 + (s 1 - 1)) := by rw [hv13, xu_c _ _ _ _ (by omega), hv11_kt_3]
    have hv13_kw : v13 kw = vi kw := by rw [hv13, xu_c _ _ _ _ (by omega), hv11_kw]
    have hv13_ke : v13 ke = vi ke := by rw [hv13, xu_c _ _ _ _ (by omega), hv11_ke]
    have hv13_kc : v13 kc = vi kc := by rw [hv13, xu_c _ _ _ _ (by omega), hv11_kc]
    have frv13 : ∀ k : Nat, (¬ k = 7) → v13 k = vi k := fun k hk => by rw [hv13, xu_c _ _ _ _ (by omega)]; exact frv11 k hk
    refine vx_iconst hC eX6_odds_69 ?_
    refine vx_bipush hC (by decide) eX6_odds_70 ?_
    refine vx_iconst hC eX6_odds_72 ?_
    refine vx_aload hC 0 rfl eX6_odds_73 ?_
    refine vx_aload_n hC 1 rfl eX6_odds_75 ?_
    refine vx_gr hC 11 (ot_1 hO) lf_X6_34 rfl (or_1_11 hO) eX6_odds_76 ?_
    have hbb : ∀ j : Int, 0 ≤ j → j < 6 → v13 7 j = mb s p q st j := by
      intro j j1 j2
      rw [hv13_7, hf14, hf12, hf10, hf7, hf5, hf3]
      simp only [hx8]
      unfold fu mb
      rcases (show j = 0 ∨ j = 1 ∨ j = 2 ∨ j = 3 ∨ j = 4 ∨ j = 5 by omega) with rfl | rfl | rfl | rfl | rfl | rfl <;> simp
    have hwf9 : me_wf (fl cl) 0 = true := by rw [← t10, ← h4]; exact (htab (s 4) (by omega) (by omega)).2.2
    refine vx_callV_i hC (kX8_leaning G d _ _ _ _ _ hO (mb s p q st) hbb (mb_r hW hp hq hst) kt kw ke kc cl ⟨t1.2, t2⟩ ⟨t4.1.2, t4.2⟩ ⟨t5.1.2, t5.2⟩ ⟨t6.1.2, t6.2⟩ t7 t8 t9 t11 t12 (by rw [hv13_kw, hv13_ke, hv13_kc]; exact t13) hwf9) ly_X6_90 ⟨t1.2, t2⟩ rfl rfl rfl hRm (by omega) (Nat.le_of_ble_eq_true rfl) rfl eX6_odds_79 (fun x15 n9 t9 a9 b9 c9 hx15 => ?_)
    obtain ⟨hx15, rfl, rfl, rfl, rfl, rfl⟩ := hx15
    obtain ⟨hz9, hme⟩ := hx15
    have hme5 := hme 5
    refine vx_iadd hC eX6_odds_82 ?_
    refine vx_mmin hC (by omega) ly_X6_79 hRm (by omega) (Nat.le_of_ble_eq_true rfl) eX6_odds_83 ?_
    refine vx_top (fun x16 hx16 => ?_)
    have rx16 := mmin_r hx16
    refine vx_mmax hC (by omega) ly_X6_94 hRm (by omega) (Nat.le_of_ble_eq_true rfl) eX6_odds_86 ?_
    refine vx_top (fun x17 hx17 => ?_)
    have rx17 := mmax_r hx17
    exact vx_iret hC hM rfl eX6_odds_89 (⟨_, rfl, (by unfold ms_odds ms_hold; rw [if_neg (by omega), h4, t10, hme5]; unfold mclamp; (repeat' split) <;> omega), rfl, rfl, rfl, rfl, fun k hk => frv13 k hk⟩)
