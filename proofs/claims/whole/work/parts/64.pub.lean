theorem wb_fu {s : Int → Int} {z x : Int} {n : Nat} (h : z < 42 ∨ 42 + (n : Int) ≤ z) : wb (fu s z x) n = wb s n := wb_congr n (fun k hk => fu_n _ _ _ (by omega))
theorem cs_feed {n : Nat} {tau : Nat → Nat × Nat} {vi a : Nat → Int → Int} {vr : Nat → Int → Option Nat} {s : Int → Int} (h : rp_S 1 s n tau vi vr) (hV : ms_V s)  (x : Int) (h100 : s 3 < 100) (e1 : a 1 1 = s 3 + 1) (e3 : a 1 3 = s 1) (e7 : a 1 7 = s 0) (e8 : a 1 8 = s 5) (e9 : a 1 9 = s 2) (e10 : a 1 10 = wb s (s 2).toNat) (c2 : a 2 = fu (vi 2) (s 3) x) (c5 : a 5 = vi 5) (c6 : a 6 = vi 6) (hk : ∀ k, 45 ≤ k ∧ k < n → a k = vi k) : rp_S 1 (fu (fu s (66 + s 3) x) 3 (s 3 + 1)) n tau a vr := by
  obtain ⟨q1, q3, q7, q8, q9, q10, qt, qp, qr, -, -⟩ := id h
  obtain ⟨hr, h0, h1, h2, h3, h4, h5, h6, hp0, hrow, hwon, htape, htab⟩ := hV.1
  have e : ∀ z, ¬ z = 3 → ¬ z = 66 + s 3 → fu (fu s (66 + s 3) x) 3 (s 3 + 1) z = s z := fun z z1 z2 => by rw [fu_n _ _ _ z1, fu_n _ _ _ z2]
  refine h.mk (by rw [e1, fu_s]) (by rw [e3, e 1 (by omega) (by omega)]) (by rw [e7, e 0 (by omega) (by omega)]) (by rw [e8, e 5 (by omega) (by omega)]) (by rw [e9, e 2 (by omega) (by omega)]) ?_ ?_ ?_ ?_ (e 0 (by omega) (by omega)) (e 1 (by omega) (by omega)) h1.2 (fun p p1 p2 => ⟨e _ (by omega) (by omega), e _ (by omega) (by omega), e _ (by omega) (by omega)⟩) (fun z hz => ?_) hk
  · rw [e10, e 2 (by omega) (by omega), wb_fu (by omega), wb_fu (by omega)]
  · intro z z1 z2
    rw [fu_s] at z2
    show a 2 z = _
    rw [c2]
    by_cases e9 : z = s 3
    · rw [e9, fu_s, fu_n _ _ _ (by omega), fu_s]
    · rw [fu_n _ _ _ e9, e _ (by omega) (by omega)]; exact qt z z1 (by omega)
  · intro z z1 z2
    rw [e 0 (by omega) (by omega)] at z2
    show a 5 z = _
    rw [c5, e _ (by omega) (by omega)]; exact qp z z1 z2
  · intro z z1 z2
    rw [e 0 (by omega) (by omega)] at z2
    show a 6 z = _
    rw [c6, e _ (by omega) (by omega)]; exact qr z z1 z2
  · rw [fu_n _ _ _ (by omega), fu_n _ _ _ (by omega)]
theorem cs_day {n : Nat} {tau : Nat → Nat × Nat} {vi a : Nat → Int → Int} {vr : Nat → Int → Option Nat} {s : Int → Int} (h : rp_S 1 s n tau vi vr) (hV : ms_V s)  (x : Int) (e1 : a 1 1 = s 3) (e3 : a 1 3 = s 1) (e7 : a 1 7 = s 0) (e8 : a 1 8 = x) (e9 : a 1 9 = s 2) (e10 : a 1 10 = wb s (s 2).toNat) (c2 : a 2 = vi 2) (c5 : a 5 = vi 5) (c6 : a 6 = vi 6) (hk : ∀ k, 45 ≤ k ∧ k < n → a k = vi k) : rp_S 1 (fu s 5 x) n tau a vr := by
  obtain ⟨q1, q3, q7, q8, q9, q10, qt, qp, qr, -, -⟩ := id h
  obtain ⟨hr, h0, h1, h2, h3, h4, h5, h6, hp0, hrow, hwon, htape, htab⟩ := hV.1
  have e : ∀ w, ¬ w = 5 → fu s (5) (x) w = s w := fun w w1 => fu_n _ _ _ w1
  refine h.mk (by rw [e1, e 3 (by omega)]) (by rw [e3, e 1 (by omega)]) (by rw [e7, e 0 (by omega)]) (by rw [e8, fu_s]) (by rw [e9, e 2 (by omega)]) ?_ ?_ ?_ ?_ (e 0 (by omega)) (e 1 (by omega)) h1.2 (fun p p1 p2 => ⟨e _ (by omega), e _ (by omega), e _ (by omega)⟩) (fun z hz => e _ (by omega)) hk
  · rw [e10, e 2 (by omega), wb_fu (by omega)]
  · intro z z1 z2
    rw [e 3 (by omega)] at z2
    show a 2 z = _
    rw [c2, e _ (by omega)]; exact qt z z1 z2
  · intro z z1 z2
    rw [e 0 (by omega)] at z2
    show a 5 z = _
    rw [c5, e _ (by omega)]; exact qp z z1 z2
  · intro z z1 z2
    rw [e 0 (by omega)] at z2
    show a 6 z = _
    rw [c6, e _ (by omega)]; exact qr z z1 z2

theorem cs_purse {n : Nat} {tau : Nat → Nat × Nat} {vi a : Nat → Int → Int} {vr : Nat → Int → Option Nat} {s : Int → Int} (h : rp_S 1 s n tau vi vr) (hV : ms_V s)  (q x : Int) (hq : 0 ≤ q ∧ q < s 0) (e1 : a 1 1 = s 3) (e3 : a 1 3 = s 1) (e7 : a 1 7 = s 0) (e8 : a 1 8 = s 5) (e9 : a 1 9 = s 2) (e10 : a 1 10 = wb s (s 2).toNat) (c2 : a 2 = vi 2) (c5 : a 5 = fu (vi 5) q x) (c6 : a 6 = vi 6) (hk : ∀ k, 45 ≤ k ∧ k < n → a k = vi k) : rp_S 1 (fu s (22 + q) x) n tau a vr := by
  obtain ⟨q1, q3, q7, q8, q9, q10, qt, qp, qr, -, -⟩ := id h
  obtain ⟨hr, h0, h1, h2, h3, h4, h5, h6, hp0, hrow, hwon, htape, htab⟩ := hV.1
  have e : ∀ w, ¬ w = 22 + q → fu s (22 + q) (x) w = s w := fun w w1 => fu_n _ _ _ w1
  refine h.mk (by rw [e1, e 3 (by omega)]) (by rw [e3, e 1 (by omega)]) (by rw [e7, e 0 (by omega)]) (by rw [e8, e 5 (by omega)]) (by rw [e9, e 2 (by omega)]) ?_ ?_ ?_ ?_ (e 0 (by omega)) (e 1 (by omega)) h1.2 (fun p p1 p2 => ⟨e _ (by omega), e _ (by omega), e _ (by omega)⟩) (fun z hz => e _ (by omega)) hk
  · rw [e10, e 2 (by omega), wb_fu (by omega)]
  · intro z z1 z2
    rw [e 3 (by omega)] at z2
    show a 2 z = _
    rw [c2, e _ (by omega)]; exact qt z z1 z2
  · intro z z1 z2
    rw [e 0 (by omega)] at z2
    show a 5 z = _
    rw [c5]
    by_cases e9 : z = q
    · rw [e9, fu_s, fu_s]
    · rw [fu_n _ _ _ e9, e _ (by omega)]; exact qp z z1 z2
  · intro z z1 z2
    rw [e 0 (by omega)] at z2
    show a 6 z = _
    rw [c6, e _ (by omega)]; exact qr z z1 z2

theorem cs_row {n : Nat} {tau : Nat → Nat × Nat} {vi a : Nat → Int → Int} {vr : Nat → Int → Option Nat} {s : Int → Int} (h : rp_S 1 s n tau vi vr) (hV : ms_V s)  (q k x : Int) (hq : 0 ≤ q ∧ q < s 0) (hk0 : 0 ≤ k ∧ k ≤ 3) (e1 : a 1 1 = s 3) (e3 : a 1 3 = s 1) (e7 : a 1 7 = s 0) (e8 : a 1 8 = s 5) (e9 : a 1 9 = s 2) (e10 : a 1 10 = wb s (s 2).toNat) (c2 : a 2 = vi 2) (c5 : a 5 = vi 5) (c6 : a 6 = fu (vi 6) (q * 4 + k) x) (hk : ∀ k, 45 ≤ k ∧ k < n → a k = vi k) : rp_S 1 (fu s (26 + 4 * q + k) x) n tau a vr := by
  obtain ⟨q1, q3, q7, q8, q9, q10, qt, qp, qr, -, -⟩ := id h
  obtain ⟨hr, h0, h1, h2, h3, h4, h5, h6, hp0, hrow, hwon, htape, htab⟩ := hV.1
  have e : ∀ w, ¬ w = 26 + 4 * q + k → fu s (26 + 4 * q + k) (x) w = s w := fun w w1 => fu_n _ _ _ w1
  refine h.mk (by rw [e1, e 3 (by omega)]) (by rw [e3, e 1 (by omega)]) (by rw [e7, e 0 (by omega)]) (by rw [e8, e 5 (by omega)]) (by rw [e9, e 2 (by omega)]) ?_ ?_ ?_ ?_ (e 0 (by omega)) (e 1 (by omega)) h1.2 (fun p p1 p2 => ⟨e _ (by omega), e _ (by omega), e _ (by omega)⟩) (fun z hz => e _ (by omega)) hk
  · rw [e10, e 2 (by omega), wb_fu (by omega)]
  · intro z z1 z2
    rw [e 3 (by omega)] at z2
    show a 2 z = _
    rw [c2, e _ (by omega)]; exact qt z z1 z2
  · intro z z1 z2
    rw [e 0 (by omega)] at z2
    show a 5 z = _
    rw [c5, e _ (by omega)]; exact qp z z1 z2
  · intro z z1 z2
    rw [e 0 (by omega)] at z2
    show a 6 z = _
    rw [c6]
    by_cases e9 : z = q * 4 + k
    · rw [e9, fu_s, show 26 + (q * 4 + k) = 26 + 4 * q + k by omega, fu_s]
    · rw [fu_n _ _ _ e9, e _ (by omega)]; exact qr z z1 z2

theorem cs_clear {n : Nat} {tau : Nat → Nat × Nat} {vi a : Nat → Int → Int} {vr : Nat → Int → Option Nat} {s : Int → Int} (h : rp_S 1 s n tau vi vr) (hV : ms_V s)   (e1 : a 1 1 = s 3) (e3 : a 1 3 = s 1) (e7 : a 1 7 = s 0) (e8 : a 1 8 = s 5) (e9 : a 1 9 = 0) (e10 : a 1 10 = 0) (c2 : a 2 = vi 2) (c5 : a 5 = vi 5) (c6 : a 6 = vi 6) (hk : ∀ k, 45 ≤ k ∧ k < n → a k = vi k) : rp_S 1 (fu s 2 0) n tau a vr := by
  obtain ⟨q1, q3, q7, q8, q9, q10, qt, qp, qr, -, -⟩ := id h
  obtain ⟨hr, h0, h1, h2, h3, h4, h5, h6, hp0, hrow, hwon, htape, htab⟩ := hV.1
  have e : ∀ w, ¬ w = 2 → fu s (2) (0) w = s w := fun w w1 => fu_n _ _ _ w1
  refine h.mk (by rw [e1, e 3 (by omega)]) (by rw [e3, e 1 (by omega)]) (by rw [e7, e 0 (by omega)]) (by rw [e8, e 5 (by omega)]) (by rw [e9, fu_s]) ?_ ?_ ?_ ?_ (e 0 (by omega)) (e 1 (by omega)) h1.2 (fun p p1 p2 => ⟨e _ (by omega), e _ (by omega), e _ (by omega)⟩) (fun z hz => e _ (by omega)) hk
  · rw [e10, fu_s]; rfl
  · intro z z1 z2
    rw [e 3 (by omega)] at z2
    show a 2 z = _
    rw [c2, e _ (by omega)]; exact qt z z1 z2
  · intro z z1 z2
    rw [e 0 (by omega)] at z2
    show a 5 z = _
    rw [c5, e _ (by omega)]; exact qp z z1 z2
  · intro z z1 z2
    rw [e 0 (by omega)] at z2
    show a 6 z = _
    rw [c6, e _ (by omega)]; exact qr z z1 z2

set_option maxHeartbeats 4000000 in
set_option maxRecDepth 100000 in
theorem kX11_feed (G : xg_T) (d : Nat) (n : Nat) (tau : Nat → Nat × Nat) (vi vl : Nat → Int → Int) (vr : Nat → Int → Option Nat) (hO : xo n tau vr) (s im : Int → Int) (has ran : Int) (bod : Int → Int) (hR : RCl s im has ran bod n tau vi vr) (hV : ms_V s) (x : Int) (hx : -2147483648 ≤ x ∧ x < 2147483648) : xm G yX11_feed cX11_feed 2 (some .int) (d + 1) 0 0 [xa_r 0, xa_i x] n tau vi vl vr (xp_i (fun z9 n1 t1 a1 b1 c1 => z9 = (sp_feed s x).1 ∧ cq ((sp_feed s x).2) (im) (has) (ran) (bod) n tau vi vl n1 t1 a1 b1 c1)) := by
  refine xm.of (lv := [(0, xa_r 0), (1, xa_i x)]) (by decide) (Nat.le_of_ble_eq_true rfl) rfl (fun K hC hM hRm => ?_)
  have hS : rp_S 1 s n tau vi vr := hR.1
  obtain ⟨q1, q3, q7, q8, q9, q10, qt, qp, qr, qpl, qtb⟩ := id hS
  have hW : ms_W s := hV.1
  have h60 := hV.2
  obtain ⟨hr, h0, h1, h2, h3, h4, h5, h6, hp0, hrow, hwon, htape, htab⟩ := id hW
  obtain ⟨-, R2, R3, R4, R5, R6, R7, R8, R9, R10⟩ := id hR
  refine vx_iload_n hC 1 rfl eX11_feed_0 ?_
  refine vx_if_lt hC (tgt := 10) (by omega) (by decide) eX11_feed_1 (fun c1 => ?_) (fun c1 => ?_)
  · refine vx_bipush hC (by decide) eX11_feed_10 ?_
    exact vx_iret hC hM rfl eX11_feed_12 (⟨_, rfl, by unfold sp_feed; (repeat (first | rw [if_pos (by omega)] | rw [if_neg (by omega)])); all_goals (first | rfl | omega), by rw [show (sp_feed s x).2 = s by unfold sp_feed; (repeat (first | rw [if_pos (by omega)] | rw [if_neg (by omega)]))]; exact cq_ro hO hR (fun k hk => rfl) (fun k hk => rfl)⟩)
  · refine vx_iload_n hC 1 rfl eX11_feed_4 ?_
    refine vx_bipush hC (by decide) eX11_feed_5 ?_
    refine vx_icmp_le hC (tgt := 13) (by omega) (by decide) eX11_feed_7 (fun c2 => ?_) (fun c2 => ?_)
    · refine vx_aload_n hC 0 rfl eX11_feed_13 ?_
      refine vx_gr hC 0 (ot_0 hO) lf_X11_12 rfl (or_0_0 hO) eX11_feed_14 ?_
      refine vx_gi hC 1 (ot_1 hO) lf_X11_39 rfl eX11_feed_17 ?_
      refine vx_eqi q1 ?_
      refine vx_bipush hC (by decide) eX11_feed_20 ?_
      refine vx_icmp_lt hC (tgt := 28) (by omega) (by decide) eX11_feed_22 (fun c3 => ?_) (fun c3 => ?_)
      · refine vx_aload_n hC 0 rfl eX11_feed_28 ?_
        refine vx_gr hC 0 (ot_0 hO) lf_X11_12 rfl (or_0_0 hO) eX11_feed_29 ?_
        refine vx_gr hC 0 (ot_1 hO) lf_X11_43 rfl (or_1_0 hO) eX11_feed_32 ?_
        refine vx_aload_n hC 0 rfl eX11_feed_35 ?_
        refine vx_gr hC 0 (ot_0 hO) lf_X11_12 rfl (or_0_0 hO) eX11_feed_36 ?_
        refine vx_gi hC 1 (ot_1 hO) lf_X11_39 rfl eX11_feed_39 ?_
        refine vx_eqi q1 ?_
        refine vx_iload_n hC 1 rfl eX11_feed_42 ?_
        refine vx_i2b hC (by omega) eX11_feed_43 ?_
        refine vx_bastore hC (ot_2 hO) (by omega) (by omega) (by omega) eX11_feed_44 ?_
        refine vx_vi (fun v4 hv4 => ?_)
        have hv4_1_1 : v4 1 1 = s 3 := by rw [hv4, xu_c _ _ _ _ (by decide), q1]
        have hv4_1_3 : v4 1 3 = s 1 := by rw [hv4, xu_c _ _ _ _ (by decide), q3]
        have hv4_1_7 : v4 1 7 = s 0 := by rw [hv4, xu_c _ _ _ _ (by decide), q7]
        have hv4_1_8 : v4 1 8 = s 5 := by rw [hv4, xu_c _ _ _ _ (by decide), q8]
        have hv4_1_9 : v4 1 9 = s 2 := by rw [hv4, xu_c _ _ _ _ (by decide), q9]
        have hv4_1_10 : v4 1 10 = wb s (s 2).toNat := by rw [hv4, xu_c _ _ _ _ (by decide), q10]
        obtain ⟨f5, hf5⟩ : ∃ f, f = fu (vi 2) (s 3) x := ⟨_, rfl⟩
        have hv4_2 : v4 2 = f5 := by rw [hv4, hf5, xu_k]
        have hv4_5 : v4 5 = vi 5 := by rw [hv4, xu_c _ _ _ _ (by decide)]
        have hv4_6 : v4 6 = vi 6 := by rw [hv4, xu_c _ _ _ _ (by decide)]
        have frv4 : ∀ k : Nat, (¬ k = 1 ∧ ¬ k = 2 ∧ ¬ k = 5 ∧ ¬ k = 6) → v4 k = vi k := fun k hk => by rw [hv4, xu_c _ _ _ _ (by omega)]
        refine vx_aload_n hC 0 rfl eX11_feed_45 ?_
        refine vx_gr hC 0 (ot_0 hO) lf_X11_12 rfl (or_0_0 hO) eX11_feed_46 ?_
        refine vx_dup hC rfl eX11_feed_49 ?_
        refine vx_gi hC 1 (ot_1 hO) lf_X11_39 rfl eX11_feed_50 ?_
        refine vx_eqi hv4_1_1 ?_
        refine vx_iconst hC eX11_feed_53 ?_
        refine vx_iadd hC eX11_feed_54 ?_
        refine vx_top (fun x6 hx6 => ?_)
        refine vx_pi hC 1 (ot_1 hO) lp_X11_39 rfl (Or.inl rfl) (Or.inl rfl) eX11_feed_55 ?_
        refine vx_vi (fun v7 hv7 => ?_)
        have hv7_1_1 : v7 1 1 = x6 := by rw [hv7, xu_k, fu_s]
        have hv7_1_3 : v7 1 3 = s 1 := by rw [hv7, xu_k, fu_n _ _ _ (by decide), hv4_1_3]
        have hv7_1_7 : v7 1 7 = s 0 := by rw [hv7, xu_k, fu_n _ _ _ (by decide), hv4_1_7]
        have hv7_1_8 : v7 1 8 = s 5 := by rw [hv7, xu_k, fu_n _ _ _ (by decide), hv4_1_8]
        have hv7_1_9 : v7 1 9 = s 2 := by rw [hv7, xu_k, fu_n _ _ _ (by decide), hv4_1_9]
        have hv7_1_10 : v7 1 10 = wb s (s 2).toNat := by rw [hv7, xu_k, fu_n _ _ _ (by decide), hv4_1_10]
        have hv7_2 : v7 2 = f5 := by rw [hv7, xu_c _ _ _ _ (by decide), hv4_2]
        have hv7_5 : v7 5 = vi 5 := by rw [hv7, xu_c _ _ _ _ (by decide), hv4_5]
        have hv7_6 : v7 6 = vi 6 := by rw [hv7, xu_c _ _ _ _ (by decide), hv4_6]
        have frv7 : ∀ k : Nat, (¬ k = 1 ∧ ¬ k = 2 ∧ ¬ k = 5 ∧ ¬ k = 6) → v7 k = vi k := fun k hk => by rw [hv7, xu_c _ _ _ _ (by omega)]; exact frv4 k hk
        refine vx_aload_n hC 0 rfl eX11_feed_58 ?_
        refine vx_gr hC 0 (ot_0 hO) lf_X11_12 rfl (or_0_0 hO) eX11_feed_59 ?_
        refine vx_gi hC 1 (ot_1 hO) lf_X11_39 rfl eX11_feed_62 ?_
        refine vx_eqi hv7_1_1 ?_
        have hs2 : (sp_feed s x).2 = fu (fu s (66 + s 3) x) 3 (s 3 + 1) := by unfold sp_feed; (repeat (first | rw [if_pos (by omega)] | rw [if_neg (by omega)])); all_goals (first | rfl | (simp only [hx6]))
        exact vx_iret hC hM rfl eX11_feed_65 (⟨_, rfl, by unfold sp_feed; (repeat (first | rw [if_pos (by omega)] | rw [if_neg (by omega)])); all_goals (first | rfl | omega), by rw [hs2]; exact cq_s hO hR (cs_feed hS hV x (by omega) (by rw [hv7_1_1] <;> omega) hv7_1_3 hv7_1_7 hv7_1_8 hv7_1_9 hv7_1_10 (by rw [hv7_2, hf5] <;> simp only [hx6]) hv7_5 hv7_6 (fun k hk => frv7 k (by omega))) (by rw [hv7_2, hf5]; intro z z1 z2; unfold fu; split; omega; exact R8 z z1 z2) (fun k hk => frv7 k (by omega)) (fun k hk => rfl)⟩)
      · refine vx_bipush hC (by decide) eX11_feed_25 ?_
        exact vx_iret hC hM rfl eX11_feed_27 (⟨_, rfl, by unfold sp_feed; (repeat (first | rw [if_pos (by omega)] | rw [if_neg (by omega)])); all_goals (first | rfl | omega), by rw [show (sp_feed s x).2 = s by unfold sp_feed; (repeat (first | rw [if_pos (by omega)] | rw [if_neg (by omega)]))]; exact cq_ro hO hR (fun k hk => rfl) (fun k hk => rfl)⟩)
    · refine vx_bipush hC (by decide) eX11_feed_10 ?_
      exact vx_iret hC hM rfl eX11_feed_12 (⟨_, rfl, by unfold sp_feed; (repeat (first | rw [if_pos (by omega)] | rw [if_neg (by omega)])); all_goals (first | rfl | omega), by rw [show (sp_feed s x).2 = s by unfold sp_feed; (repeat (first | rw [if_pos (by omega)] | rw [if_neg (by omega)]))]; exact cq_ro hO hR (fun k hk => rfl) (fun k hk => rfl)⟩)
set_option maxHeartbeats 4000000 in
set_option maxRecDepth 100000 in
theorem kX11_day (G : xg_T) (d : Nat) (n : Nat) (tau : Nat → Nat × Nat) (vi vl : Nat → Int → Int) (vr : Nat → Int → Option Nat) (hO : xo n tau vr) (s im : Int → Int) (has ran : Int) (bod : Int → Int) (hR : RCl s im has ran bod n tau vi vr) (hV : ms_V s) (x : Int) (hx : -2147483648 ≤ x ∧ x < 2147483648) : xm G yX11_day cX11_day 3 (some .int) (d + 2) 0 0 [xa_r 0, xa_i x] n tau vi vl vr (xp_i (fun z9 n1 t1 a1 b1 c1 => z9 = (sp_day s x).1 ∧ cq ((sp_day s x).2) (im) (has) (ran) (bod) n tau vi vl n1 t1 a1 b1 c1)) := by
  refine xm.of (lv := [(0, xa_r 0), (1, xa_i x)]) (by decide) (Nat.le_of_ble_eq_true rfl) rfl (fun K hC hM hRm => ?_)
  have hS : rp_S 1 s n tau vi vr := hR.1
  obtain ⟨q1, q3, q7, q8, q9, q10, qt, qp, qr, qpl, qtb⟩ := id hS
  have hW : ms_W s := hV.1
  have h60 := hV.2
  obtain ⟨hr, h0, h1, h2, h3, h4, h5, h6, hp0, hrow, hwon, htape, htab⟩ := id hW
  obtain ⟨-, R2, R3, R4, R5, R6, R7, R8, R9, R10⟩ := id hR
  refine vx_iload_n hC 1 rfl eX11_day_0 ?_
  refine vx_callS_i hC (kX11_isDigit G d _ _ _ _ _ _ (by omega)) ly_X11_65 rfl hRm (by omega) (Nat.le_of_ble_eq_true rfl) rfl eX11_day_1 (fun x1 n9 t9 a9 b9 c9 hx1 => ?_)
  obtain ⟨hx1, rfl, rfl, rfl, rfl, rfl⟩ := hx1
  refine vx_if_ne hC (tgt := 10) (by omega) (by decide) eX11_day_4 (fun c2 => ?_) (fun c2 => ?_)
  · refine vx_aload_n hC 0 rfl eX11_day_10 ?_
    refine vx_gr hC 0 (ot_0 hO) lf_X11_12 rfl (or_0_0 hO) eX11_day_11 ?_
    refine vx_gi hC 8 (ot_1 hO) lf_X11_69 rfl eX11_day_14 ?_
    refine vx_eqi q8 ?_
    refine vx_istore_n hC (lv1 := [(2, xa_i (s 5)), (0, xa_r 0), (1, xa_i x)]) (by decide) rfl eX11_day_17 ?_
    refine vx_aload_n hC 1 rfl eX11_day_18 ?_
    refine vx_gr hC 0 (ot_0 hO) lf_X11_12 rfl (or_0_0 hO) eX11_day_19 ?_
    refine vx_iload_n hC 2 rfl eX11_day_22 ?_
    refine vx_pi hC 8 (ot_1 hO) lp_X11_69 rfl (Or.inl rfl) (Or.inl rfl) eX11_day_23 ?_
    refine vx_vi (fun v3 hv3 => ?_)
    have hv3_1_1 : v3 1 1 = s 3 := by rw [hv3, xu_k, fu_n _ _ _ (by decide), q1]
    have hv3_1_3 : v3 1 3 = s 1 := by rw [hv3, xu_k, fu_n _ _ _ (by decide), q3]
    have hv3_1_7 : v3 1 7 = s 0 := by rw [hv3, xu_k, fu_n _ _ _ (by decide), q7]
    have hv3_1_8 : v3 1 8 = x := by rw [hv3, xu_k, fu_s]
    have hv3_1_9 : v3 1 9 = s 2 := by rw [hv3, xu_k, fu_n _ _ _ (by decide), q9]
    have hv3_1_10 : v3 1 10 = wb s (s 2).toNat := by rw [hv3, xu_k, fu_n _ _ _ (by decide), q10]
    have hv3_2 : v3 2 = vi 2 := by rw [hv3, xu_c _ _ _ _ (by decide)]
    have hv3_5 : v3 5 = vi 5 := by rw [hv3, xu_c _ _ _ _ (by decide)]
    have hv3_6 : v3 6 = vi 6 := by rw [hv3, xu_c _ _ _ _ (by decide)]
    have frv3 : ∀ k : Nat, (¬ k = 1 ∧ ¬ k = 2 ∧ ¬ k = 5 ∧ ¬ k = 6) → v3 k = vi k := fun k hk => by rw [hv3, xu_c _ _ _ _ (by omega)]
    refine vx_iload_n hC 0 rfl eX11_day_26 ?_
    have hs2 : (sp_day s x).2 = fu s 5 x := by unfold sp_day; (repeat (first | rw [if_pos (by omega)] | rw [if_neg (by omega)])); all_goals (first | rfl | (simp only [id]))
    exact vx_iret hC hM rfl eX11_day_27 (⟨_, rfl, by unfold sp_day; (repeat (first | rw [if_pos (by omega)] | rw [if_neg (by omega)])); all_goals (first | rfl | omega), by rw [hs2]; exact cq_s hO hR (cs_day hS hV x hv3_1_1 hv3_1_3 hv3_1_7 (by rw [hv3_1_8] <;> omega) hv3_1_9 hv3_1_10 hv3_2 hv3_5 hv3_6 (fun k hk => frv3 k (by omega))) (by rw [hv3_2]; exact R8) (fun k hk => frv3 k (by omega)) (fun k hk => rfl)⟩)
  · refine vx_bipush hC (by decide) eX11_day_7 ?_
    exact vx_iret hC hM rfl eX11_day_9 (⟨_, rfl, by unfold sp_day; (repeat (first | rw [if_pos (by omega)] | rw [if_neg (by omega)])); all_goals (first | rfl | omega), by rw [show (sp_day s x).2 = s by unfold sp_day; (repeat (first | rw [if_pos (by omega)] | rw [if_neg (by omega)]))]; exact cq_ro hO hR (fun k hk => rfl) (fun k hk => rfl)⟩)
set_option maxHeartbeats 4000000 in
set_option maxRecDepth 100000 in
theorem kX11_told (G : xg_T) (d : Nat) (n : Nat) (tau : Nat → Nat × Nat) (vi vl : Nat → Int → Int) (vr : Nat → Int → Option Nat) (hO : xo n tau vr) (s im : Int → Int) (has ran : Int) (bod : Int → Int) (hR : RCl s im has ran bod n tau vi vr) (hV : ms_V s) (x : Int) (hx : -2147483648 ≤ x ∧ x < 2147483648) : xm G yX11_told cX11_told 2 (some .int) (d + 3) 0 0 [xa_r 0, xa_i x] n tau vi vl vr (xp_i (fun z9 n1 t1 a1 b1 c1 => z9 = sp_told s x ∧ cq (s) (im) (has) (ran) (bod) n tau vi vl n1 t1 a1 b1 c1)) := by
  refine xm.of (lv := [(0, xa_r 0), (1, xa_i x)]) (by decide) (Nat.le_of_ble_eq_true rfl) rfl (fun K hC hM hRm => ?_)
  have hS : rp_S 1 s n tau vi vr := hR.1
  obtain ⟨q1, q3, q7, q8, q9, q10, qt, qp, qr, qpl, qtb⟩ := id hS
  have hW : ms_W s := hV.1
  have h60 := hV.2
  obtain ⟨hr, h0, h1, h2, h3, h4, h5, h6, hp0, hrow, hwon, htape, htab⟩ := id hW
  obtain ⟨-, R2, R3, R4, R5, R6, R7, R8, R9, R10⟩ := id hR
  refine vx_iload_n hC 1 rfl eX11_told_0 ?_
  rcases (show x = 0 ∨ x = 1 ∨ (¬ x = 0 ∧ ¬ x = 1) by omega) with c1 | c1 | c1
  · refine vx_lookup hC (tgt := 28) (by omega) (by decide) (by rw [c1] <;> rfl) (by decide) eX11_told_1 ?_
    refine vx_aload_n hC 0 rfl eX11_told_28 ?_
    refine vx_gr hC 0 (ot_0 hO) lf_X11_12 rfl (or_0_0 hO) eX11_told_29 ?_
    refine vx_gi hC 8 (ot_1 hO) lf_X11_69 rfl eX11_told_32 ?_
    refine vx_eqi q8 ?_
    exact vx_iret hC hM rfl eX11_told_35 (⟨_, rfl, by unfold sp_told; (repeat (first | rw [if_pos (by omega)] | rw [if_neg (by omega)])); all_goals (first | rfl | omega), cq_ro hO hR (fun k hk => rfl) (fun k hk => rfl)⟩)
  · refine vx_lookup hC (tgt := 36) (by omega) (by decide) (by rw [c1] <;> rfl) (by decide) eX11_told_1 ?_
    refine vx_aload_n hC 0 rfl eX11_told_36 ?_
    refine vx_gr hC 0 (ot_0 hO) lf_X11_12 rfl (or_0_0 hO) eX11_told_37 ?_
    refine vx_callV_i hC (kX6_limit G d _ _ _ _ _ hO s hS hV) ly_X11_72 (ot_1 hO) rfl rfl rfl hRm (by omega) (Nat.le_of_ble_eq_true rfl) rfl eX11_told_40 (fun x2 n9 t9 a9 b9 c9 hx2 => ?_)
    obtain ⟨hx2, rfl, rfl, rfl, rfl, rfl⟩ := hx2
    exact vx_iret hC hM rfl eX11_told_43 (⟨_, rfl, by unfold sp_told; (repeat (first | rw [if_pos (by omega)] | rw [if_neg (by omega)])); all_goals (first | rfl | omega), cq_ro hO hR (fun k hk => rfl) (fun k hk => rfl)⟩)
  · refine vx_lookup hC (tgt := 44) (by omega) (by decide) (xn_osw c1) (by decide) eX11_told_1 ?_
    refine vx_iconst hC eX11_told_44 ?_
    exact vx_iret hC hM rfl eX11_told_45 (⟨_, rfl, by unfold sp_told; (repeat (first | rw [if_pos (by omega)] | rw [if_neg (by omega)])); all_goals (first | rfl | omega), cq_ro hO hR (fun k hk => rfl) (fun k hk => rfl)⟩)
set_option maxHeartbeats 4000000 in
set_option maxRecDepth 100000 in
theorem kX11_clear (G : xg_T) (d : Nat) (n : Nat) (tau : Nat → Nat × Nat) (vi vl : Nat → Int → Int) (vr : Nat → Int → Option Nat) (hO : xo n tau vr) (s im : Int → Int) (has ran : Int) (bod : Int → Int) (hR : RCl s im has ran bod n tau vi vr) (hV : ms_V s)  : xm G yX11_clear cX11_clear 2 (some .int) (d + 1) 0 0 [xa_r 0] n tau vi vl vr (xp_i (fun z9 n1 t1 a1 b1 c1 => z9 = (sp_clear s).1 ∧ cq ((sp_clear s).2) (im) (has) (ran) (bod) n tau vi vl n1 t1 a1 b1 c1)) := by
  refine xm.of (lv := [(0, xa_r 0)]) (by decide) (Nat.le_of_ble_eq_true rfl) rfl (fun K hC hM hRm => ?_)
  have hS : rp_S 1 s n tau vi vr := hR.1
  obtain ⟨q1, q3, q7, q8, q9, q10, qt, qp, qr, qpl, qtb⟩ := id hS
  have hW : ms_W s := hV.1
  have h60 := hV.2
  obtain ⟨hr, h0, h1, h2, h3, h4, h5, h6, hp0, hrow, hwon, htape, htab⟩ := id hW
  obtain ⟨-, R2, R3, R4, R5, R6, R7, R8, R9, R10⟩ := id hR
  refine vx_aload_n hC 0 rfl eX11_clear_0 ?_
  refine vx_gr hC 0 (ot_0 hO) lf_X11_12 rfl (or_0_0 hO) eX11_clear_1 ?_
  refine vx_gi hC 9 (ot_1 hO) lf_X11_187 rfl eX11_clear_4 ?_
  refine vx_eqi q9 ?_
  refine vx_istore_n hC (lv1 := [(1, xa_i (s 2)), (0, xa_r 0)]) (by decide) rfl eX11_clear_7 ?_
  refine vx_aload_n hC 1 rfl eX11_clear_8 ?_
  refine vx_gr hC 0 (ot_0 hO) lf_X11_12 rfl (or_0_0 hO) eX11_clear_9 ?_
  refine vx_iconst hC eX11_clear_12 ?_
  refine vx_pi hC 9 (ot_1 hO) lp_X11_187 rfl (Or.inl rfl) (Or.inl rfl) eX11_clear_13 ?_
  refine vx_vi (fun v1 hv1 => ?_)
  have hv1_1_1 : v1 1 1 = s 3 := by rw [hv1, xu_k, fu_n _ _ _ (by decide), q1]
  have hv1_1_3 : v1 1 3 = s 1 := by rw [hv1, xu_k, fu_n _ _ _ (by decide), q3]
  have hv1_1_7 : v1 1 7 = s 0 := by rw [hv1, xu_k, fu_n _ _ _ (by decide), q7]
  have hv1_1_8 : v1 1 8 = s 5 := by rw [hv1, xu_k, fu_n _ _ _ (by decide), q8]
  have hv1_1_9 : v1 1 9 = 0 := by rw [hv1, xu_k, fu_s]
  have hv1_1_10 : v1 1 10 = wb s (s 2).toNat := by rw [hv1, xu_k, fu_n _ _ _ (by decide), q10]
  have hv1_2 : v1 2 = vi 2 := by rw [hv1, xu_c _ _ _ _ (by decide)]
  have hv1_5 : v1 5 = vi 5 := by rw [hv1, xu_c _ _ _ _ (by decide)]
  have hv1_6 : v1 6 = vi 6 := by rw [hv1, xu_c _ _ _ _ (by decide)]
  have frv1 : ∀ k : Nat, (¬ k = 1 ∧ ¬ k = 2 ∧ ¬ k = 5 ∧ ¬ k = 6) → v1 k = vi k := fun k hk => by rw [hv1, xu_c _ _ _ _ (by omega)]
  refine vx_aload_n hC 1 rfl eX11_clear_16 ?_
  refine vx_gr hC 0 (ot_0 hO) lf_X11_12 rfl (or_0_0 hO) eX11_clear_17 ?_
  refine vx_iconst hC eX11_clear_20 ?_
  refine vx_pi hC 10 (ot_1 hO) lp_X11_194 rfl (Or.inl rfl) (Or.inl rfl) eX11_clear_21 ?_
  refine vx_vi (fun v2 hv2 => ?_)
  have hv2_1_1 : v2 1 1 = s 3 := by rw [hv2, xu_k, fu_n _ _ _ (by decide), hv1_1_1]
  have hv2_1_3 : v2 1 3 = s 1 := by rw [hv2, xu_k, fu_n _ _ _ (by decide), hv1_1_3]
  have hv2_1_7 : v2 1 7 = s 0 := by rw [hv2, xu_k, fu_n _ _ _ (by decide), hv1_1_7]
  have hv2_1_8 : v2 1 8 = s 5 := by rw [hv2, xu_k, fu_n _ _ _ (by decide), hv1_1_8]
  have hv2_1_9 : v2 1 9 = 0 := by rw [hv2, xu_k, fu_n _ _ _ (by decide), hv1_1_9]
  have hv2_1_10 : v2 1 10 = 0 := by rw [hv2, xu_k, fu_s]
  have hv2_2 : v2 2 = vi 2 := by rw [hv2, xu_c _ _ _ _ (by decide), hv1_2]
  have hv2_5 : v2 5 = vi 5 := by rw [hv2, xu_c _ _ _ _ (by decide), hv1_5]
  have hv2_6 : v2 6 = vi 6 := by rw [hv2, xu_c _ _ _ _ (by decide), hv1_6]
  have frv2 : ∀ k : Nat, (¬ k = 1 ∧ ¬ k = 2 ∧ ¬ k = 5 ∧ ¬ k = 6) → v2 k = vi k := fun k hk => by rw [hv2, xu_c _ _ _ _ (by omega)]; exact frv1 k hk
  refine vx_iload_n hC 0 rfl eX11_clear_24 ?_
  have hs2 : (sp_clear s).2 = fu s 2 0 := by unfold sp_clear; (repeat (first | rw [if_pos (by omega)] | rw [if_neg (by omega)])); all_goals (first | rfl | (simp only [id]))
  exact vx_iret hC hM rfl eX11_clear_25 (⟨_, rfl, by unfold sp_clear; (repeat (first | rw [if_pos (by omega)] | rw [if_neg (by omega)])); all_goals (first | rfl | omega), by rw [hs2]; exact cq_s hO hR (cs_clear hS hV hv2_1_1 hv2_1_3 hv2_1_7 hv2_1_8 (by rw [hv2_1_9] <;> omega) (by rw [hv2_1_10] <;> omega) hv2_2 hv2_5 hv2_6 (fun k hk => frv2 k (by omega))) (by rw [hv2_2]; exact R8) (fun k hk => frv2 k (by omega)) (fun k hk => rfl)⟩)
set_option maxHeartbeats 4000000 in
set_option maxRecDepth 100000 in
theorem kX11_count (G : xg_T) (d : Nat) (n : Nat) (tau : Nat → Nat × Nat) (vi vl : Nat → Int → Int) (vr : Nat → Int → Option Nat) (hO : xo n tau vr) (s im : Int → Int) (has ran : Int) (bod : Int → Int) (hR : RCl s im has ran bod n tau vi vr) (hV : ms_V s) (x : Int) (hx : -2147483648 ≤ x ∧ x < 2147483648) : xm G yX11_count cX11_count 2 (some .int) (d + 1) 0 0 [xa_r 0, xa_i x] n tau vi vl vr (xp_i (fun z9 n1 t1 a1 b1 c1 => z9 = sp_count s ran x ∧ cq (s) (im) (has) (ran) (bod) n tau vi vl n1 t1 a1 b1 c1)) := by
  refine xm.of (lv := [(0, xa_r 0), (1, xa_i x)]) (by decide) (Nat.le_of_ble_eq_true rfl) rfl (fun K hC hM hRm => ?_)
  have hS : rp_S 1 s n tau vi vr := hR.1
  obtain ⟨q1, q3, q7, q8, q9, q10, qt, qp, qr, qpl, qtb⟩ := id hS
  have hW : ms_W s := hV.1
  have h60 := hV.2
  obtain ⟨hr, h0, h1, h2, h3, h4, h5, h6, hp0, hrow, hwon, htape, htab⟩ := id hW
  obtain ⟨-, R2, R3, R4, R5, R6, R7, R8, R9, R10⟩ := id hR
  refine vx_iload_n hC 1 rfl eX11_count_0 ?_
  rcases (show x = 0 ∨ x = 1 ∨ x = 2 ∨ x = 3 ∨ x = 4 ∨ (¬ x = 0 ∧ ¬ x = 1 ∧ ¬ x = 2 ∧ ¬ x = 3 ∧ ¬ x = 4) by omega) with c1 | c1 | c1 | c1 | c1 | c1
  · refine vx_tableIn hC (tgt := 36) (by omega) (by omega) (by rw [c1]; rfl) (by decide) eX11_count_1 ?_
    refine vx_aload_n hC 0 rfl eX11_count_36 ?_
    refine vx_gr hC 0 (ot_0 hO) lf_X11_12 rfl (or_0_0 hO) eX11_count_37 ?_
    refine vx_gi hC 7 (ot_1 hO) lf_X11_76 rfl eX11_count_40 ?_
    refine vx_eqi q7 ?_
    exact vx_iret hC hM rfl eX11_count_43 (⟨_, rfl, by unfold sp_count; (repeat (first | rw [if_pos (by omega)] | rw [if_neg (by omega)])); all_goals (first | rfl | omega), cq_ro hO hR (fun k hk => rfl) (fun k hk => rfl)⟩)
  · refine vx_tableIn hC (tgt := 44) (by omega) (by omega) (by rw [c1]; rfl) (by decide) eX11_count_1 ?_
    refine vx_aload_n hC 0 rfl eX11_count_44 ?_
    refine vx_gr hC 0 (ot_0 hO) lf_X11_12 rfl (or_0_0 hO) eX11_count_45 ?_
    refine vx_gi hC 3 (ot_1 hO) lf_X11_47 rfl eX11_count_48 ?_
    refine vx_eqi q3 ?_
    exact vx_iret hC hM rfl eX11_count_51 (⟨_, rfl, by unfold sp_count; (repeat (first | rw [if_pos (by omega)] | rw [if_neg (by omega)])); all_goals (first | rfl | omega), cq_ro hO hR (fun k hk => rfl) (fun k hk => rfl)⟩)
  · refine vx_tableIn hC (tgt := 52) (by omega) (by omega) (by rw [c1]; rfl) (by decide) eX11_count_1 ?_
    refine vx_aload_n hC 0 rfl eX11_count_52 ?_
    refine vx_gr hC 0 (ot_0 hO) lf_X11_12 rfl (or_0_0 hO) eX11_count_53 ?_
    refine vx_gi hC 9 (ot_1 hO) lf_X11_187 rfl eX11_count_56 ?_
    refine vx_eqi q9 ?_
    exact vx_iret hC hM rfl eX11_count_59 (⟨_, rfl, by unfold sp_count; (repeat (first | rw [if_pos (by omega)] | rw [if_neg (by omega)])); all_goals (first | rfl | omega), cq_ro hO hR (fun k hk => rfl) (fun k hk => rfl)⟩)
  · refine vx_tableIn hC (tgt := 60) (by omega) (by omega) (by rw [c1]; rfl) (by decide) eX11_count_1 ?_
    refine vx_aload_n hC 0 rfl eX11_count_60 ?_
    refine vx_gr hC 0 (ot_0 hO) lf_X11_12 rfl (or_0_0 hO) eX11_count_61 ?_
    refine vx_gi hC 1 (ot_1 hO) lf_X11_39 rfl eX11_count_64 ?_
    refine vx_eqi q1 ?_
    exact vx_iret hC hM rfl eX11_count_67 (⟨_, rfl, by unfold sp_count; (repeat (first | rw [if_pos (by omega)] | rw [if_neg (by omega)])); all_goals (first | rfl | omega), cq_ro hO hR (fun k hk => rfl) (fun k hk => rfl)⟩)
  · refine vx_tableIn hC (tgt := 68) (by omega) (by omega) (by rw [c1]; rfl) (by decide) eX11_count_1 ?_
    refine vx_aload_n hC 0 rfl eX11_count_68 ?_
    refine vx_gr hC 5 (ot_0 hO) lf_X11_35 rfl (or_0_5 hO) eX11_count_69 ?_
    refine vx_iconst hC eX11_count_72 ?_
    refine vx_iaload hC (ot_30 hO) (by omega) (by omega) eX11_count_73 ?_
    refine vx_eqi R4 ?_
    exact vx_iret hC hM rfl eX11_count_74 (⟨_, rfl, by unfold sp_count; (repeat (first | rw [if_pos (by omega)] | rw [if_neg (by omega)])); all_goals (first | rfl | omega), cq_ro hO hR (fun k hk => rfl) (fun k hk => rfl)⟩)
  · refine vx_tableOut hC (tgt := 75) (by omega) (by omega) (by decide) eX11_count_1 ?_
    refine vx_iconst hC eX11_count_75 ?_
    exact vx_iret hC hM rfl eX11_count_76 (⟨_, rfl, by unfold sp_count; (repeat (first | rw [if_pos (by omega)] | rw [if_neg (by omega)])); all_goals (first | rfl | omega), cq_ro hO hR (fun k hk => rfl) (fun k hk => rfl)⟩)
set_option maxHeartbeats 4000000 in
set_option maxRecDepth 100000 in
theorem kX11_trace (G : xg_T) (d : Nat) (n : Nat) (tau : Nat → Nat × Nat) (vi vl : Nat → Int → Int) (vr : Nat → Int → Option Nat) (hO : xo n tau vr) (s im : Int → Int) (has ran : Int) (bod : Int → Int) (hR : RCl s im has ran bod n tau vi vr) (hV : ms_V s) (x : Int) (hx : -2147483648 ≤ x ∧ x < 2147483648) : xm G yX11_trace cX11_trace 2 (some .int) (d + 1) 0 0 [xa_r 0, xa_i x] n tau vi vl vr (xp_i (fun z9 n1 t1 a1 b1 c1 => z9 = sp_trace bod ran x ∧ cq (s) (im) (has) (ran) (bod) n tau vi vl n1 t1 a1 b1 c1)) := by
  refine xm.of (lv := [(0, xa_r 0), (1, xa_i x)]) (by decide) (Nat.le_of_ble_eq_true rfl) rfl (fun K hC hM hRm => ?_)
  have hS : rp_S 1 s n tau vi vr := hR.1
  obtain ⟨q1, q3, q7, q8, q9, q10, qt, qp, qr, qpl, qtb⟩ := id hS
  have hW : ms_W s := hV.1
  have h60 := hV.2
  obtain ⟨hr, h0, h1, h2, h3, h4, h5, h6, hp0, hrow, hwon, htape, htab⟩ := id hW
  obtain ⟨-, R2, R3, R4, R5, R6, R7, R8, R9, R10⟩ := id hR
  refine vx_iload_n hC 1 rfl eX11_trace_0 ?_
  refine vx_if_lt hC (tgt := 20) (by omega) (by decide) eX11_trace_1 (fun c1 => ?_) (fun c1 => ?_)
  · refine vx_iconst hC eX11_trace_20 ?_
    exact vx_iret hC hM rfl eX11_trace_21 (⟨_, rfl, by unfold sp_trace; (repeat (first | rw [if_pos (by omega)] | rw [if_neg (by omega)])); all_goals (first | rfl | omega), cq_ro hO hR (fun k hk => rfl) (fun k hk => rfl)⟩)
  · refine vx_iload_n hC 1 rfl eX11_trace_4 ?_
    refine vx_aload_n hC 0 rfl eX11_trace_5 ?_
    refine vx_gr hC 5 (ot_0 hO) lf_X11_35 rfl (or_0_5 hO) eX11_trace_6 ?_
    refine vx_iconst hC eX11_trace_9 ?_
    refine vx_iaload hC (ot_30 hO) (by omega) (by omega) eX11_trace_10 ?_
    refine vx_eqi R4 ?_
    refine vx_icmp_ge hC (tgt := 20) (by omega) (by decide) eX11_trace_11 (fun c2 => ?_) (fun c2 => ?_)
    · refine vx_iconst hC eX11_trace_20 ?_
      exact vx_iret hC hM rfl eX11_trace_21 (⟨_, rfl, by unfold sp_trace; (repeat (first | rw [if_pos (by omega)] | rw [if_neg (by omega)])); all_goals (first | rfl | omega), cq_ro hO hR (fun k hk => rfl) (fun k hk => rfl)⟩)
    · refine vx_iload_n hC 1 rfl eX11_trace_14 ?_
      refine vx_bipush hC (by decide) eX11_trace_15 ?_
      refine vx_icmp_lt hC (tgt := 22) (by omega) (by decide) eX11_trace_17 (fun c3 => ?_) (fun c3 => ?_)
      · refine vx_aload_n hC 0 rfl eX11_trace_22 ?_
        refine vx_gr hC 5 (ot_0 hO) lf_X11_35 rfl (or_0_5 hO) eX11_trace_23 ?_
        refine vx_iconst hC eX11_trace_26 ?_
        refine vx_iload_n hC 1 rfl eX11_trace_27 ?_
        refine vx_iadd hC eX11_trace_28 ?_
        refine vx_iaload hC (ot_30 hO) (by omega) (by omega) eX11_trace_29 ?_
        refine vx_eqi (R5 x (by omega) (by omega)) ?_
        exact vx_iret hC hM rfl eX11_trace_30 (⟨_, rfl, by unfold sp_trace; (repeat (first | rw [if_pos (by omega)] | rw [if_neg (by omega)])); all_goals (first | rfl | omega), cq_ro hO hR (fun k hk => rfl) (fun k hk => rfl)⟩)
      · refine vx_iconst hC eX11_trace_20 ?_
        exact vx_iret hC hM rfl eX11_trace_21 (⟨_, rfl, by unfold sp_trace; (repeat (first | rw [if_pos (by omega)] | rw [if_neg (by omega)])); all_goals (first | rfl | omega), cq_ro hO hR (fun k hk => rfl) (fun k hk => rfl)⟩)
set_option maxHeartbeats 4000000 in
set_option maxRecDepth 100000 in
theorem kX11_purse (G : xg_T) (d : Nat) (n : Nat) (tau : Nat → Nat × Nat) (vi vl : Nat → Int → Int) (vr : Nat → Int → Option Nat) (hO : xo n tau vr) (s im : Int → Int) (has ran : Int) (bod : Int → Int) (hR : RCl s im has ran bod n tau vi vr) (hV : ms_V s) (q x : Int) (hq : -2147483648 ≤ q ∧ q < 2147483648) (hx : -2147483648 ≤ x ∧ x < 2147483648) : xm G yX11_purse cX11_purse 5 (some .int) (d + 2) 0 0 [xa_r 0, xa_i q, xa_i x] n tau vi vl vr (xp_i (fun z9 n1 t1 a1 b1 c1 => z9 = (sp_purse s q x).1 ∧ cq ((sp_purse s q x).2) (im) (has) (ran) (bod) n tau vi vl n1 t1 a1 b1 c1)) := by
  refine xm.of (lv := [(0, xa_r 0), (1, xa_i q), (2, xa_i x)]) (by decide) (Nat.le_of_ble_eq_true rfl) rfl (fun K hC hM hRm => ?_)
  have hS : rp_S 1 s n tau vi vr := hR.1
  obtain ⟨q1, q3, q7, q8, q9, q10, qt, qp, qr, qpl, qtb⟩ := id hS
  have hW : ms_W s := hV.1
  have h60 := hV.2
  obtain ⟨hr, h0, h1, h2, h3, h4, h5, h6, hp0, hrow, hwon, htape, htab⟩ := id hW
  obtain ⟨-, R2, R3, R4, R5, R6, R7, R8, R9, R10⟩ := id hR
  refine vx_aload_n hC 0 rfl eX11_purse_0 ?_
  refine vx_gr hC 0 (ot_0 hO) lf_X11_12 rfl (or_0_0 hO) eX11_purse_1 ?_
  refine vx_iload_n hC 1 rfl eX11_purse_4 ?_
  refine vx_callV_q hC (kX6_playerAt G d _ _ _ _ _ hO s hS hV q (by omega)) ly_X11_93 (ot_1 hO) rfl rfl rfl hRm (by omega) (Nat.le_of_ble_eq_true rfl) rfl eX11_purse_5 (fun r1 n9 t9 a9 b9 c9 hr1 => ?_)
  obtain ⟨hr1, rfl, rfl, rfl, rfl, rfl⟩ := hr1
  rcases hr1 with ⟨rfl, hno⟩ | ⟨kp, rfl, hyes, hkp⟩
  · refine vx_astore_n hC (lv1 := [(3, xa_n), (0, xa_r 0), (1, xa_i q), (2, xa_i x)]) (by decide) rfl eX11_purse_8 ?_
    refine vx_aload_n hC 0 rfl eX11_purse_9 ?_
    refine vx_ifnonnull hC (tgt := 15) (by decide) eX11_purse_10 (fun k h => by cases h) (fun _ => ?_)
    refine vx_iconst hC eX11_purse_13 ?_
    exact vx_iret hC hM rfl eX11_purse_14 (⟨_, rfl, by unfold sp_purse; (repeat (first | rw [if_pos (by omega)] | rw [if_neg (by omega)])); all_goals (first | rfl | omega), by rw [show (sp_purse s q x).2 = s by unfold sp_purse; (repeat (first | rw [if_pos (by omega)] | rw [if_neg (by omega)]))]; exact cq_ro hO hR (fun k hk => rfl) (fun k hk => rfl)⟩)
  · obtain ⟨k1, k2, k3, k4, k5, k6⟩ := id hkp
    obtain ⟨g1, g2, g3, g4⟩ := hp0 q (by omega) (by omega)
    refine vx_astore_n hC (lv1 := [(3, xa_r kp), (0, xa_r 0), (1, xa_i q), (2, xa_i x)]) (by decide) rfl eX11_purse_8 ?_
    refine vx_aload_n hC 0 rfl eX11_purse_9 ?_
    refine vx_ifnonnull hC (tgt := 15) (by decide) eX11_purse_10 (fun _ _ => ?_) (fun h => by cases h)
    refine vx_iload_n hC 3 rfl eX11_purse_15 ?_
    refine vx_if_lt hC (tgt := 27) (by omega) (by decide) eX11_purse_16 (fun c2 => ?_) (fun c2 => ?_)
    · refine vx_bipush hC (by decide) eX11_purse_27 ?_
      exact vx_iret hC hM rfl eX11_purse_29 (⟨_, rfl, by unfold sp_purse; (repeat (first | rw [if_pos (by omega)] | rw [if_neg (by omega)])); all_goals (first | rfl | omega), by rw [show (sp_purse s q x).2 = s by unfold sp_purse; (repeat (first | rw [if_pos (by omega)] | rw [if_neg (by omega)]))]; exact cq_ro hO hR (fun k hk => rfl) (fun k hk => rfl)⟩)
    · refine vx_iload_n hC 3 rfl eX11_purse_19 ?_
      refine vx_aload_n hC 0 rfl eX11_purse_20 ?_
      refine vx_gi hC 3 ⟨k1.2, k2⟩ (lf_X11_105 (xp_pn _)) rfl eX11_purse_21 ?_
      refine vx_eqi k6 ?_
      refine vx_icmp_le hC (tgt := 30) (by omega) (by decide) eX11_purse_24 (fun c3 => ?_) (fun c3 => ?_)
      · refine vx_aload_n hC 1 rfl eX11_purse_30 ?_
        refine vx_gr hC 0 (ot_0 hO) lf_X11_12 rfl (or_0_0 hO) eX11_purse_31 ?_
        refine vx_gr hC 5 (ot_1 hO) lf_X11_87 rfl (or_1_5 hO) eX11_purse_34 ?_
        refine vx_iload_n hC 2 rfl eX11_purse_37 ?_
        refine vx_iaload hC (ot_5 hO) (by omega) (by omega) eX11_purse_38 ?_
        refine vx_eqi (qp q (by omega) (by omega)) ?_
        refine vx_top (fun x4 hx4 => ?_)
        refine vx_istore hC (lv1 := [(4, xa_i x4), (3, xa_r kp), (0, xa_r 0), (1, xa_i q), (2, xa_i x)]) (by decide) rfl eX11_purse_39 ?_
        refine vx_aload_n hC 2 rfl eX11_purse_41 ?_
        refine vx_gr hC 0 (ot_0 hO) lf_X11_12 rfl (or_0_0 hO) eX11_purse_42 ?_
        refine vx_gr hC 5 (ot_1 hO) lf_X11_87 rfl (or_1_5 hO) eX11_purse_45 ?_
        refine vx_iload_n hC 3 rfl eX11_purse_48 ?_
        refine vx_iload_n hC 4 rfl eX11_purse_49 ?_
        refine vx_iastore hC (ot_5 hO) (by omega) (by omega) eX11_purse_50 ?_
        refine vx_vi (fun v5 hv5 => ?_)
        have hv5_1_1 : v5 1 1 = s 3 := by rw [hv5, xu_c _ _ _ _ (by decide), q1]
        have hv5_1_3 : v5 1 3 = s 1 := by rw [hv5, xu_c _ _ _ _ (by decide), q3]
        have hv5_1_7 : v5 1 7 = s 0 := by rw [hv5, xu_c _ _ _ _ (by decide), q7]
        have hv5_1_8 : v5 1 8 = s 5 := by rw [hv5, xu_c _ _ _ _ (by decide), q8]
        have hv5_1_9 : v5 1 9 = s 2 := by rw [hv5, xu_c _ _ _ _ (by decide), q9]
        have hv5_1_10 : v5 1 10 = wb s (s 2).toNat := by rw [hv5, xu_c _ _ _ _ (by decide), q10]
        have hv5_2 : v5 2 = vi 2 := by rw [hv5, xu_c _ _ _ _ (by decide)]
        obtain ⟨f6, hf6⟩ : ∃ f, f = fu (vi 5) q x := ⟨_, rfl⟩
        have hv5_5 : v5 5 = f6 := by rw [hv5, hf6, xu_k]
        have hv5_6 : v5 6 = vi 6 := by rw [hv5, xu_c _ _ _ _ (by decide)]
        have hv5_kp_0 : v5 kp 0 = s (10 + q) := by rw [hv5, xu_c _ _ _ _ (by omega), k3]
        have hv5_kp_1 : v5 kp 1 = q := by rw [hv5, xu_c _ _ _ _ (by omega), k4]
        have hv5_kp_2 : v5 kp 2 = s (14 + q) := by rw [hv5, xu_c _ _ _ _ (by omega), k5]
        have hv5_kp_3 : v5 kp 3 = s (18 + q) := by rw [hv5, xu_c _ _ _ _ (by omega), k6]
        have frv5 : ∀ k : Nat, (¬ k = 1 ∧ ¬ k = 2 ∧ ¬ k = 5 ∧ ¬ k = 6) → v5 k = vi k := fun k hk => by rw [hv5, xu_c _ _ _ _ (by omega)]
        refine vx_iload hC 0 rfl eX11_purse_51 ?_
        have hs2 : (sp_purse s q x).2 = fu s (22 + q) x := by unfold sp_purse; (repeat (first | rw [if_pos (by omega)] | rw [if_neg (by omega)])); all_goals (first | rfl | (simp only [hx4]))
        exact vx_iret hC hM rfl eX11_purse_53 (⟨_, rfl, by unfold sp_purse; (repeat (first | rw [if_pos (by omega)] | rw [if_neg (by omega)])); all_goals (first | rfl | omega), by rw [hs2]; exact cq_s hO hR (cs_purse hS hV q x (by omega) hv5_1_1 hv5_1_3 hv5_1_7 hv5_1_8 hv5_1_9 hv5_1_10 hv5_2 (by rw [hv5_5, hf6] <;> simp only [hx4]) hv5_6 (fun k hk => frv5 k (by omega))) (by rw [hv5_2]; exact R8) (fun k hk => frv5 k (by omega)) (fun k hk => rfl)⟩)
      · refine vx_bipush hC (by decide) eX11_purse_27 ?_
        exact vx_iret hC hM rfl eX11_purse_29 (⟨_, rfl, by unfold sp_purse; (repeat (first | rw [if_pos (by omega)] | rw [if_neg (by omega)])); all_goals (first | rfl | omega), by rw [show (sp_purse s q x).2 = s by unfold sp_purse; (repeat (first | rw [if_pos (by omega)] | rw [if_neg (by omega)]))]; exact cq_ro hO hR (fun k hk => rfl) (fun k hk => rfl)⟩)
section XV
variable {G : xg_T} {K : xk_T} {cc : ByteArray} {own : String} {nL : Nat} {Q : State → Prop} {cells slots n : Nat} {tau : Nat → Nat × Nat} {vi vl : Nat → Int → Int} {vr : Nat → Int → Option Nat} {pc pc1 : Nat} {lv : List (Nat × xa_T)} {st : List xa_T}
theorem vx_inst1 (hC : xk_C G K cc own nL) {k ix : Nat} {kd : Int} (ht : k < n ∧ tau k = (pn kd, 0)) (hkd : 0 ≤ kd ∧ kd ≤ 6) (hw : Cond.classLink own ix RX0 ∈ xw_tbl) (hd : xd_D cc pc (.instanceof ix) 3 pc1) (kk : ∀ x : Int, ((x = 1 ∧ (kd = 1 ∨ kd = 4)) ∨ (x = 0 ∧ ¬ (kd = 1 ∨ kd = 4))) → xv G K nL Q cells slots n tau vi vl vr pc1 lv (xa_i x :: st)) : xv G K nL Q cells slots n tau vi vl vr pc lv (xa_r k :: st) := by
  rcases (show kd = 0 ∨ kd = 1 ∨ kd = 2 ∨ kd = 3 ∨ kd = 4 ∨ kd = 5 ∨ kd = 6 by omega) with hz | hz | hz | hz | hz | hz | hz
  · subst hz; exact vx_instNo hC ht rfl (by decide +kernel) hw hd (kk 0 (by omega))
  · subst hz; exact vx_instY hC ht rfl (Or.inl rfl) hw hd (kk 1 (by omega))
  · subst hz; exact vx_instNo hC ht rfl (by decide +kernel) hw hd (kk 0 (by omega))
  · subst hz; exact vx_instNo hC ht rfl (by decide +kernel) hw hd (kk 0 (by omega))
  · subst hz; exact vx_instY hC ht rfl (Or.inr (by decide)) hw hd (kk 1 (by omega))
  · subst hz; exact vx_instNo hC ht rfl (by decide +kernel) hw hd (kk 0 (by omega))
  · subst hz; exact vx_instNo hC ht rfl (by decide +kernel) hw hd (kk 0 (by omega))
theorem vx_inst2 (hC : xk_C G K cc own nL) {k ix : Nat} {kd : Int} (ht : k < n ∧ tau k = (pn kd, 0)) (hkd : 0 ≤ kd ∧ kd ≤ 6) (hw : Cond.classLink own ix RX9 ∈ xw_tbl) (hd : xd_D cc pc (.instanceof ix) 3 pc1) (kk : ∀ x : Int, ((x = 1 ∧ (kd = 2 ∨ kd = 5)) ∨ (x = 0 ∧ ¬ (kd = 2 ∨ kd = 5))) → xv G K nL Q cells slots n tau vi vl vr pc1 lv (xa_i x :: st)) : xv G K nL Q cells slots n tau vi vl vr pc lv (xa_r k :: st) := by
  rcases (show kd = 0 ∨ kd = 1 ∨ kd = 2 ∨ kd = 3 ∨ kd = 4 ∨ kd = 5 ∨ kd = 6 by omega) with hz | hz | hz | hz | hz | hz | hz
  · subst hz; exact vx_instNo hC ht rfl (by decide +kernel) hw hd (kk 0 (by omega))
  · subst hz; exact vx_instNo hC ht rfl (by decide +kernel) hw hd (kk 0 (by omega))
  · subst hz; exact vx_instY hC ht rfl (Or.inl rfl) hw hd (kk 1 (by omega))
  · subst hz; exact vx_instNo hC ht rfl (by decide +kernel) hw hd (kk 0 (by omega))
  · subst hz; exact vx_instNo hC ht rfl (by decide +kernel) hw hd (kk 0 (by omega))
  · subst hz; exact vx_instY hC ht rfl (Or.inr (by decide)) hw hd (kk 1 (by omega))
  · subst hz; exact vx_instNo hC ht rfl (by decide +kernel) hw hd (kk 0 (by omega))
theorem vx_inst3 (hC : xk_C G K cc own nL) {k ix : Nat} {kd : Int} (ht : k < n ∧ tau k = (pn kd, 0)) (hkd : 0 ≤ kd ∧ kd ≤ 6) (hw : Cond.classLink own ix RX7 ∈ xw_tbl) (hd : xd_D cc pc (.instanceof ix) 3 pc1) (kk : ∀ x : Int, ((x = 1 ∧ (kd = 3 ∨ kd = 6)) ∨ (x = 0 ∧ ¬ (kd = 3 ∨ kd = 6))) → xv G K nL Q cells slots n tau vi vl vr pc1 lv (xa_i x :: st)) : xv G K nL Q cells slots n tau vi vl vr pc lv (xa_r k :: st) := by
  rcases (show kd = 0 ∨ kd = 1 ∨ kd = 2 ∨ kd = 3 ∨ kd = 4 ∨ kd = 5 ∨ kd = 6 by omega) with hz | hz | hz | hz | hz | hz | hz
  · subst hz; exact vx_instNo hC ht rfl (by decide +kernel) hw hd (kk 0 (by omega))
  · subst hz; exact vx_instNo hC ht rfl (by decide +kernel) hw hd (kk 0 (by omega))
  · subst hz; exact vx_instNo hC ht rfl (by decide +kernel) hw hd (kk 0 (by omega))
  · subst hz; exact vx_instY hC ht rfl (Or.inl rfl) hw hd (kk 1 (by omega))
  · subst hz; exact vx_instNo hC ht rfl (by decide +kernel) hw hd (kk 0 (by omega))
  · subst hz; exact vx_instNo hC ht rfl (by decide +kernel) hw hd (kk 0 (by omega))
  · subst hz; exact vx_instY hC ht rfl (Or.inr (by decide)) hw hd (kk 1 (by omega))
theorem vx_inst4 (hC : xk_C G K cc own nL) {k ix : Nat} {kd : Int} (ht : k < n ∧ tau k = (pn kd, 0)) (hkd : 0 ≤ kd ∧ kd ≤ 6) (hw : Cond.classLink own ix RX3 ∈ xw_tbl) (hd : xd_D cc pc (.instanceof ix) 3 pc1) (kk : ∀ x : Int, ((x = 1 ∧ (kd = 4)) ∨ (x = 0 ∧ ¬ (kd = 4))) → xv G K nL Q cells slots n tau vi vl vr pc1 lv (xa_i x :: st)) : xv G K nL Q cells slots n tau vi vl vr pc lv (xa_r k :: st) := by
  rcases (show kd = 0 ∨ kd = 1 ∨ kd = 2 ∨ kd = 3 ∨ kd = 4 ∨ kd = 5 ∨ kd = 6 by omega) with hz | hz | hz | hz | hz | hz | hz
  · subst hz; exact vx_instNo hC ht rfl (by decide +kernel) hw hd (kk 0 (by omega))
  · subst hz; exact vx_instNo hC ht rfl (by decide +kernel) hw hd (kk 0 (by omega))
  · subst hz; exact vx_instNo hC ht rfl (by decide +kernel) hw hd (kk 0 (by omega))
  · subst hz; exact vx_instNo hC ht rfl (by decide +kernel) hw hd (kk 0 (by omega))
  · subst hz; exact vx_instY hC ht rfl (Or.inl rfl) hw hd (kk 1 (by omega))
  · subst hz; exact vx_instNo hC ht rfl (by decide +kernel) hw hd (kk 0 (by omega))
  · subst hz; exact vx_instNo hC ht rfl (by decide +kernel) hw hd (kk 0 (by omega))
theorem vx_inst5 (hC : xk_C G K cc own nL) {k ix : Nat} {kd : Int} (ht : k < n ∧ tau k = (pn kd, 0)) (hkd : 0 ≤ kd ∧ kd ≤ 6) (hw : Cond.classLink own ix RX1 ∈ xw_tbl) (hd : xd_D cc pc (.instanceof ix) 3 pc1) (kk : ∀ x : Int, ((x = 1 ∧ (kd = 5)) ∨ (x = 0 ∧ ¬ (kd = 5))) → xv G K nL Q cells slots n tau vi vl vr pc1 lv (xa_i x :: st)) : xv G K nL Q cells slots n tau vi vl vr pc lv (xa_r k :: st) := by
  rcases (show kd = 0 ∨ kd = 1 ∨ kd = 2 ∨ kd = 3 ∨ kd = 4 ∨ kd = 5 ∨ kd = 6 by omega) with hz | hz | hz | hz | hz | hz | hz
  · subst hz; exact vx_instNo hC ht rfl (by decide +kernel) hw hd (kk 0 (by omega))
  · subst hz; exact vx_instNo hC ht rfl (by decide +kernel) hw hd (kk 0 (by omega))
  · subst hz; exact vx_instNo hC ht rfl (by decide +kernel) hw hd (kk 0 (by omega))
  · subst hz; exact vx_instNo hC ht rfl (by decide +kernel) hw hd (kk 0 (by omega))
  · subst hz; exact vx_instNo hC ht rfl (by decide +kernel) hw hd (kk 0 (by omega))
  · subst hz; exact vx_instY hC ht rfl (Or.inl rfl) hw hd (kk 1 (by omega))
  · subst hz; exact vx_instNo hC ht rfl (by decide +kernel) hw hd (kk 0 (by omega))
theorem vx_inst6 (hC : xk_C G K cc own nL) {k ix : Nat} {kd : Int} (ht : k < n ∧ tau k = (pn kd, 0)) (hkd : 0 ≤ kd ∧ kd ≤ 6) (hw : Cond.classLink own ix RX10 ∈ xw_tbl) (hd : xd_D cc pc (.instanceof ix) 3 pc1) (kk : ∀ x : Int, ((x = 1 ∧ (kd = 6)) ∨ (x = 0 ∧ ¬ (kd = 6))) → xv G K nL Q cells slots n tau vi vl vr pc1 lv (xa_i x :: st)) : xv G K nL Q cells slots n tau vi vl vr pc lv (xa_r k :: st) := by
  rcases (show kd = 0 ∨ kd = 1 ∨ kd = 2 ∨ kd = 3 ∨ kd = 4 ∨ kd = 5 ∨ kd = 6 by omega) with hz | hz | hz | hz | hz | hz | hz
  · subst hz; exact vx_instNo hC ht rfl (by decide +kernel) hw hd (kk 0 (by omega))
  · subst hz; exact vx_instNo hC ht rfl (by decide +kernel) hw hd (kk 0 (by omega))
  · subst hz; exact vx_instNo hC ht rfl (by decide +kernel) hw hd (kk 0 (by omega))
  · subst hz; exact vx_instNo hC ht rfl (by decide +kernel) hw hd (kk 0 (by omega))
  · subst hz; exact vx_instNo hC ht rfl (by decide +kernel) hw hd (kk 0 (by omega))
  · subst hz; exact vx_instNo hC ht rfl (by decide +kernel) hw hd (kk 0 (by omega))
  · subst hz; exact vx_instY hC ht rfl (Or.inl rfl) hw hd (kk 1 (by omega))
end XV
set_option maxHeartbeats 4000000 in
set_option maxRecDepth 100000 in
theorem kX11_row (G : xg_T) (d : Nat) (n : Nat) (tau : Nat → Nat × Nat) (vi vl : Nat → Int → Int) (vr : Nat → Int → Option Nat) (hO : xo n tau vr) (s im : Int → Int) (has ran : Int) (bod : Int → Int) (hR : RCl s im has ran bod n tau vi vr) (hV : ms_V s) (q k x : Int) (hq : -2147483648 ≤ q ∧ q < 2147483648) (hk : -2147483648 ≤ k ∧ k < 2147483648) (hx : -2147483648 ≤ x ∧ x < 2147483648) : xm G yX11_row cX11_row 7 (some .int) (d + 2) 0 0 [xa_r 0, xa_i q, xa_i k, xa_i x] n tau vi vl vr (xp_i (fun z9 n1 t1 a1 b1 c1 => z9 = (sp_row s q k x).1 ∧ cq ((sp_row s q k x).2) (im) (has) (ran) (bod) n tau vi vl n1 t1 a1 b1 c1)) := by
  refine xm.of (lv := [(0, xa_r 0), (1, xa_i q), (2, xa_i k), (3, xa_i x)]) (by decide) (Nat.le_of_ble_eq_true rfl) rfl (fun K hC hM hRm => ?_)
  have hS : rp_S 1 s n tau vi vr := hR.1
  obtain ⟨q1, q3, q7, q8, q9, q10, qt, qp, qr, qpl, qtb⟩ := id hS
  have hW : ms_W s := hV.1
  have h60 := hV.2
  obtain ⟨hr, h0, h1, h2, h3, h4, h5, h6, hp0, hrow, hwon, htape, htab⟩ := id hW
  obtain ⟨-, R2, R3, R4, R5, R6, R7, R8, R9, R10⟩ := id hR
  refine vx_aload_n hC 0 rfl eX11_row_0 ?_
  refine vx_gr hC 0 (ot_0 hO) lf_X11_12 rfl (or_0_0 hO) eX11_row_1 ?_
  refine vx_iload_n hC 1 rfl eX11_row_4 ?_
  refine vx_callV_q hC (kX6_playerAt G d _ _ _ _ _ hO s hS hV q (by omega)) ly_X11_93 (ot_1 hO) rfl rfl rfl hRm (by omega) (Nat.le_of_ble_eq_true rfl) rfl eX11_row_5 (fun r1 n9 t9 a9 b9 c9 hr1 => ?_)
  obtain ⟨hr1, rfl, rfl, rfl, rfl, rfl⟩ := hr1
  rcases hr1 with ⟨rfl, hno⟩ | ⟨kp, rfl, hyes, hkp⟩
  · refine vx_astore hC (lv1 := [(4, xa_n), (0, xa_r 0), (1, xa_i q), (2, xa_i k), (3, xa_i x)]) (by decide) rfl eX11_row_8 ?_
    refine vx_aload hC 0 rfl eX11_row_10 ?_
    refine vx_ifnull hC (tgt := 24) (by decide) eX11_row_12 (fun _ => ?_) (fun k h => by cases h)
    refine vx_iconst hC eX11_row_24 ?_
    exact vx_iret hC hM rfl eX11_row_25 (⟨_, rfl, by unfold sp_row; (repeat (first | rw [if_pos (by omega)] | rw [if_neg (by omega)])); all_goals (first | rfl | omega), by rw [show (sp_row s q k x).2 = s by unfold sp_row; (repeat (first | rw [if_pos (by omega)] | rw [if_neg (by omega)]))]; exact cq_ro hO hR (fun k hk => rfl) (fun k hk => rfl)⟩)
  · obtain ⟨k1, k2, k3, k4, k5, k6⟩ := id hkp
    obtain ⟨g1, g2, g3, g4⟩ := hp0 q (by omega) (by omega)
    refine vx_astore hC (lv1 := [(4, xa_r kp), (0, xa_r 0), (1, xa_i q), (2, xa_i k), (3, xa_i x)]) (by decide) rfl eX11_row_8 ?_
    refine vx_aload hC 0 rfl eX11_row_10 ?_
    refine vx_ifnull hC (tgt := 24) (by decide) eX11_row_12 (fun h => by cases h) (fun _ _ => ?_)
    refine vx_iload_n hC 3 rfl eX11_row_15 ?_
    refine vx_if_lt hC (tgt := 24) (by omega) (by decide) eX11_row_16 (fun c2 => ?_) (fun c2 => ?_)
    · refine vx_iconst hC eX11_row_24 ?_
      exact vx_iret hC hM rfl eX11_row_25 (⟨_, rfl, by unfold sp_row; (repeat (first | rw [if_pos (by omega)] | rw [if_neg (by omega)])); all_goals (first | rfl | omega), by rw [show (sp_row s q k x).2 = s by unfold sp_row; (repeat (first | rw [if_pos (by omega)] | rw [if_neg (by omega)]))]; exact cq_ro hO hR (fun k hk => rfl) (fun k hk => rfl)⟩)
    · refine vx_iload_n hC 3 rfl eX11_row_19 ?_
      refine vx_iconst hC eX11_row_20 ?_
      refine vx_icmp_lt hC (tgt := 26) (by omega) (by decide) eX11_row_21 (fun c3 => ?_) (fun c3 => ?_)
      · refine vx_iload_n hC 4 rfl eX11_row_26 ?_
        refine vx_callS_i hC (kX11_isDigit G d _ _ _ _ _ _ (by omega)) ly_X11_65 rfl hRm (by omega) (Nat.le_of_ble_eq_true rfl) rfl eX11_row_27 (fun x4 n9 t9 a9 b9 c9 hx4 => ?_)
        obtain ⟨hx4, rfl, rfl, rfl, rfl, rfl⟩ := hx4
        refine vx_if_ne hC (tgt := 36) (by omega) (by decide) eX11_row_30 (fun c5 => ?_) (fun c5 => ?_)
        · refine vx_aload hC 0 rfl eX11_row_36 ?_
          refine vx_inst6 hC ⟨k1.2, k2⟩ (by omega) wd_561 eX11_row_38 (fun x6 hx6 => ?_)
          refine vx_if_ne hC (tgt := 47) (by omega) (by decide) eX11_row_41 (fun c7 => ?_) (fun c7 => ?_)
          · refine vx_iload_n hC 2 rfl eX11_row_47 ?_
            refine vx_iconst hC eX11_row_48 ?_
            refine vx_imul hC eX11_row_49 ?_
            refine vx_iload_n hC 3 rfl eX11_row_50 ?_
            refine vx_iadd hC eX11_row_51 ?_
            refine vx_istore hC (lv1 := [(5, xa_i (q * 4 + k)), (4, xa_r kp), (0, xa_r 0), (1, xa_i q), (2, xa_i k), (3, xa_i x)]) (by decide) rfl eX11_row_52 ?_
            refine vx_aload_n hC 2 rfl eX11_row_54 ?_
            refine vx_gr hC 0 (ot_0 hO) lf_X11_12 rfl (or_0_0 hO) eX11_row_55 ?_
            refine vx_gr hC 6 (ot_1 hO) lf_X11_90 rfl (or_1_6 hO) eX11_row_58 ?_
            refine vx_iload hC 0 rfl eX11_row_61 ?_
            refine vx_iaload hC (ot_6 hO) (by omega) (by omega) eX11_row_63 ?_
            refine vx_eqi (y := s (26 + 4 * q + k)) (by rw [show 26 + 4 * q + k = 26 + (q * 4 + k) by omega]; exact qr _ (by omega) (by omega)) ?_
            refine vx_top (fun x8 hx8 => ?_)
            refine vx_istore hC (lv1 := [(6, xa_i x8), (5, xa_i (q * 4 + k)), (4, xa_r kp), (0, xa_r 0), (1, xa_i q), (2, xa_i k), (3, xa_i x)]) (by decide) rfl eX11_row_64 ?_
            refine vx_aload_n hC 3 rfl eX11_row_66 ?_
            refine vx_gr hC 0 (ot_0 hO) lf_X11_12 rfl (or_0_0 hO) eX11_row_67 ?_
            refine vx_gr hC 6 (ot_1 hO) lf_X11_90 rfl (or_1_6 hO) eX11_row_70 ?_
            refine vx_iload hC 1 rfl eX11_row_73 ?_
            refine vx_iload_n hC 6 rfl eX11_row_75 ?_
            refine vx_iastore hC (ot_6 hO) (by omega) (by omega) eX11_row_76 ?_
            refine vx_vi (fun v9 hv9 => ?_)
            have hv9_1_1 : v9 1 1 = s 3 := by rw [hv9, xu_c _ _ _ _ (by decide), q1]
            have hv9_1_3 : v9 1 3 = s 1 := by rw [hv9, xu_c _ _ _ _ (by decide), q3]
            have hv9_1_7 : v9 1 7 = s 0 := by rw [hv9, xu_c _ _ _ _ (by decide), q7]
            have hv9_1_8 : v9 1 8 = s 5 := by rw [hv9, xu_c _ _ _ _ (by decide), q8]
            have hv9_1_9 : v9 1 9 = s 2 := by rw [hv9, xu_c _ _ _ _ (by decide), q9]
            have hv9_1_10 : v9 1 10 = wb s (s 2).toNat := by rw [hv9, xu_c _ _ _ _ (by decide), q10]
            have hv9_2 : v9 2 = vi 2 := by rw [hv9, xu_c _ _ _ _ (by decide)]
            have hv9_5 : v9 5 = vi 5 := by rw [hv9, xu_c _ _ _ _ (by decide)]
            obtain ⟨f10, hf10⟩ : ∃ f, f = fu (vi 6) (q * 4 + k) x := ⟨_, rfl⟩
            have hv9_6 : v9 6 = f10 := by rw [hv9, hf10, xu_k]
            have hv9_kp_0 : v9 kp 0 = s (10 + q) := by rw [hv9, xu_c _ _ _ _ (by omega), k3]
            have hv9_kp_1 : v9 kp 1 = q := by rw [hv9, xu_c _ _ _ _ (by omega), k4]
            have hv9_kp_2 : v9 kp 2 = s (14 + q) := by rw [hv9, xu_c _ _ _ _ (by omega), k5]
            have hv9_kp_3 : v9 kp 3 = s (18 + q) := by rw [hv9, xu_c _ _ _ _ (by omega), k6]
            have frv9 : ∀ k : Nat, (¬ k = 1 ∧ ¬ k = 2 ∧ ¬ k = 5 ∧ ¬ k = 6) → v9 k = vi k := fun k hk => by rw [hv9, xu_c _ _ _ _ (by omega)]
            refine vx_iload hC 0 rfl eX11_row_77 ?_
            have hs2 : (sp_row s q k x).2 = fu s (26 + 4 * q + k) x := by unfold sp_row; (repeat (first | rw [if_pos (by omega)] | rw [if_neg (by omega)])); all_goals (first | rfl | (simp only [hx8]))
            exact vx_iret hC hM rfl eX11_row_79 (⟨_, rfl, by unfold sp_row; (repeat (first | rw [if_pos (by omega)] | rw [if_neg (by omega)])); all_goals (first | rfl | omega), by rw [hs2]; exact cq_s hO hR (cs_row hS hV q k x (by omega) (by omega) hv9_1_1 hv9_1_3 hv9_1_7 hv9_1_8 hv9_1_9 hv9_1_10 hv9_2 hv9_5 (by rw [hv9_6, hf10] <;> simp only [hx8]) (fun k hk => frv9 k (by omega))) (by rw [hv9_2]; exact R8) (fun k hk => frv9 k (by omega)) (fun k hk => rfl)⟩)
          · refine vx_bipush hC (by decide) eX11_row_44 ?_
            exact vx_iret hC hM rfl eX11_row_46 (⟨_, rfl, by unfold sp_row; (repeat (first | rw [if_pos (by omega)] | rw [if_neg (by omega)])); all_goals (first | rfl | omega), by rw [show (sp_row s q k x).2 = s by unfold sp_row; (repeat (first | rw [if_pos (by omega)] | rw [if_neg (by omega)]))]; exact cq_ro hO hR (fun k hk => rfl) (fun k hk => rfl)⟩)
        · refine vx_bipush hC (by decide) eX11_row_33 ?_
          exact vx_iret hC hM rfl eX11_row_35 (⟨_, rfl, by unfold sp_row; (repeat (first | rw [if_pos (by omega)] | rw [if_neg (by omega)])); all_goals (first | rfl | omega), by rw [show (sp_row s q k x).2 = s by unfold sp_row; (repeat (first | rw [if_pos (by omega)] | rw [if_neg (by omega)]))]; exact cq_ro hO hR (fun k hk => rfl) (fun k hk => rfl)⟩)
      · refine vx_iconst hC eX11_row_24 ?_
        exact vx_iret hC hM rfl eX11_row_25 (⟨_, rfl, by unfold sp_row; (repeat (first | rw [if_pos (by omega)] | rw [if_neg (by omega)])); all_goals (first | rfl | omega), by rw [show (sp_row s q k x).2 = s by unfold sp_row; (repeat (first | rw [if_pos (by omega)] | rw [if_neg (by omega)]))]; exact cq_ro hO hR (fun k hk => rfl) (fun k hk => rfl)⟩)
set_option maxHeartbeats 4000000 in
set_option maxRecDepth 100000 in
theorem kX11_of (G : xg_T) (d : Nat) (n : Nat) (tau : Nat → Nat × Nat) (vi vl : Nat → Int → Int) (vr : Nat → Int → Option Nat) (hO : xo n tau vr) (s im : Int → Int) (has ran : Int) (bod : Int → Int) (hR : RCl s im has ran bod n tau vi vr) (hV : ms_V s) (q x : Int) (hq : -2147483648 ≤ q ∧ q < 2147483648) (hx : -2147483648 ≤ x ∧ x < 2147483648) : xm G yX11_of cX11_of 5 (some .int) (d + 5) 0 0 [xa_r 0, xa_i q, xa_i x] n tau vi vl vr (xp_i (fun z9 n1 t1 a1 b1 c1 => z9 = sp_of s q x ∧ cq (s) (im) (has) (ran) (bod) n tau vi vl n1 t1 a1 b1 c1)) := by
  refine xm.of (lv := [(0, xa_r 0), (1, xa_i q), (2, xa_i x)]) (by decide) (Nat.le_of_ble_eq_true rfl) rfl (fun K hC hM hRm => ?_)
  have hS : rp_S 1 s n tau vi vr := hR.1
  obtain ⟨q1, q3, q7, q8, q9, q10, qt, qp, qr, qpl, qtb⟩ := id hS
  have hW : ms_W s := hV.1
  have h60 := hV.2
  obtain ⟨hr, h0, h1, h2, h3, h4, h5, h6, hp0, hrow, hwon, htape, htab⟩ := id hW
  obtain ⟨-, R2, R3, R4, R5, R6, R7, R8, R9, R10⟩ := id hR
  refine vx_aload_n hC 0 rfl eX11_of_0 ?_
  refine vx_gr hC 0 (ot_0 hO) lf_X11_12 rfl (or_0_0 hO) eX11_of_1 ?_
  refine vx_iload_n hC 1 rfl eX11_of_4 ?_
  refine vx_callV_q hC (kX6_playerAt G (d + 3) _ _ _ _ _ hO s hS hV q (by omega)) ly_X11_93 (ot_1 hO) rfl rfl rfl hRm (by omega) (Nat.le_of_ble_eq_true rfl) rfl eX11_of_5 (fun r1 n9 t9 a9 b9 c9 hr1 => ?_)
  obtain ⟨hr1, rfl, rfl, rfl, rfl, rfl⟩ := hr1
  rcases hr1 with ⟨rfl, hno⟩ | ⟨kp, rfl, hyes, hkp⟩
  · refine vx_astore_n hC (lv1 := [(3, xa_n), (0, xa_r 0), (1, xa_i q), (2, xa_i x)]) (by decide) rfl eX11_of_8 ?_
    refine vx_aload_n hC 0 rfl eX11_of_9 ?_
    refine vx_ifnonnull hC (tgt := 15) (by decide) eX11_of_10 (fun k h => by cases h) (fun _ => ?_)
    refine vx_iconst hC eX11_of_13 ?_
    exact vx_iret hC hM rfl eX11_of_14 (⟨_, rfl, by unfold sp_of; (try simp only []); (repeat (first | rw [if_pos (by omega)] | rw [if_neg (by omega)])); all_goals (first | rfl | omega | (congr 1; omega) | (congr 2; omega) | (congr 3; omega)), cq_ro hO hR (fun k hk => rfl) (fun k hk => rfl)⟩)
  · obtain ⟨k1, k2, k3, k4, k5, k6⟩ := id hkp
    obtain ⟨g1, g2, g3, g4⟩ := hp0 q (by omega) (by omega)
    refine vx_astore_n hC (lv1 := [(3, xa_r kp), (0, xa_r 0), (1, xa_i q), (2, xa_i x)]) (by decide) rfl eX11_of_8 ?_
    refine vx_aload_n hC 0 rfl eX11_of_9 ?_
    refine vx_ifnonnull hC (tgt := 15) (by decide) eX11_of_10 (fun _ _ => ?_) (fun h => by cases h)
    refine vx_aload_n hC 1 rfl eX11_of_15 ?_
    refine vx_gr hC 0 (ot_0 hO) lf_X11_12 rfl (or_0_0 hO) eX11_of_16 ?_
    refine vx_gr hC 5 (ot_1 hO) lf_X11_87 rfl (or_1_5 hO) eX11_of_19 ?_
    refine vx_iload_n hC 2 rfl eX11_of_22 ?_
    refine vx_iaload hC (ot_5 hO) (by omega) (by omega) eX11_of_23 ?_
    refine vx_eqi (qp q (by omega) (by omega)) ?_
    refine vx_istore hC (lv1 := [(4, xa_i (s (22 + q))), (3, xa_r kp), (0, xa_r 0), (1, xa_i q), (2, xa_i x)]) (by decide) rfl eX11_of_24 ?_
    have gs := ms_stake_r hW (p := q) (q := s (22 + q)) (by omega) (by omega)
    refine vx_iload_n hC 4 rfl eX11_of_26 ?_
    rcases (show x = 0 ∨ x = 1 ∨ x = 2 ∨ x = 3 ∨ x = 4 ∨ x = 5 ∨ (¬ x = 0 ∧ ¬ x = 1 ∧ ¬ x = 2 ∧ ¬ x = 3 ∧ ¬ x = 4 ∧ ¬ x = 5) by omega) with c2 | c2 | c2 | c2 | c2 | c2 | c2
    · refine vx_tableIn hC (tgt := 64) (by omega) (by omega) (by rw [c2]; rfl) (by decide) eX11_of_27 ?_
      refine vx_aload_n hC 1 rfl eX11_of_64 ?_
      refine vx_gi hC 0 ⟨k1.2, k2⟩ (lf_X11_97 (xp_pn _)) rfl eX11_of_65 ?_
      refine vx_eqi k3 ?_
      exact vx_iret hC hM rfl eX11_of_68 (⟨_, rfl, by unfold sp_of; (try simp only []); (repeat (first | rw [if_pos (by omega)] | rw [if_neg (by omega)])); all_goals (first | rfl | omega | (congr 1; omega) | (congr 2; omega) | (congr 3; omega)), cq_ro hO hR (fun k hk => rfl) (fun k hk => rfl)⟩)
    · refine vx_tableIn hC (tgt := 69) (by omega) (by omega) (by rw [c2]; rfl) (by decide) eX11_of_27 ?_
      refine vx_aload_n hC 1 rfl eX11_of_69 ?_
      refine vx_gi hC 2 ⟨k1.2, k2⟩ (lf_X11_102 (xp_pn _)) rfl eX11_of_70 ?_
      refine vx_eqi k5 ?_
      exact vx_iret hC hM rfl eX11_of_73 (⟨_, rfl, by unfold sp_of; (try simp only []); (repeat (first | rw [if_pos (by omega)] | rw [if_neg (by omega)])); all_goals (first | rfl | omega | (congr 1; omega) | (congr 2; omega) | (congr 3; omega)), cq_ro hO hR (fun k hk => rfl) (fun k hk => rfl)⟩)
    · refine vx_tableIn hC (tgt := 74) (by omega) (by omega) (by rw [c2]; rfl) (by decide) eX11_of_27 ?_
      refine vx_aload_n hC 1 rfl eX11_of_74 ?_
      refine vx_gi hC 3 ⟨k1.2, k2⟩ (lf_X11_105 (xp_pn _)) rfl eX11_of_75 ?_
      refine vx_eqi k6 ?_
      exact vx_iret hC hM rfl eX11_of_78 (⟨_, rfl, by unfold sp_of; (try simp only []); (repeat (first | rw [if_pos (by omega)] | rw [if_neg (by omega)])); all_goals (first | rfl | omega | (congr 1; omega) | (congr 2; omega) | (congr 3; omega)), cq_ro hO hR (fun k hk => rfl) (fun k hk => rfl)⟩)
    · refine vx_tableIn hC (tgt := 79) (by omega) (by omega) (by rw [c2]; rfl) (by decide) eX11_of_27 ?_
      refine vx_iload hC 0 rfl eX11_of_79 ?_
      exact vx_iret hC hM rfl eX11_of_81 (⟨_, rfl, by unfold sp_of; (try simp only []); (repeat (first | rw [if_pos (by omega)] | rw [if_neg (by omega)])); all_goals (first | rfl | omega | (congr 1; omega) | (congr 2; omega) | (congr 3; omega)), cq_ro hO hR (fun k hk => rfl) (fun k hk => rfl)⟩)
    · refine vx_tableIn hC (tgt := 82) (by omega) (by omega) (by rw [c2]; rfl) (by decide) eX11_of_27 ?_
      refine vx_aload_n hC 2 rfl eX11_of_82 ?_
      refine vx_gr hC 0 (ot_0 hO) lf_X11_12 rfl (or_0_0 hO) eX11_of_83 ?_
      refine vx_aload_n hC 1 rfl eX11_of_86 ?_
      refine vx_iload hC 0 rfl eX11_of_87 ?_
      refine vx_callV_i hC (kX6_stake G d _ _ _ _ _ hO s hS hV q (by omega) kp hkp (s (22 + q)) (by omega)) ly_X11_108 (ot_1 hO) rfl rfl rfl hRm (by omega) (Nat.le_of_ble_eq_true rfl) rfl eX11_of_89 (fun x3 n9 t9 a9 b9 c9 hx3 => ?_)
      obtain ⟨hx3, rfl, rfl, rfl, rfl, rfl⟩ := hx3
      exact vx_iret hC hM rfl eX11_of_92 (⟨_, rfl, by unfold sp_of; (try simp only [hx3]); (repeat (first | rw [if_pos (by omega)] | rw [if_neg (by omega)])); all_goals (first | rfl | omega | (congr 1; omega) | (congr 2; omega) | (congr 3; omega)), cq_ro hO hR (fun k hk => rfl) (fun k hk => rfl)⟩)
    · refine vx_tableIn hC (tgt := 93) (by omega) (by omega) (by rw [c2]; rfl) (by decide) eX11_of_27 ?_
      refine vx_aload_n hC 1 rfl eX11_of_93 ?_
      refine vx_iload hC 0 rfl eX11_of_94 ?_
      obtain ⟨C9, T9, N9, hc9, hu9⟩ := lu_X11_112 (xp_pn (s (10 + q)))
      refine vx_callU_i hC (kX4_isOver G (d + 3) _ _ _ _ _ kp _ ⟨k1.2, k2⟩ (xp_pn _) (s (18 + q)) k6 (by omega) (s (22 + q)) (by omega)) hu9 ⟨k1.2, k2⟩ hc9 rfl hRm (by omega) (Nat.le_of_ble_eq_true rfl) rfl eX11_of_96 (fun x4 n9 t9 a9 b9 c9 hx4 => ?_)
      obtain ⟨hx4, rfl, rfl, rfl, rfl, rfl⟩ := hx4
      refine vx_if_eq hC (tgt := 106) (by omega) (by decide) eX11_of_99 (fun c5 => ?_) (fun c5 => ?_)
      · refine vx_aload_n hC 2 rfl eX11_of_106 ?_
        refine vx_gr hC 0 (ot_0 hO) lf_X11_12 rfl (or_0_0 hO) eX11_of_107 ?_
        refine vx_aload_n hC 1 rfl eX11_of_110 ?_
        refine vx_iload hC 0 rfl eX11_of_111 ?_
        refine vx_aload_n hC 2 rfl eX11_of_113 ?_
        refine vx_gr hC 0 (ot_0 hO) lf_X11_12 rfl (or_0_0 hO) eX11_of_114 ?_
        refine vx_aload_n hC 1 rfl eX11_of_117 ?_
        refine vx_iload hC 0 rfl eX11_of_118 ?_
        refine vx_callV_i hC (kX6_stake G d _ _ _ _ _ hO s hS hV q (by omega) kp hkp (s (22 + q)) (by omega)) ly_X11_108 (ot_1 hO) rfl rfl rfl hRm (by omega) (Nat.le_of_ble_eq_true rfl) rfl eX11_of_120 (fun x6 n9 t9 a9 b9 c9 hx6 => ?_)
        obtain ⟨hx6, rfl, rfl, rfl, rfl, rfl⟩ := hx6
        refine vx_callV_i hC (kX6_odds G d _ _ _ _ _ hO s hS hV q (by omega) kp hkp (s (22 + q)) (by omega) x6 (by omega)) ly_X11_115 (ot_1 hO) rfl rfl rfl hRm (by omega) (Nat.le_of_ble_eq_true rfl) rfl eX11_of_123 (fun x7 ng8 tg8 ag8 bg8 cg8 hg8 => ?_)
        obtain ⟨hx7, rfl, rfl, rfl, rfl, frg8⟩ := hg8
        have hg8_1_1 : ag8 1 1 = s 3 := (congrFun (frg8 1 (by omega)) _).trans q1
        have hg8_1_3 : ag8 1 3 = s 1 := (congrFun (frg8 1 (by omega)) _).trans q3
        have hg8_1_7 : ag8 1 7 = s 0 := (congrFun (frg8 1 (by omega)) _).trans q7
        have hg8_1_8 : ag8 1 8 = s 5 := (congrFun (frg8 1 (by omega)) _).trans q8
        have hg8_1_9 : ag8 1 9 = s 2 := (congrFun (frg8 1 (by omega)) _).trans q9
        have hg8_1_10 : ag8 1 10 = wb s (s 2).toNat := (congrFun (frg8 1 (by omega)) _).trans q10
        have hg8_2 : ag8 2 = vi 2 := (frg8 2 (by omega))
        have hg8_5 : ag8 5 = vi 5 := (frg8 5 (by omega))
        have hg8_6 : ag8 6 = vi 6 := (frg8 6 (by omega))
        have hg8_kp_0 : ag8 kp 0 = s (10 + q) := (congrFun (frg8 kp (by omega)) _).trans k3
        have hg8_kp_1 : ag8 kp 1 = q := (congrFun (frg8 kp (by omega)) _).trans k4
        have hg8_kp_2 : ag8 kp 2 = s (14 + q) := (congrFun (frg8 kp (by omega)) _).trans k5
        have hg8_kp_3 : ag8 kp 3 = s (18 + q) := (congrFun (frg8 kp (by omega)) _).trans k6
        have frvig8 : ∀ k : Nat, (k < 7 ∨ (8 ≤ k ∧ k < 14) ∨ 30 ≤ k) → ag8 k = vi k := fun k hk => (frg8 k (by omega))
        exact vx_iret hC hM rfl eX11_of_126 (⟨_, rfl, by unfold sp_of; (try simp only [hx6, hx7]); (repeat (first | rw [if_pos (by omega)] | rw [if_neg (by omega)])); all_goals (first | rfl | omega | (congr 1; omega) | (congr 2; omega) | (congr 3; omega)), cq_ro hO hR (fun k hk => frvig8 k hk) (fun k hk => rfl)⟩)
      · refine vx_iconst hC eX11_of_102 ?_
        refine vx_goto hC (tgt := 126) (by decide) eX11_of_103 ?_
        exact vx_iret hC hM rfl eX11_of_126 (⟨_, rfl, by unfold sp_of; (try simp only []); (repeat (first | rw [if_pos (by omega)] | rw [if_neg (by omega)])); all_goals (first | rfl | omega | (congr 1; omega) | (congr 2; omega) | (congr 3; omega)), cq_ro hO hR (fun k hk => rfl) (fun k hk => rfl)⟩)
    · refine vx_tableOut hC (tgt := 127) (by omega) (by omega) (by decide) eX11_of_27 ?_
      refine vx_iconst hC eX11_of_127 ?_
      exact vx_iret hC hM rfl eX11_of_128 (⟨_, rfl, by unfold sp_of; (try simp only []); (repeat (first | rw [if_pos (by omega)] | rw [if_neg (by omega)])); all_goals (first | rfl | omega | (congr 1; omega) | (congr 2; omega) | (congr 3; omega)), cq_ro hO hR (fun k hk => rfl) (fun k hk => rfl)⟩)
set_option maxHeartbeats 4000000 in
set_option maxRecDepth 100000 in
theorem kX11_play (G : xg_T) (d : Nat) (n : Nat) (tau : Nat → Nat × Nat) (vi vl : Nat → Int → Int) (vr : Nat → Int → Option Nat) (hO : xo n tau vr) (s im : Int → Int) (has ran : Int) (bod : Int → Int) (hR : RCl s im has ran bod n tau vi vr) (hV : ms_V s) (q w : Int) (hq : -2147483648 ≤ q ∧ q < 2147483648)(hw : w = 0 ∨ w = 1) : xm G yX11_play cX11_play 5 (some .int) (d + 6) 0 0 [xa_r 0, xa_i q, xa_i w] n tau vi vl vr (xp_i (fun z9 n1 t1 a1 b1 c1 => z9 = (sp_play s q w).1 ∧ cq ((sp_play s q w).2) (im) (has) (ran) (bod) n tau vi vl n1 t1 a1 b1 c1)) := by
  refine xm.of (lv := [(0, xa_r 0), (1, xa_i q), (2, xa_i w)]) (by decide) (Nat.le_of_ble_eq_true rfl) rfl (fun K hC hM hRm => ?_)
  have hS : rp_S 1 s n tau vi vr := hR.1
  obtain ⟨q1, q3, q7, q8, q9, q10, qt, qp, qr, qpl, qtb⟩ := id hS
  have hW : ms_W s := hV.1
  have h60 := hV.2
  obtain ⟨hr, h0, h1, h2, h3, h4, h5, h6, hp0, hrow, hwon, htape, htab⟩ := id hW
  obtain ⟨-, R2, R3, R4, R5, R6, R7, R8, R9, R10⟩ := id hR
  refine vx_aload_n hC 0 rfl eX11_play_0 ?_
  refine vx_gr hC 0 (ot_0 hO) lf_X11_12 rfl (or_0_0 hO) eX11_play_1 ?_
  refine vx_iload_n hC 1 rfl eX11_play_4 ?_
  refine vx_callV_q hC (kX6_playerAt G (d + 4) _ _ _ _ _ hO s hS hV q (by omega)) ly_X11_93 (ot_1 hO) rfl rfl rfl hRm (by omega) (Nat.le_of_ble_eq_true rfl) rfl eX11_play_5 (fun r1 n9 t9 a9 b9 c9 hr1 => ?_)
  obtain ⟨hr1, rfl, rfl, rfl, rfl, rfl⟩ := hr1
  rcases hr1 with ⟨rfl, hno⟩ | ⟨kp, rfl, hyes, hkp⟩
  · refine vx_astore_n hC (lv1 := [(3, xa_n), (0, xa_r 0), (1, xa_i q), (2, xa_i w)]) (by decide) rfl eX11_play_8 ?_
    refine vx_aload_n hC 0 rfl eX11_play_9 ?_
    refine vx_ifnonnull hC (tgt := 15) (by decide) eX11_play_10 (fun k h => by cases h) (fun _ => ?_)
    refine vx_iconst hC eX11_play_13 ?_
    exact vx_iret hC hM rfl eX11_play_14 (⟨_, rfl, by unfold sp_play; (repeat (first | rw [if_pos (by omega)] | rw [if_neg (by omega)])); all_goals (first | rfl | (show _ = ms_goes s q w (22 + q); rw [hgo]; simp only [fu_s])), by rw [show (sp_play s q w).2 = s by unfold sp_play; (repeat (first | rw [if_pos (by omega)] | rw [if_neg (by omega)]))]; exact cq_ro hO hR (fun k hk => rfl) (fun k hk => rfl)⟩)
  · obtain ⟨k1, k2, k3, k4, k5, k6⟩ := id hkp
    obtain ⟨g1, g2, g3, g4⟩ := hp0 q (by omega) (by omega)
    refine vx_astore_n hC (lv1 := [(3, xa_r kp), (0, xa_r 0), (1, xa_i q), (2, xa_i w)]) (by decide) rfl eX11_play_8 ?_
    refine vx_aload_n hC 0 rfl eX11_play_9 ?_
    refine vx_ifnonnull hC (tgt := 15) (by decide) eX11_play_10 (fun _ _ => ?_) (fun h => by cases h)
    refine vx_aload_n hC 1 rfl eX11_play_15 ?_
    refine vx_gr hC 0 (ot_0 hO) lf_X11_12 rfl (or_0_0 hO) eX11_play_16 ?_
    refine vx_gr hC 5 (ot_1 hO) lf_X11_87 rfl (or_1_5 hO) eX11_play_19 ?_
    refine vx_iload_n hC 2 rfl eX11_play_22 ?_
    refine vx_iaload hC (ot_5 hO) (by omega) (by omega) eX11_play_23 ?_
    refine vx_eqi (qp q (by omega) (by omega)) ?_
    refine vx_istore hC (lv1 := [(4, xa_i (s (22 + q))), (3, xa_r kp), (0, xa_r 0), (1, xa_i q), (2, xa_i w)]) (by decide) rfl eX11_play_24 ?_
    refine vx_aload_n hC 1 rfl eX11_play_26 ?_
    refine vx_iload hC 0 rfl eX11_play_27 ?_
    obtain ⟨C9, T9, N9, hc9, hu9⟩ := lu_X11_112 (xp_pn (s (10 + q)))
    refine vx_callU_i hC (kX4_isOver G (d + 4) _ _ _ _ _ kp _ ⟨k1.2, k2⟩ (xp_pn _) (s (18 + q)) k6 (by omega) (s (22 + q)) (by omega)) hu9 ⟨k1.2, k2⟩ hc9 rfl hRm (by omega) (Nat.le_of_ble_eq_true rfl) rfl eX11_play_29 (fun x2 n9 t9 a9 b9 c9 hx2 => ?_)
    obtain ⟨hx2, rfl, rfl, rfl, rfl, rfl⟩ := hx2
    refine vx_if_eq hC (tgt := 38) (by omega) (by decide) eX11_play_32 (fun c3 => ?_) (fun c3 => ?_)
    · have hgo : ms_goes s q w (22 + q) = (if w = 0 then s (22 + q) - ms_stake s q (s (22 + q)) else s (22 + q) + ms_stake s q (s (22 + q))) := by unfold ms_goes; rw [fu_s]
      refine vx_aload_n hC 2 rfl eX11_play_38 ?_
      refine vx_gr hC 0 (ot_0 hO) lf_X11_12 rfl (or_0_0 hO) eX11_play_39 ?_
      refine vx_gr hC 5 (ot_1 hO) lf_X11_87 rfl (or_1_5 hO) eX11_play_42 ?_
      refine vx_iload_n hC 3 rfl eX11_play_45 ?_
      refine vx_aload_n hC 2 rfl eX11_play_46 ?_
      refine vx_gr hC 0 (ot_0 hO) lf_X11_12 rfl (or_0_0 hO) eX11_play_47 ?_
      refine vx_aload_n hC 1 rfl eX11_play_50 ?_
      refine vx_iload hC 0 rfl eX11_play_51 ?_
      refine vx_iload_n hC 4 rfl eX11_play_53 ?_
      refine vx_callV_i hC (kX6_thrown G d _ _ _ _ _ hO s hS hV q (by omega) kp hkp (s (22 + q)) (by omega) w (by omega)) ly_X11_121 (ot_1 hO) rfl rfl rfl hRm (by omega) (Nat.le_of_ble_eq_true rfl) rfl eX11_play_54 (fun x4 n9 t9 a9 b9 c9 hx4 => ?_)
      obtain ⟨hx4, rfl, rfl, rfl, rfl, rfl⟩ := hx4
      refine vx_iastore hC (ot_5 hO) (by omega) (by omega) eX11_play_57 ?_
      refine vx_vi (fun v5 hv5 => ?_)
      have hv5_1_1 : v5 1 1 = s 3 := by rw [hv5, xu_c _ _ _ _ (by decide), q1]
      have hv5_1_3 : v5 1 3 = s 1 := by rw [hv5, xu_c _ _ _ _ (by decide), q3]
      have hv5_1_7 : v5 1 7 = s 0 := by rw [hv5, xu_c _ _ _ _ (by decide), q7]
      have hv5_1_8 : v5 1 8 = s 5 := by rw [hv5, xu_c _ _ _ _ (by decide), q8]
      have hv5_1_9 : v5 1 9 = s 2 := by rw [hv5, xu_c _ _ _ _ (by decide), q9]
      have hv5_1_10 : v5 1 10 = wb s (s 2).toNat := by rw [hv5, xu_c _ _ _ _ (by decide), q10]
      have hv5_2 : v5 2 = vi 2 := by rw [hv5, xu_c _ _ _ _ (by decide)]
      obtain ⟨f6, hf6⟩ : ∃ f, f = fu (vi 5) q x4 := ⟨_, rfl⟩
      have hv5_5 : v5 5 = f6 := by rw [hv5, hf6, xu_k]
      have hv5_6 : v5 6 = vi 6 := by rw [hv5, xu_c _ _ _ _ (by decide)]
      have hv5_kp_0 : v5 kp 0 = s (10 + q) := by rw [hv5, xu_c _ _ _ _ (by omega), k3]
      have hv5_kp_1 : v5 kp 1 = q := by rw [hv5, xu_c _ _ _ _ (by omega), k4]
      have hv5_kp_2 : v5 kp 2 = s (14 + q) := by rw [hv5, xu_c _ _ _ _ (by omega), k5]
      have hv5_kp_3 : v5 kp 3 = s (18 + q) := by rw [hv5, xu_c _ _ _ _ (by omega), k6]
      have frv5 : ∀ k : Nat, (¬ k = 1 ∧ ¬ k = 2 ∧ ¬ k = 5 ∧ ¬ k = 6) → v5 k = vi k := fun k hk => by rw [hv5, xu_c _ _ _ _ (by omega)]
      refine vx_aload_n hC 2 rfl eX11_play_58 ?_
      refine vx_gr hC 0 (ot_0 hO) lf_X11_12 rfl (or_0_0 hO) eX11_play_59 ?_
      refine vx_gr hC 5 (ot_1 hO) lf_X11_87 rfl (or_1_5 hO) eX11_play_62 ?_
      refine vx_iload_n hC 3 rfl eX11_play_65 ?_
      refine vx_iaload hC (ot_5 hO) (by omega) (by omega) eX11_play_66 ?_
      refine vx_eqi (congrFun hv5_5 _) ?_
      have hs2 : (sp_play s q w).2 = fu s (22 + q) (if w = 0 then s (22 + q) - ms_stake s q (s (22 + q)) else s (22 + q) + ms_stake s q (s (22 + q))) := by unfold sp_play; (repeat (first | rw [if_pos (by omega)] | rw [if_neg (by omega)])); all_goals (first | rfl | (simp only [hx4]))
      exact vx_iret hC hM rfl eX11_play_67 (⟨_, rfl, by unfold sp_play; (repeat (first | rw [if_pos (by omega)] | rw [if_neg (by omega)])); all_goals (first | rfl | (show _ = ms_goes s q w (22 + q); rw [hgo]; simp only [hx4, hf6, fu_s])), by rw [hs2]; exact cq_s hO hR (cs_purse hS hV q _ (by omega) hv5_1_1 hv5_1_3 hv5_1_7 hv5_1_8 hv5_1_9 hv5_1_10 hv5_2 (by rw [hv5_5, hf6] <;> simp only [hx4]) hv5_6 (fun k hk => frv5 k (by omega))) (by rw [hv5_2]; exact R8) (fun k hk => frv5 k (by omega)) (fun k hk => rfl)⟩)
    · refine vx_bipush hC (by decide) eX11_play_35 ?_
      exact vx_iret hC hM rfl eX11_play_37 (⟨_, rfl, by unfold sp_play; (repeat (first | rw [if_pos (by omega)] | rw [if_neg (by omega)])); all_goals (first | rfl | (show _ = ms_goes s q w (22 + q); rw [hgo]; simp only [fu_s])), by rw [show (sp_play s q w).2 = s by unfold sp_play; (repeat (first | rw [if_pos (by omega)] | rw [if_neg (by omega)]))]; exact cq_ro hO hR (fun k hk => rfl) (fun k hk => rfl)⟩)
set_option maxHeartbeats 4000000 in
set_option maxRecDepth 100000 in
theorem kX11_isOfKind (G : xg_T) (d : Nat) (n : Nat) (tau : Nat → Nat × Nat) (vi vl : Nat → Int → Int) (vr : Nat → Int → Option Nat) (kp : Nat) (kd : Int) (k12 : 45 ≤ kp ∧ kp < n) (k2 : tau kp = (pn kd, 0)) (hkd : 0 ≤ kd ∧ kd ≤ 6) (k : Int) (hk : 0 ≤ k ∧ k ≤ 6) : xm G yX11_isOfKind cX11_isOfKind 2 (some .boolean) (d + 1) 0 0 [xa_r kp, xa_i k] n tau vi vl vr (xp_i (fun z9 n1 t1 a1 b1 c1 => ((z9 = 1 ∧ (k = 0 ∨ k = kd ∨ (0 < k ∧ k < 4 ∧ kd = k + 3))) ∨ (z9 = 0 ∧ ¬ (k = 0 ∨ k = kd ∨ (0 < k ∧ k < 4 ∧ kd = k + 3)))) ∧ xs_0 n tau vi vl vr n1 t1 a1 b1 c1)) := by
  refine xm.of (lv := [(0, xa_r kp), (1, xa_i k)]) (by decide) (Nat.le_of_ble_eq_true rfl) rfl (fun K hC hM hRm => ?_)
  refine vx_iload_n hC 1 rfl eX11_isOfKind_0 ?_
  rcases (show k = 0 ∨ k = 1 ∨ k = 2 ∨ k = 3 ∨ k = 4 ∨ k = 5 ∨ k = 6 ∨ (¬ k = 0 ∧ ¬ k = 1 ∧ ¬ k = 2 ∧ ¬ k = 3 ∧ ¬ k = 4 ∧ ¬ k = 5 ∧ ¬ k = 6) by omega) with c1 | c1 | c1 | c1 | c1 | c1 | c1 | c1
  · refine vx_tableIn hC (tgt := 44) (by omega) (by omega) (by rw [c1]; rfl) (by decide) eX11_isOfKind_1 ?_
    refine vx_iconst hC eX11_isOfKind_44 ?_
    exact vx_iret hC hM (xn_bz (by omega)) eX11_isOfKind_45 (⟨_, rfl, by omega, xs_0.rf _ _ _ _ _⟩)
  · refine vx_tableIn hC (tgt := 46) (by omega) (by omega) (by rw [c1]; rfl) (by decide) eX11_isOfKind_1 ?_
    refine vx_aload_n hC 0 rfl eX11_isOfKind_46 ?_
    refine vx_inst1 hC ⟨k12.2, k2⟩ hkd wd_477 eX11_isOfKind_47 (fun x2 hx2 => ?_)
    exact vx_iret hC hM (xn_bz (by omega)) eX11_isOfKind_50 (⟨_, rfl, by omega, xs_0.rf _ _ _ _ _⟩)
  · refine vx_tableIn hC (tgt := 51) (by omega) (by omega) (by rw [c1]; rfl) (by decide) eX11_isOfKind_1 ?_
    refine vx_aload_n hC 0 rfl eX11_isOfKind_51 ?_
    refine vx_inst2 hC ⟨k12.2, k2⟩ hkd wd_517 eX11_isOfKind_52 (fun x3 hx3 => ?_)
    exact vx_iret hC hM (xn_bz (by omega)) eX11_isOfKind_55 (⟨_, rfl, by omega, xs_0.rf _ _ _ _ _⟩)
  · refine vx_tableIn hC (tgt := 56) (by omega) (by omega) (by rw [c1]; rfl) (by decide) eX11_isOfKind_1 ?_
    refine vx_aload_n hC 0 rfl eX11_isOfKind_56 ?_
    refine vx_inst3 hC ⟨k12.2, k2⟩ hkd wd_528 eX11_isOfKind_57 (fun x4 hx4 => ?_)
    exact vx_iret hC hM (xn_bz (by omega)) eX11_isOfKind_60 (⟨_, rfl, by omega, xs_0.rf _ _ _ _ _⟩)
  · refine vx_tableIn hC (tgt := 61) (by omega) (by omega) (by rw [c1]; rfl) (by decide) eX11_isOfKind_1 ?_
    refine vx_aload_n hC 0 rfl eX11_isOfKind_61 ?_
    refine vx_inst4 hC ⟨k12.2, k2⟩ hkd wd_539 eX11_isOfKind_62 (fun x5 hx5 => ?_)
    exact vx_iret hC hM (xn_bz (by omega)) eX11_isOfKind_65 (⟨_, rfl, by omega, xs_0.rf _ _ _ _ _⟩)
  · refine vx_tableIn hC (tgt := 66) (by omega) (by omega) (by rw [c1]; rfl) (by decide) eX11_isOfKind_1 ?_
    refine vx_aload_n hC 0 rfl eX11_isOfKind_66 ?_
    refine vx_inst5 hC ⟨k12.2, k2⟩ hkd wd_550 eX11_isOfKind_67 (fun x6 hx6 => ?_)
    exact vx_iret hC hM (xn_bz (by omega)) eX11_isOfKind_70 (⟨_, rfl, by omega, xs_0.rf _ _ _ _ _⟩)
  · refine vx_tableIn hC (tgt := 71) (by omega) (by omega) (by rw [c1]; rfl) (by decide) eX11_isOfKind_1 ?_
    refine vx_aload_n hC 0 rfl eX11_isOfKind_71 ?_
    refine vx_inst6 hC ⟨k12.2, k2⟩ hkd wd_561 eX11_isOfKind_72 (fun x7 hx7 => ?_)
    exact vx_iret hC hM (xn_bz (by omega)) eX11_isOfKind_75 (⟨_, rfl, by omega, xs_0.rf _ _ _ _ _⟩)
  · refine vx_tableOut hC (tgt := 76) (by omega) (by omega) (by decide) eX11_isOfKind_1 ?_
    refine vx_iconst hC eX11_isOfKind_76 ?_
    exact vx_iret hC hM (xn_bz (by omega)) eX11_isOfKind_77 (⟨_, rfl, by omega, xs_0.rf _ _ _ _ _⟩)
set_option maxHeartbeats 4000000 in
set_option maxRecDepth 100000 in
theorem kX11_as (G : xg_T) (d : Nat) (n : Nat) (tau : Nat → Nat × Nat) (vi vl : Nat → Int → Int) (vr : Nat → Int → Option Nat) (hO : xo n tau vr) (s im : Int → Int) (has ran : Int) (bod : Int → Int) (hR : RCl s im has ran bod n tau vi vr) (hV : ms_V s) (q k : Int) (hq : -2147483648 ≤ q ∧ q < 2147483648) (hk : -2147483648 ≤ k ∧ k < 2147483648) : xm G yX11_as cX11_as 4 (some .int) (d + 2) 0 0 [xa_r 0, xa_i q, xa_i k] n tau vi vl vr (xp_i (fun z9 n1 t1 a1 b1 c1 => z9 = sp_as s q k ∧ cq (s) (im) (has) (ran) (bod) n tau vi vl n1 t1 a1 b1 c1)) := by
  refine xm.of (lv := [(0, xa_r 0), (1, xa_i q), (2, xa_i k)]) (by decide) (Nat.le_of_ble_eq_true rfl) rfl (fun K hC hM hRm => ?_)
  have hS : rp_S 1 s n tau vi vr := hR.1
  obtain ⟨q1, q3, q7, q8, q9, q10, qt, qp, qr, qpl, qtb⟩ := id hS
  have hW : ms_W s := hV.1
  have h60 := hV.2
  obtain ⟨hr, h0, h1, h2, h3, h4, h5, h6, hp0, hrow, hwon, htape, htab⟩ := id hW
  obtain ⟨-, R2, R3, R4, R5, R6, R7, R8, R9, R10⟩ := id hR
  refine vx_aload_n hC 0 rfl eX11_as_0 ?_
  refine vx_gr hC 0 (ot_0 hO) lf_X11_12 rfl (or_0_0 hO) eX11_as_1 ?_
  refine vx_iload_n hC 1 rfl eX11_as_4 ?_
  refine vx_callV_q hC (kX6_playerAt G d _ _ _ _ _ hO s hS hV q (by omega)) ly_X11_93 (ot_1 hO) rfl rfl rfl hRm (by omega) (Nat.le_of_ble_eq_true rfl) rfl eX11_as_5 (fun r1 n9 t9 a9 b9 c9 hr1 => ?_)
  obtain ⟨hr1, rfl, rfl, rfl, rfl, rfl⟩ := hr1
  rcases hr1 with ⟨rfl, hno⟩ | ⟨kp, rfl, hyes, hkp⟩
  · refine vx_astore_n hC (lv1 := [(3, xa_n), (0, xa_r 0), (1, xa_i q), (2, xa_i k)]) (by decide) rfl eX11_as_8 ?_
    refine vx_aload_n hC 0 rfl eX11_as_9 ?_
    refine vx_ifnull hC (tgt := 23) (by decide) eX11_as_10 (fun _ => ?_) (fun k h => by cases h)
    refine vx_iconst hC eX11_as_23 ?_
    exact vx_iret hC hM rfl eX11_as_24 (⟨_, rfl, by unfold sp_as; (repeat (first | rw [if_pos (by omega)] | rw [if_neg (by omega)])); all_goals (first | rfl | omega), cq_ro hO hR (fun k hk => rfl) (fun k hk => rfl)⟩)
  · obtain ⟨k1, k2, k3, k4, k5, k6⟩ := id hkp
    obtain ⟨g1, g2, g3, g4⟩ := hp0 q (by omega) (by omega)
    refine vx_astore_n hC (lv1 := [(3, xa_r kp), (0, xa_r 0), (1, xa_i q), (2, xa_i k)]) (by decide) rfl eX11_as_8 ?_
    refine vx_aload_n hC 0 rfl eX11_as_9 ?_
    refine vx_ifnull hC (tgt := 23) (by decide) eX11_as_10 (fun h => by cases h) (fun _ _ => ?_)
    refine vx_iload_n hC 3 rfl eX11_as_13 ?_
    refine vx_if_lt hC (tgt := 23) (by omega) (by decide) eX11_as_14 (fun c2 => ?_) (fun c2 => ?_)
    · refine vx_iconst hC eX11_as_23 ?_
      exact vx_iret hC hM rfl eX11_as_24 (⟨_, rfl, by unfold sp_as; (repeat (first | rw [if_pos (by omega)] | rw [if_neg (by omega)])); all_goals (first | rfl | omega), cq_ro hO hR (fun k hk => rfl) (fun k hk => rfl)⟩)
    · refine vx_iload_n hC 3 rfl eX11_as_17 ?_
      refine vx_bipush hC (by decide) eX11_as_18 ?_
      refine vx_icmp_lt hC (tgt := 25) (by omega) (by decide) eX11_as_20 (fun c3 => ?_) (fun c3 => ?_)
      · refine vx_aload_n hC 0 rfl eX11_as_25 ?_
        refine vx_iload_n hC 3 rfl eX11_as_26 ?_
        refine vx_callS_i hC (kX11_isOfKind G d _ _ _ _ _ kp (s (10 + q)) k1 k2 (by omega) k (by omega)) ly_X11_225 rfl hRm (by omega) (Nat.le_of_ble_eq_true rfl) rfl eX11_as_27 (fun x4 n9 t9 a9 b9 c9 hx4 => ?_)
        obtain ⟨hx4, rfl, rfl, rfl, rfl, rfl⟩ := hx4
        refine vx_if_eq hC (tgt := 40) (by omega) (by decide) eX11_as_30 (fun c5 => ?_) (fun c5 => ?_)
        · refine vx_bipush hC (by decide) eX11_as_40 ?_
          exact vx_iret hC hM rfl eX11_as_42 (⟨_, rfl, by unfold sp_as; (repeat (first | rw [if_pos (by omega)] | rw [if_neg (by omega)])); all_goals (first | rfl | omega), cq_ro hO hR (fun k hk => rfl) (fun k hk => rfl)⟩)
        · refine vx_aload_n hC 0 rfl eX11_as_33 ?_
          refine vx_gi hC 2 ⟨k1.2, k2⟩ (lf_X11_102 (xp_pn _)) rfl eX11_as_34 ?_
          refine vx_eqi k5 ?_
          refine vx_goto hC (tgt := 42) (by decide) eX11_as_37 ?_
          exact vx_iret hC hM rfl eX11_as_42 (⟨_, rfl, by unfold sp_as; (repeat (first | rw [if_pos (by omega)] | rw [if_neg (by omega)])); all_goals (first | rfl | omega), cq_ro hO hR (fun k hk => rfl) (fun k hk => rfl)⟩)
      · refine vx_iconst hC eX11_as_23 ?_
        exact vx_iret hC hM rfl eX11_as_24 (⟨_, rfl, by unfold sp_as; (repeat (first | rw [if_pos (by omega)] | rw [if_neg (by omega)])); all_goals (first | rfl | omega), cq_ro hO hR (fun k hk => rfl) (fun k hk => rfl)⟩)
