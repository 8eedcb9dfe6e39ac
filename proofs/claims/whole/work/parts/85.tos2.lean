theorem cs_toss {n : Nat} {tau : Nat → Nat × Nat} {vi a : Nat → Int → Int} {vr : Nat → Int → Option Nat} {s : Int → Int} (h : rp_S 1 s n tau vi vr) (hV : ms_V s)  (x : Int) (hx : x = 0 ∨ x = 1) (h24 : s 2 < 24) (e1 : a 1 1 = s 3) (e3 : a 1 3 = s 1) (e7 : a 1 7 = s 0) (e8 : a 1 8 = s 5) (e9 : a 1 9 = s 2 + 1) (e10 : a 1 10 = (if x = 0 then wb s (s 2).toNat else wb s (s 2).toNat + (2 : Int) ^ (s 2).toNat)) (c2 : a 2 = vi 2) (c5 : a 5 = vi 5) (c6 : a 6 = vi 6) (hk : ∀ k, 45 ≤ k ∧ k < n → a k = vi k) : rp_S 1 (fu (fu s (42 + s 2) x) 2 (s 2 + 1)) n tau a vr := by
  obtain ⟨q1, q3, q7, q8, q9, q10, qt, qp, qr, -, -⟩ := id h
  obtain ⟨hr, h0, h1, h2, h3, h4, h5, h6, hp0, hrow, hwon, htape, htab⟩ := hV.1
  have e : ∀ z, ¬ z = 2 → ¬ z = 42 + s 2 → (fu (fu s (42 + s 2) x) 2 (s 2 + 1)) z = s z := fun z z1 z2 => by rw [fu_n _ _ _ z1, fu_n _ _ _ z2]
  refine h.mk (by rw [e1, e 3 (by omega) (by omega)]) (by rw [e3, e 1 (by omega) (by omega)]) (by rw [e7, e 0 (by omega) (by omega)]) (by rw [e8, e 5 (by omega) (by omega)]) (by rw [e9, fu_s]) ?_ ?_ ?_ ?_ (e 0 (by omega) (by omega)) (e 1 (by omega) (by omega)) h1.2 (fun p p1 p2 => ⟨e _ (by omega) (by omega), e _ (by omega) (by omega), e _ (by omega) (by omega)⟩) (fun z hz => e z (by omega) (by omega)) hk
  · rw [e10, fu_s, show (s 2 + 1).toNat = (s 2).toNat + 1 by omega, wb, wb_congr (s := s) (s2 := fu (fu s (42 + s 2) x) 2 (s 2 + 1)) (s 2).toNat (fun k hk => e _ (by omega) (by omega)), show (42 + (((s 2).toNat : Nat) : Int)) = 42 + s 2 by omega, fu_n _ _ _ (by omega), fu_s]
    rcases hx with rfl | rfl
    · rw [if_pos rfl, Int.zero_mul, Int.add_zero]
    · rw [if_neg (by decide), Int.one_mul]
  · intro z z1 z2
    rw [e 3 (by omega) (by omega)] at z2
    show a 2 z = _
    rw [c2, e _ (by omega) (by omega)]; exact qt z z1 z2
  · intro z z1 z2
    rw [e 0 (by omega) (by omega)] at z2
    show a 5 z = _
    rw [c5, e _ (by omega) (by omega)]; exact qp z z1 z2
  · intro z z1 z2
    rw [e 0 (by omega) (by omega)] at z2
    show a 6 z = _
    rw [c6, e _ (by omega) (by omega)]; exact qr z z1 z2
set_option maxHeartbeats 4000000 in
set_option maxRecDepth 100000 in
theorem kX11_toss (G : xg_T) (d : Nat) (n : Nat) (tau : Nat → Nat × Nat) (vi vl : Nat → Int → Int) (vr : Nat → Int → Option Nat) (hO : xo n tau vr) (s im : Int → Int) (has ran : Int) (bod : Int → Int) (hR : RCl s im has ran bod n tau vi vr) (hV : ms_V s) (x : Int) (hx : x = 0 ∨ x = 1) : xm G yX11_toss cX11_toss 2 (some .int) (d + 3) 0 0 [xa_r 0, xa_i x] n tau vi vl vr (xp_i (fun z9 n1 t1 a1 b1 c1 => z9 = (sp_toss s x).1 ∧ cq ((sp_toss s x).2) (im) (has) (ran) (bod) n tau vi vl n1 t1 a1 b1 c1)) := by
  refine xm.of (lv := [(0, xa_r 0), (1, xa_i x)]) (by decide) (Nat.le_of_ble_eq_true rfl) rfl (fun K hC hM hRm => ?_)
  have hS : rp_S 1 s n tau vi vr := hR.1
  obtain ⟨q1, q3, q7, q8, q9, q10, qt, qp, qr, qpl, qtb⟩ := id hS
  have hW : ms_W s := hV.1
  have h60 := hV.2
  obtain ⟨hr, h0, h1, h2, h3, h4, h5, h6, hp0, hrow, hwon, htape, htab⟩ := id hW
  obtain ⟨-, R2, R3, R4, R5, R6, R7, R8, R9, R10⟩ := id hR
  refine vx_aload_n hC 0 rfl eX11_toss_0 ?_
  refine vx_gr hC 0 (ot_0 hO) lf_X11_12 rfl (or_0_0 hO) eX11_toss_1 ?_
  refine vx_gi hC 9 (ot_1 hO) lf_X11_187 rfl eX11_toss_4 ?_
  refine vx_eqi q9 ?_
  refine vx_bipush hC (by decide) eX11_toss_7 ?_
  refine vx_icmp_lt hC (tgt := 15) (by omega) (by decide) eX11_toss_9 (fun c1 => ?_) (fun c1 => ?_)
  · refine vx_aload_n hC 0 rfl eX11_toss_15 ?_
    refine vx_gr hC 0 (ot_0 hO) lf_X11_12 rfl (or_0_0 hO) eX11_toss_16 ?_
    refine vx_iload_n hC 1 rfl eX11_toss_19 ?_
    refine vx_callV_v hC (kX6_addToss G (d + 1) _ _ _ _ _ hO s hS hV x hx (by omega)) ly_X11_190 (ot_1 hO) rfl rfl rfl hRm (by omega) (Nat.le_of_ble_eq_true rfl) rfl eX11_toss_20 (fun ng3 tg3 ag3 bg3 cg3 hg3 => ?_)
    obtain ⟨qg3_0, qg3_1, qg3_2, qg3_3, qg3_4, qg3_5, rfl, rfl, rfl, rfl, frg3⟩ := hg3
    have qg3_0b : ag3 1 1 = s 3 := by first | exact qg3_0 | rw [qg3_0, q1] | (rw [qg3_0]; exact q1)
    have qg3_1b : ag3 1 3 = s 1 := by first | exact qg3_1 | rw [qg3_1, q3] | (rw [qg3_1]; exact q3)
    have qg3_2b : ag3 1 7 = s 0 := by first | exact qg3_2 | rw [qg3_2, q7] | (rw [qg3_2]; exact q7)
    have qg3_3b : ag3 1 8 = s 5 := by first | exact qg3_3 | rw [qg3_3, q8] | (rw [qg3_3]; exact q8)
    have qg3_4b : ag3 1 9 = (s 2 + 1) := by first | exact qg3_4 | rw [qg3_4, q9] | (rw [qg3_4]; exact q9)
    have qg3_5b : ag3 1 10 = (if x = 0 then wb s (s 2).toNat else wb s (s 2).toNat + (2 : Int) ^ (s 2).toNat) := by first | exact qg3_5 | rw [qg3_5, q10] | (rw [qg3_5]; exact q10)
    have frvig3 : ∀ k : Nat, (¬ k = 1) → ag3 k = vi k := fun k hk => (frg3 k (by omega))
    refine vx_aload_n hC 0 rfl eX11_toss_23 ?_
    refine vx_gr hC 0 (ot_0 hO) lf_X11_12 rfl (or_0_0 hO) eX11_toss_24 ?_
    refine vx_gi hC 9 (ot_1 hO) lf_X11_187 rfl eX11_toss_27 ?_
    refine vx_eqi qg3_4b ?_
    have hE : sp_toss s x = (s 2 + 1, fu (fu s (42 + s 2) x) 2 (s 2 + 1)) := by unfold sp_toss; rw [if_neg (by omega)]
    exact vx_iret hC hM rfl eX11_toss_30 (⟨_, rfl, (by first | (rw [hE]; done) | (rw [hE]; omega)), (by rw [hE]; exact cq_s hO hR (cs_toss hS hV x hx (by omega) qg3_0b qg3_1b qg3_2b qg3_3b qg3_4b qg3_5b (frvig3 2 (by omega)) (frvig3 5 (by omega)) (frvig3 6 (by omega)) (fun k hk => frvig3 k (by omega))) (by rw [frvig3 2 (by omega)]; exact R8) (fun k hk => frvig3 k (by omega)) (fun k hk => rfl))⟩)
  · refine vx_bipush hC (by decide) eX11_toss_12 ?_
    have hE : sp_toss s x = (-4, s) := by unfold sp_toss; rw [if_pos (by omega)]
    exact vx_iret hC hM rfl eX11_toss_14 (⟨_, rfl, (by rw [hE]), (by rw [hE]; exact cq_ro hO hR (fun k hk => rfl) (fun k hk => rfl))⟩)
