set_option maxHeartbeats 4000000 in
set_option maxRecDepth 100000 in
theorem kX6_isWon (G : xg_T) (d : Nat) (n : Nat) (tau : Nat → Nat × Nat) (vi vl : Nat → Int → Int) (vr : Nat → Int → Option Nat) (hO : xo n tau vr) (s : Int → Int) (hS : rp_S 1 s n tau vi vr) (hV : ms_V s) (q : Int) (hq : 0 ≤ q ∧ q < s 2) : xm G yX6_isWon cX6_isWon 2 (some .boolean) (d + 1) 0 0 [xa_r 1, xa_i q] n tau vi vl vr (xp_i (fun z9 n1 t1 a1 b1 c1 => z9 = s (42 + q) ∧ xs_0 n tau vi vl vr n1 t1 a1 b1 c1)) := by
  refine xm.of (lv := [(0, xa_r 1), (1, xa_i q)]) (by decide) (Nat.le_of_ble_eq_true rfl) rfl (fun K hC hM hRm => ?_)
  obtain ⟨q1, q3, q7, q8, q9, q10, qt, qp, qr, qpl, qtb⟩ := id hS
  have hW : ms_W s := hV.1
  have h60 := hV.2
  obtain ⟨hr, h0, h1, h2, h3, h4, h5, h6, hp0, hrow, hwon, htape, htab⟩ := id hW
  have hwn : ∀ k : Nat, k < (s 2).toNat → 0 ≤ s (42 + (k : Int)) ∧ s (42 + (k : Int)) ≤ 1 := fun k hk => hwon (42 + (k : Int)) (by omega) (by omega)
  have hwr := wb_r (s := s) (s 2).toNat hwn
  have hpw : (2 : Int) ^ (s 2).toNat ≤ 16777216 := by have g9 := b3_pw (t := (s 2).toNat) (by omega); have e9 : (2 : Int) ^ (s 2).toNat = ((2 ^ (s 2).toNat : Nat) : Int) := (by simp); rw [e9]; omega
  have hqn : ((q.toNat : Nat) : Int) = q := by omega
  have hbit := wb_bit (s := s) (s 2).toNat q.toNat (by omega) hwn
  have hdv : 0 ≤ wb s (s 2).toNat / (2 : Int) ^ q.toNat ∧ wb s (s 2).toNat / (2 : Int) ^ q.toNat < 16777216 := ⟨Int.ediv_nonneg hwr.1 (Int.le_of_lt (Int.pow_pos (by decide))), Int.lt_of_le_of_lt (Int.ediv_le_self _ hwr.1) (by omega)⟩
  have hw9 := hwon (42 + q) (by omega) (by omega)
  rw [hqn] at hbit
  refine vx_aload_n hC 0 rfl eX6_isWon_0 ?_
  refine vx_gi hC 10 (ot_1 hO) lf_X6_59 rfl eX6_isWon_1 ?_
  refine vx_eqi q10 ?_
  refine vx_iload_n hC 1 rfl eX6_isWon_4 ?_
  refine vx_ishr hC eX6_isWon_5 ?_
  refine vx_eqi (y := wb s (s 2).toNat / (2 : Int) ^ q.toNat) (by have g9 := b3_shr (B := wb s (s 2).toNat) (k := q.toNat) (by omega) (by omega); rw [hqn] at g9; exact g9) ?_
  refine vx_iconst hC eX6_isWon_6 ?_
  refine vx_iand hC eX6_isWon_7 ?_
  refine vx_eqi (y := s (42 + q)) (by rw [b3_and1 hdv]; exact hbit) ?_
  refine vx_iconst hC eX6_isWon_8 ?_
  refine vx_icmp_ne hC (tgt := 16) (by omega) (by decide) eX6_isWon_9 (fun c1 => ?_) (fun c1 => ?_)
  · refine vx_iconst hC eX6_isWon_16 ?_
    exact vx_iret hC hM (by decide) eX6_isWon_17 (⟨_, rfl, by omega, xs_0.rf _ _ _ _ _⟩)
  · refine vx_iconst hC eX6_isWon_12 ?_
    refine vx_goto hC (tgt := 17) (by decide) eX6_isWon_13 ?_
    exact vx_iret hC hM (by decide) eX6_isWon_17 (⟨_, rfl, by omega, xs_0.rf _ _ _ _ _⟩)
