theorem rp_S.cp {d c : Nat} {s : Int → Int} {n : Nat} {tau : Nat → Nat × Nat} {vi a : Nat → Int → Int} {vr c1 : Nat → Int → Option Nat} (h : rp_S c s n tau vi vr) (h0 : s 0 ≤ 4) (h1 : s 1 ≤ 5) (h3 : s 3 ≤ 100) (e1 : a d 1 = vi c 1) (e3 : a d 3 = vi c 3) (e7 : a d 7 = vi c 7) (e8 : a d 8 = vi c 8) (e9 : a d 9 = vi c 9) (e10 : a d 10 = vi c 10) (et : ag 100 (a (d + 1)) (vi (c + 1))) (ep : ag 4 (a (d + 4)) (vi (c + 4))) (er : ag 16 (a (d + 5)) (vi (c + 5))) (ct : ∀ z, 0 ≤ z → z < 5 → c1 (d + 2) z = vr (c + 2) z) (cp : ∀ z, 0 ≤ z → z < 4 → c1 (d + 3) z = vr (c + 3) z) (hk : ∀ k, 45 ≤ k ∧ k < n → a k = vi k) (hv : ∀ k, 45 ≤ k ∧ k < n → c1 k = vr k) : rp_S d s n tau a c1 := by
  obtain ⟨q1, q2, q3, q4, q5, q6, q7, q8, q9, q10, q11⟩ := h
  refine ⟨by rw [e1]; exact q1, by rw [e3]; exact q2, by rw [e7]; exact q3, by rw [e8]; exact q4, by rw [e9]; exact q5, by rw [e10]; exact q6, fun z z1 z2 => ?_, fun z z1 z2 => ?_, fun z z1 z2 => ?_, fun p p1 p2 => ?_, fun t t1 t2 => ?_⟩
  · rw [et z z1 (by omega)]; exact q7 z z1 z2
  · rw [ep z z1 (by omega)]; exact q8 z z1 z2
  · rw [er z z1 (by omega)]; exact q9 z z1 z2
  · obtain ⟨k, k1, k2⟩ := q10 p p1 p2
    exact ⟨k, by rw [cp p p1 (by omega)]; exact k1, k2.fr hk (Nat.le_refl _) (fun _ _ => rfl)⟩
  · obtain ⟨k, k1, k2⟩ := q11 t t1 t2
    exact ⟨k, by rw [ct t t1 (by omega)]; exact k1, k2.fr hk (Nat.le_refl _) (fun _ _ => rfl) hv⟩
theorem rvl.cp {n : Nat} {tau : Nat → Nat × Nat} {vr c : Nat → Int → Option Nat} (h : rvl n tau vr) (h3 : ∀ z, c 3 z = vr 3 z ∨ c 3 z = vr 10 z) (h10 : ∀ z, c 10 z = vr 3 z ∨ c 10 z = vr 10 z) (h4 : ∀ z, c 4 z = vr 4 z ∨ c 4 z = vr 11 z) (h11 : ∀ z, c 11 z = vr 4 z ∨ c 11 z = vr 11 z) : rvl n tau c := by
  intro z k
  refine ⟨fun q => (h z k).1 ?_, fun q => (h z k).2 ?_⟩
  · rcases q with q | q
    · rcases h3 z with e | e <;> rw [e] at q
      · exact Or.inl q
      · exact Or.inr q
    · rcases h10 z with e | e <;> rw [e] at q
      · exact Or.inl q
      · exact Or.inr q
  · rcases q with q | q
    · rcases h4 z with e | e <;> rw [e] at q
      · exact Or.inl q
      · exact Or.inr q
    · rcases h11 z with e | e <;> rw [e] at q
      · exact Or.inl q
      · exact Or.inr q
theorem xo_r {n : Nat} {tau : Nat → Nat × Nat} {vr c : Nat → Int → Option Nat} (h : xo n tau vr) (hk : ∀ k, ¬ (k = 3 ∨ k = 4 ∨ k = 10 ∨ k = 11) → c k = vr k) : xo n tau c := by
  refine ⟨h.1, h.2.1, fun q hq => ?_⟩
  have g9 : ∀ q ∈ xo_rl, ¬ (q.1 = 3 ∨ q.1 = 4 ∨ q.1 = 10 ∨ q.1 = 11) := by decide
  rw [hk _ (g9 q hq)]
  exact h.2.2 q hq
theorem xp_K4 {ci : Nat} (h : xp_K 4 ci) : ∃ C T N, vwCl[ci]? = some (C, T, N) ∧ (C = RX4 ∨ (C, RX4) ∈ xw_cast) := by
  unfold xp_K at h
  rcases h with h | h | h | h | h | h | h <;> subst h
  all_goals (first | exact ⟨_, _, _, rfl, Or.inl rfl⟩ | exact ⟨_, _, _, rfl, Or.inr (by decide)⟩)
theorem rvl.p {n : Nat} {tau : Nat → Nat × Nat} {vr : Nat → Int → Option Nat} (h : rvl n tau vr) {z : Int} {q : Nat} (hq : vr 4 z = some q ∨ vr 11 z = some q) : q < n ∧ ∃ ci ln C T N, tau q = (ci, ln) ∧ vwCl[ci]? = some (C, T, N) ∧ (C = RX4 ∨ (C, RX4) ∈ xw_cast) := by
  obtain ⟨h1, h2, h3⟩ := (h z q).2 hq
  obtain ⟨C, T, N, e1, e2⟩ := xp_K4 h2
  exact ⟨h1, _, _, C, T, N, rfl, e1, e2⟩
theorem rvl.t {n : Nat} {tau : Nat → Nat × Nat} {vr : Nat → Int → Option Nat} (h : rvl n tau vr) {z : Int} {q : Nat} (hq : vr 3 z = some q ∨ vr 10 z = some q) : q < n ∧ ∃ ci ln C T N, tau q = (ci, ln) ∧ vwCl[ci]? = some (C, T, N) ∧ (C = RX8 ∨ (C, RX8) ∈ xw_cast) := by
  obtain ⟨h1, h2⟩ := (h z q).1 hq
  exact ⟨h1, 8, 0, _, _, _, h2, rfl, Or.inl rfl⟩
theorem ag_i (N : Int) (f : Int → Int) : ag N f f := fun _ _ _ => rfl
def itr (A B : Int → Option Nat) (N z : Int) : Option Nat := if 0 ≤ z ∧ z < N then A z else B z
theorem itr_0 (A B : Int → Option Nat) (z : Int) : itr A B 0 z = B z := if_neg (by omega)
theorem itr_s {A B : Int → Option Nat} {N z : Int} (h : 0 ≤ N) : itr A B (N + 1) z = if z = N then A N else itr A B N z := by
  unfold itr
  by_cases e : z = N
  · rw [if_pos e, e, if_pos (by omega)]
  · rw [if_neg e]
    by_cases e2 : 0 ≤ z ∧ z < N
    · rw [if_pos e2, if_pos (by omega)]
    · rw [if_neg e2, if_neg (by omega)]
theorem itr_o (A B : Int → Option Nat) (N z : Int) : itr A B N z = B z ∨ itr A B N z = A z := by unfold itr; split; exact Or.inr rfl; exact Or.inl rfl
theorem itr_i {A B : Int → Option Nat} {N z : Int} (h : 0 ≤ z ∧ z < N) : itr A B N z = A z := if_pos h
set_option maxHeartbeats 4000000 in
set_option maxRecDepth 100000 in
theorem kX6_become_8_1 (G : xg_T) (d : Nat) (n : Nat) (tau : Nat → Nat × Nat) (vi vl : Nat → Int → Int) (vr : Nat → Int → Option Nat) (hO : xo n tau vr) (hv9 : rvl n tau vr) (hy9 : byt (vi 2)) : xm G yX6_become cX6_become 3 none (d + 2) 0 0 [xa_r 8, xa_r 1] n tau vi vl vr (xp_v (fun n1 t1 a1 b1 c1 => n = n1 ∧ tau = t1 ∧ vl = b1 ∧ a1 8 1 = vi 1 1 ∧ a1 8 3 = vi 1 3 ∧ a1 8 7 = vi 1 7 ∧ a1 8 8 = vi 1 8 ∧ a1 8 9 = vi 1 9 ∧ a1 8 10 = vi 1 10 ∧ ag 100 (a1 9) (vi 2) ∧ ag 4 (a1 12) (vi 5) ∧ ag 16 (a1 13) (vi 6) ∧ (∀ k, (¬ k = 8 ∧ ¬ k = 9 ∧ ¬ k = 12 ∧ ¬ k = 13) → a1 k = vi k) ∧ (∀ z, c1 10 z = itr (vr 3) (vr 10) 5 z) ∧ (∀ z, c1 11 z = itr (vr 4) (vr 11) 4 z) ∧ ∀ k, ¬ (k = 10 ∨ k = 11) → c1 k = vr k)) := by
  refine xm.of (lv := [(0, xa_r 8), (1, xa_r 1)]) (by decide) (Nat.le_of_ble_eq_true rfl) rfl (fun K hC hM hRm => ?_)
  refine vx_aload_n hC 1 rfl eX6_become_0 ?_
  refine vx_gr hC 0 (ot_1 hO) lf_X6_9 rfl (or_1_0 hO) eX6_become_1 ?_
  refine vx_iconst hC eX6_become_4 ?_
  refine vx_aload_n hC 0 rfl eX6_become_5 ?_
  refine vx_gr hC 0 (ot_8 hO) lf_X6_9 rfl (or_8_0 hO) eX6_become_6 ?_
  refine vx_iconst hC eX6_become_9 ?_
  refine vx_bipush hC (by decide) eX6_become_10 ?_
  refine vx_copyB hC (ot_2 hO) (ot_9 hO) (by decide) (by omega) hy9 ly_X6_37 hRm (by omega) (Nat.le_of_ble_eq_true rfl) eX6_become_12 ?_
  refine vx_vi (fun v1 hv1 => ?_)
  have whv1_8_1 : v1 8 = vi 8 := by rw [hv1]; exact if_neg (by decide)
  have hv1_8_1 : v1 8 1 = vi 8 1 := by rw [whv1_8_1]
  have whv1_8_3 : v1 8 = vi 8 := by rw [hv1]; exact if_neg (by decide)
  have hv1_8_3 : v1 8 3 = vi 8 3 := by rw [whv1_8_3]
  have whv1_8_7 : v1 8 = vi 8 := by rw [hv1]; exact if_neg (by decide)
  have hv1_8_7 : v1 8 7 = vi 8 7 := by rw [whv1_8_7]
  have whv1_8_8 : v1 8 = vi 8 := by rw [hv1]; exact if_neg (by decide)
  have hv1_8_8 : v1 8 8 = vi 8 8 := by rw [whv1_8_8]
  have whv1_8_9 : v1 8 = vi 8 := by rw [hv1]; exact if_neg (by decide)
  have hv1_8_9 : v1 8 9 = vi 8 9 := by rw [whv1_8_9]
  have whv1_8_10 : v1 8 = vi 8 := by rw [hv1]; exact if_neg (by decide)
  have hv1_8_10 : v1 8 10 = vi 8 10 := by rw [whv1_8_10]
  have whv1_1_1 : v1 1 = vi 1 := by rw [hv1]; exact if_neg (by decide)
  have hv1_1_1 : v1 1 1 = vi 1 1 := by rw [whv1_1_1]
  have whv1_1_3 : v1 1 = vi 1 := by rw [hv1]; exact if_neg (by decide)
  have hv1_1_3 : v1 1 3 = vi 1 3 := by rw [whv1_1_3]
  have whv1_1_7 : v1 1 = vi 1 := by rw [hv1]; exact if_neg (by decide)
  have hv1_1_7 : v1 1 7 = vi 1 7 := by rw [whv1_1_7]
  have whv1_1_8 : v1 1 = vi 1 := by rw [hv1]; exact if_neg (by decide)
  have hv1_1_8 : v1 1 8 = vi 1 8 := by rw [whv1_1_8]
  have whv1_1_9 : v1 1 = vi 1 := by rw [hv1]; exact if_neg (by decide)
  have hv1_1_9 : v1 1 9 = vi 1 9 := by rw [whv1_1_9]
  have whv1_1_10 : v1 1 = vi 1 := by rw [hv1]; exact if_neg (by decide)
  have hv1_1_10 : v1 1 10 = vi 1 10 := by rw [whv1_1_10]
  have whv1_2 : v1 2 = vi 2 := by rw [hv1]; exact if_neg (by decide)
  have hv1_2 : ag 100 (v1 2) (vi 2) := by rw [whv1_2]; exact (ag_i _ _)
  have whv1_9 : v1 9 = xcp (vi 2) (vi 9) 0 0 100 := by rw [hv1]; exact if_pos rfl
  have hv1_9 : ag 100 (v1 9) (vi 2) := by rw [whv1_9]; exact xcp_ag (ag_i _ _)
  have whv1_5 : v1 5 = vi 5 := by rw [hv1]; exact if_neg (by decide)
  have hv1_5 : ag 4 (v1 5) (vi 5) := by rw [whv1_5]; exact (ag_i _ _)
  have whv1_12 : v1 12 = vi 12 := by rw [hv1]; exact if_neg (by decide)
  have hv1_12 : v1 12 = vi 12 := by rw [whv1_12]
  have whv1_6 : v1 6 = vi 6 := by rw [hv1]; exact if_neg (by decide)
  have hv1_6 : ag 16 (v1 6) (vi 6) := by rw [whv1_6]; exact (ag_i _ _)
  have whv1_13 : v1 13 = vi 13 := by rw [hv1]; exact if_neg (by decide)
  have hv1_13 : v1 13 = vi 13 := by rw [whv1_13]
  have frv1 : ∀ k : Nat, (¬ k = 8 ∧ ¬ k = 9 ∧ ¬ k = 12 ∧ ¬ k = 13) → v1 k = vi k := fun k hk => by rw [hv1]; show (if k = 9 then _ else _) = _; rw [if_neg (by omega)]
  refine vx_aload_n hC 0 rfl eX6_become_15 ?_
  refine vx_aload_n hC 1 rfl eX6_become_16 ?_
  refine vx_gi hC 1 (ot_1 hO) lf_X6_43 rfl eX6_become_17 ?_
  refine vx_eqi hv1_1_1 ?_
  refine vx_pi hC 1 (ot_8 hO) lp_X6_43 rfl (Or.inl rfl) (Or.inl rfl) eX6_become_20 ?_
  refine vx_vi (fun v2 hv2 => ?_)
  have hv2_8_1 : v2 8 1 = (vi 1 1) := by rw [hv2, xu_k, fu_s]
  have hv2_8_3 : v2 8 3 = vi 8 3 := by rw [hv2, xu_k, fu_n _ _ _ (by decide), hv1_8_3]
  have hv2_8_7 : v2 8 7 = vi 8 7 := by rw [hv2, xu_k, fu_n _ _ _ (by decide), hv1_8_7]
  have hv2_8_8 : v2 8 8 = vi 8 8 := by rw [hv2, xu_k, fu_n _ _ _ (by decide), hv1_8_8]
  have hv2_8_9 : v2 8 9 = vi 8 9 := by rw [hv2, xu_k, fu_n _ _ _ (by decide), hv1_8_9]
  have hv2_8_10 : v2 8 10 = vi 8 10 := by rw [hv2, xu_k, fu_n _ _ _ (by decide), hv1_8_10]
  have hv2_1_1 : v2 1 1 = vi 1 1 := by rw [hv2, xu_c _ _ _ _ (by decide), hv1_1_1]
  have hv2_1_3 : v2 1 3 = vi 1 3 := by rw [hv2, xu_c _ _ _ _ (by decide), hv1_1_3]
  have hv2_1_7 : v2 1 7 = vi 1 7 := by rw [hv2, xu_c _ _ _ _ (by decide), hv1_1_7]
  have hv2_1_8 : v2 1 8 = vi 1 8 := by rw [hv2, xu_c _ _ _ _ (by decide), hv1_1_8]
  have hv2_1_9 : v2 1 9 = vi 1 9 := by rw [hv2, xu_c _ _ _ _ (by decide), hv1_1_9]
  have hv2_1_10 : v2 1 10 = vi 1 10 := by rw [hv2, xu_c _ _ _ _ (by decide), hv1_1_10]
  have hv2_2 : ag 100 (v2 2) (vi 2) := by rw [hv2, xu_c _ _ _ _ (by decide)]; exact hv1_2
  have hv2_9 : ag 100 (v2 9) (vi 2) := by rw [hv2, xu_c _ _ _ _ (by decide)]; exact hv1_9
  have hv2_5 : ag 4 (v2 5) (vi 5) := by rw [hv2, xu_c _ _ _ _ (by decide)]; exact hv1_5
  have hv2_12 : v2 12 = vi 12 := by rw [hv2, xu_c _ _ _ _ (by decide), hv1_12]
  have hv2_6 : ag 16 (v2 6) (vi 6) := by rw [hv2, xu_c _ _ _ _ (by decide)]; exact hv1_6
  have hv2_13 : v2 13 = vi 13 := by rw [hv2, xu_c _ _ _ _ (by decide), hv1_13]
  have frv2 : ∀ k : Nat, (¬ k = 8 ∧ ¬ k = 9 ∧ ¬ k = 12 ∧ ¬ k = 13) → v2 k = vi k := fun k hk => by rw [hv2, xu_c _ _ _ _ (by omega)]; exact frv1 k hk
  refine vx_iconst hC eX6_become_23 ?_
  refine vx_istore_n hC (lv1 := [(2, xa_i 0), (0, xa_r 8), (1, xa_r 1)]) (by decide) rfl eX6_become_24 ?_
  have LP25 : ∀ (j : Nat) (kc : Int) (C : Nat → Int → Option Nat) (hiC : 0 ≤ kc ∧ kc ≤ 5) (h1C : ∀ z, C 10 z = itr (vr 3) (vr 10) kc z) (h2C : ∀ k, ¬ k = 10 → C k = vr k) (hj : 5 - kc < (j : Int)), xv G K 3 (xk_Q G K (xp_v (fun n1 t1 a1 b1 c1 => n = n1 ∧ tau = t1 ∧ vl = b1 ∧ a1 8 1 = vi 1 1 ∧ a1 8 3 = vi 1 3 ∧ a1 8 7 = vi 1 7 ∧ a1 8 8 = vi 1 8 ∧ a1 8 9 = vi 1 9 ∧ a1 8 10 = vi 1 10 ∧ ag 100 (a1 9) (vi 2) ∧ ag 4 (a1 12) (vi 5) ∧ ag 16 (a1 13) (vi 6) ∧ (∀ k, (¬ k = 8 ∧ ¬ k = 9 ∧ ¬ k = 12 ∧ ¬ k = 13) → a1 k = vi k) ∧ (∀ z, c1 10 z = itr (vr 3) (vr 10) 5 z) ∧ (∀ z, c1 11 z = itr (vr 4) (vr 11) 4 z) ∧ ∀ k, ¬ (k = 10 ∨ k = 11) → c1 k = vr k)) 0 0) 0 0 n tau v2 vl C 25 [(2, xa_i kc), (1, xa_r 1), (0, xa_r 8)] [] := by
    intro j
    induction j with
    | zero => intro kc C hiC h1C h2C hj; exfalso; omega
    | succ j ih =>
      intro kc C hiC h1C h2C hj
      have hOC : xo n tau C := xo_r hO (fun k hk => by rw [h2C k (by omega)])
      refine vx_iload_n hC 0 rfl eX6_become_25 ?_
      refine vx_iconst hC eX6_become_26 ?_
      refine vx_icmp_ge hC (tgt := 48) (by omega) (by decide) eX6_become_27 (fun c3 => ?_) (fun c3 => ?_)
      · refine vx_aload_n hC 2 rfl eX6_become_48 ?_
        refine vx_aload_n hC 1 rfl eX6_become_49 ?_
        refine vx_gi hC 3 (ot_1 hOC) lf_X6_47 rfl eX6_become_50 ?_
        refine vx_eqi hv2_1_3 ?_
        refine vx_pi hC 3 (ot_8 hOC) lp_X6_47 rfl (Or.inl rfl) (Or.inl rfl) eX6_become_53 ?_
        refine vx_vi (fun v4 hv4 => ?_)
        have hv4_8_1 : v4 8 1 = (vi 1 1) := by rw [hv4, xu_k, fu_n _ _ _ (by decide), hv2_8_1]
        have hv4_8_3 : v4 8 3 = (vi 1 3) := by rw [hv4, xu_k, fu_s]
        have hv4_8_7 : v4 8 7 = vi 8 7 := by rw [hv4, xu_k, fu_n _ _ _ (by decide), hv2_8_7]
        have hv4_8_8 : v4 8 8 = vi 8 8 := by rw [hv4, xu_k, fu_n _ _ _ (by decide), hv2_8_8]
        have hv4_8_9 : v4 8 9 = vi 8 9 := by rw [hv4, xu_k, fu_n _ _ _ (by decide), hv2_8_9]
        have hv4_8_10 : v4 8 10 = vi 8 10 := by rw [hv4, xu_k, fu_n _ _ _ (by decide), hv2_8_10]
        have hv4_1_1 : v4 1 1 = vi 1 1 := by rw [hv4, xu_c _ _ _ _ (by decide), hv2_1_1]
        have hv4_1_3 : v4 1 3 = vi 1 3 := by rw [hv4, xu_c _ _ _ _ (by decide), hv2_1_3]
        have hv4_1_7 : v4 1 7 = vi 1 7 := by rw [hv4, xu_c _ _ _ _ (by decide), hv2_1_7]
        have hv4_1_8 : v4 1 8 = vi 1 8 := by rw [hv4, xu_c _ _ _ _ (by decide), hv2_1_8]
        have hv4_1_9 : v4 1 9 = vi 1 9 := by rw [hv4, xu_c _ _ _ _ (by decide), hv2_1_9]
        have hv4_1_10 : v4 1 10 = vi 1 10 := by rw [hv4, xu_c _ _ _ _ (by decide), hv2_1_10]
        have hv4_2 : ag 100 (v4 2) (vi 2) := by rw [hv4, xu_c _ _ _ _ (by decide)]; exact hv2_2
        have hv4_9 : ag 100 (v4 9) (vi 2) := by rw [hv4, xu_c _ _ _ _ (by decide)]; exact hv2_9
        have hv4_5 : ag 4 (v4 5) (vi 5) := by rw [hv4, xu_c _ _ _ _ (by decide)]; exact hv2_5
        have hv4_12 : v4 12 = vi 12 := by rw [hv4, xu_c _ _ _ _ (by decide), hv2_12]
        have hv4_6 : ag 16 (v4 6) (vi 6) := by rw [hv4, xu_c _ _ _ _ (by decide)]; exact hv2_6
        have hv4_13 : v4 13 = vi 13 := by rw [hv4, xu_c _ _ _ _ (by decide), hv2_13]
        have frv4 : ∀ k : Nat, (¬ k = 8 ∧ ¬ k = 9 ∧ ¬ k = 12 ∧ ¬ k = 13) → v4 k = vi k := fun k hk => by rw [hv4, xu_c _ _ _ _ (by omega)]; exact frv2 k hk
        refine vx_iconst hC eX6_become_56 ?_
        refine vx_istore_n hC (lv1 := [(2, xa_i 0), (1, xa_r 1), (0, xa_r 8)]) (by decide) rfl eX6_become_57 ?_
        have LP58 : ∀ (j : Nat) (kd : Int) (D : Nat → Int → Option Nat) (hiD : 0 ≤ kd ∧ kd ≤ 4) (h1D : ∀ z, D 11 z = itr (vr 4) (vr 11) kd z) (h2D : ∀ k, ¬ k = 11 → D k = C k) (hj : 4 - kd < (j : Int)), xv G K 3 (xk_Q G K (xp_v (fun n1 t1 a1 b1 c1 => n = n1 ∧ tau = t1 ∧ vl = b1 ∧ a1 8 1 = vi 1 1 ∧ a1 8 3 = vi 1 3 ∧ a1 8 7 = vi 1 7 ∧ a1 8 8 = vi 1 8 ∧ a1 8 9 = vi 1 9 ∧ a1 8 10 = vi 1 10 ∧ ag 100 (a1 9) (vi 2) ∧ ag 4 (a1 12) (vi 5) ∧ ag 16 (a1 13) (vi 6) ∧ (∀ k, (¬ k = 8 ∧ ¬ k = 9 ∧ ¬ k = 12 ∧ ¬ k = 13) → a1 k = vi k) ∧ (∀ z, c1 10 z = itr (vr 3) (vr 10) 5 z) ∧ (∀ z, c1 11 z = itr (vr 4) (vr 11) 4 z) ∧ ∀ k, ¬ (k = 10 ∨ k = 11) → c1 k = vr k)) 0 0) 0 0 n tau v4 vl D 58 [(2, xa_i kd), (1, xa_r 1), (0, xa_r 8)] [] := by
          intro j
          induction j with
          | zero => intro kd D hiD h1D h2D hj; exfalso; omega
          | succ j ih =>
            intro kd D hiD h1D h2D hj
            have hOD : xo n tau D := xo_r hO (fun k hk => by rw [h2D k (by omega)]; exact h2C k (by omega))
            refine vx_iload_n hC 0 rfl eX6_become_58 ?_
            refine vx_iconst hC eX6_become_59 ?_
            refine vx_icmp_ge hC (tgt := 81) (by omega) (by decide) eX6_become_60 (fun c5 => ?_) (fun c5 => ?_)
            · refine vx_aload_n hC 1 rfl eX6_become_81 ?_
              refine vx_gr hC 5 (ot_1 hOD) lf_X6_27 rfl (or_1_5 hOD) eX6_become_82 ?_
              refine vx_iconst hC eX6_become_85 ?_
              refine vx_aload_n hC 2 rfl eX6_become_86 ?_
              refine vx_gr hC 5 (ot_8 hOD) lf_X6_27 rfl (or_8_5 hOD) eX6_become_87 ?_
              refine vx_iconst hC eX6_become_90 ?_
              refine vx_iconst hC eX6_become_91 ?_
              refine vx_copyI hC (ot_5 hOD) (ot_12 hOD) (by decide) (by omega) ly_X6_37 hRm (by omega) (Nat.le_of_ble_eq_true rfl) eX6_become_92 ?_
              refine vx_vi (fun v6 hv6 => ?_)
              have whv6_8_1 : v6 8 = v4 8 := by rw [hv6]; exact if_neg (by decide)
              have hv6_8_1 : v6 8 1 = (vi 1 1) := by rw [whv6_8_1]; exact hv4_8_1
              have whv6_8_3 : v6 8 = v4 8 := by rw [hv6]; exact if_neg (by decide)
              have hv6_8_3 : v6 8 3 = (vi 1 3) := by rw [whv6_8_3]; exact hv4_8_3
              have whv6_8_7 : v6 8 = v4 8 := by rw [hv6]; exact if_neg (by decide)
              have hv6_8_7 : v6 8 7 = vi 8 7 := by rw [whv6_8_7]; exact hv4_8_7
              have whv6_8_8 : v6 8 = v4 8 := by rw [hv6]; exact if_neg (by decide)
              have hv6_8_8 : v6 8 8 = vi 8 8 := by rw [whv6_8_8]; exact hv4_8_8
              have whv6_8_9 : v6 8 = v4 8 := by rw [hv6]; exact if_neg (by decide)
              have hv6_8_9 : v6 8 9 = vi 8 9 := by rw [whv6_8_9]; exact hv4_8_9
              have whv6_8_10 : v6 8 = v4 8 := by rw [hv6]; exact if_neg (by decide)
              have hv6_8_10 : v6 8 10 = vi 8 10 := by rw [whv6_8_10]; exact hv4_8_10
              have whv6_1_1 : v6 1 = v4 1 := by rw [hv6]; exact if_neg (by decide)
              have hv6_1_1 : v6 1 1 = vi 1 1 := by rw [whv6_1_1]; exact hv4_1_1
              have whv6_1_3 : v6 1 = v4 1 := by rw [hv6]; exact if_neg (by decide)
              have hv6_1_3 : v6 1 3 = vi 1 3 := by rw [whv6_1_3]; exact hv4_1_3
              have whv6_1_7 : v6 1 = v4 1 := by rw [hv6]; exact if_neg (by decide)
              have hv6_1_7 : v6 1 7 = vi 1 7 := by rw [whv6_1_7]; exact hv4_1_7
              have whv6_1_8 : v6 1 = v4 1 := by rw [hv6]; exact if_neg (by decide)
              have hv6_1_8 : v6 1 8 = vi 1 8 := by rw [whv6_1_8]; exact hv4_1_8
              have whv6_1_9 : v6 1 = v4 1 := by rw [hv6]; exact if_neg (by decide)
              have hv6_1_9 : v6 1 9 = vi 1 9 := by rw [whv6_1_9]; exact hv4_1_9
              have whv6_1_10 : v6 1 = v4 1 := by rw [hv6]; exact if_neg (by decide)
              have hv6_1_10 : v6 1 10 = vi 1 10 := by rw [whv6_1_10]; exact hv4_1_10
              have whv6_2 : v6 2 = v4 2 := by rw [hv6]; exact if_neg (by decide)
              have hv6_2 : ag 100 (v6 2) (vi 2) := by rw [whv6_2]; exact hv4_2
              have whv6_9 : v6 9 = v4 9 := by rw [hv6]; exact if_neg (by decide)
              have hv6_9 : ag 100 (v6 9) (vi 2) := by rw [whv6_9]; exact hv4_9
              have whv6_5 : v6 5 = v4 5 := by rw [hv6]; exact if_neg (by decide)
              have hv6_5 : ag 4 (v6 5) (vi 5) := by rw [whv6_5]; exact hv4_5
              have whv6_12 : v6 12 = xcp (v4 5) (v4 12) 0 0 4 := by rw [hv6]; exact if_pos rfl
              have hv6_12 : ag 4 (v6 12) (vi 5) := by rw [whv6_12]; exact xcp_ag hv4_5
              have whv6_6 : v6 6 = v4 6 := by rw [hv6]; exact if_neg (by decide)
              have hv6_6 : ag 16 (v6 6) (vi 6) := by rw [whv6_6]; exact hv4_6
              have whv6_13 : v6 13 = v4 13 := by rw [hv6]; exact if_neg (by decide)
              have hv6_13 : v6 13 = vi 13 := by rw [whv6_13, hv4_13]
              have frv6 : ∀ k : Nat, (¬ k = 8 ∧ ¬ k = 9 ∧ ¬ k = 12 ∧ ¬ k = 13) → v6 k = vi k := fun k hk => by rw [hv6]; show (if k = 12 then _ else _) = _; rw [if_neg (by omega)]; exact frv4 k hk
              refine vx_aload_n hC 1 rfl eX6_become_95 ?_
              refine vx_gr hC 6 (ot_1 hOD) lf_X6_31 rfl (or_1_6 hOD) eX6_become_96 ?_
              refine vx_iconst hC eX6_become_99 ?_
              refine vx_aload_n hC 2 rfl eX6_become_100 ?_
              refine vx_gr hC 6 (ot_8 hOD) lf_X6_31 rfl (or_8_6 hOD) eX6_become_101 ?_
              refine vx_iconst hC eX6_become_104 ?_
              refine vx_bipush hC (by decide) eX6_become_105 ?_
              refine vx_copyI hC (ot_6 hOD) (ot_13 hOD) (by decide) (by omega) ly_X6_37 hRm (by omega) (Nat.le_of_ble_eq_true rfl) eX6_become_107 ?_
              refine vx_vi (fun v7 hv7 => ?_)
              have whv7_8_1 : v7 8 = v6 8 := by rw [hv7]; exact if_neg (by decide)
              have hv7_8_1 : v7 8 1 = (vi 1 1) := by rw [whv7_8_1]; exact hv6_8_1
              have whv7_8_3 : v7 8 = v6 8 := by rw [hv7]; exact if_neg (by decide)
              have hv7_8_3 : v7 8 3 = (vi 1 3) := by rw [whv7_8_3]; exact hv6_8_3
              have whv7_8_7 : v7 8 = v6 8 := by rw [hv7]; exact if_neg (by decide)
              have hv7_8_7 : v7 8 7 = vi 8 7 := by rw [whv7_8_7]; exact hv6_8_7
              have whv7_8_8 : v7 8 = v6 8 := by rw [hv7]; exact if_neg (by decide)
              have hv7_8_8 : v7 8 8 = vi 8 8 := by rw [whv7_8_8]; exact hv6_8_8
              have whv7_8_9 : v7 8 = v6 8 := by rw [hv7]; exact if_neg (by decide)
              have hv7_8_9 : v7 8 9 = vi 8 9 := by rw [whv7_8_9]; exact hv6_8_9
              have whv7_8_10 : v7 8 = v6 8 := by rw [hv7]; exact if_neg (by decide)
              have hv7_8_10 : v7 8 10 = vi 8 10 := by rw [whv7_8_10]; exact hv6_8_10
              have whv7_1_1 : v7 1 = v6 1 := by rw [hv7]; exact if_neg (by decide)
              have hv7_1_1 : v7 1 1 = vi 1 1 := by rw [whv7_1_1]; exact hv6_1_1
              have whv7_1_3 : v7 1 = v6 1 := by rw [hv7]; exact if_neg (by decide)
              have hv7_1_3 : v7 1 3 = vi 1 3 := by rw [whv7_1_3]; exact hv6_1_3
              have whv7_1_7 : v7 1 = v6 1 := by rw [hv7]; exact if_neg (by decide)
              have hv7_1_7 : v7 1 7 = vi 1 7 := by rw [whv7_1_7]; exact hv6_1_7
              have whv7_1_8 : v7 1 = v6 1 := by rw [hv7]; exact if_neg (by decide)
              have hv7_1_8 : v7 1 8 = vi 1 8 := by rw [whv7_1_8]; exact hv6_1_8
              have whv7_1_9 : v7 1 = v6 1 := by rw [hv7]; exact if_neg (by decide)
              have hv7_1_9 : v7 1 9 = vi 1 9 := by rw [whv7_1_9]; exact hv6_1_9
              have whv7_1_10 : v7 1 = v6 1 := by rw [hv7]; exact if_neg (by decide)
              have hv7_1_10 : v7 1 10 = vi 1 10 := by rw [whv7_1_10]; exact hv6_1_10
              have whv7_2 : v7 2 = v6 2 := by rw [hv7]; exact if_neg (by decide)
              have hv7_2 : ag 100 (v7 2) (vi 2) := by rw [whv7_2]; exact hv6_2
              have whv7_9 : v7 9 = v6 9 := by rw [hv7]; exact if_neg (by decide)
              have hv7_9 : ag 100 (v7 9) (vi 2) := by rw [whv7_9]; exact hv6_9
              have whv7_5 : v7 5 = v6 5 := by rw [hv7]; exact if_neg (by decide)
              have hv7_5 : ag 4 (v7 5) (vi 5) := by rw [whv7_5]; exact hv6_5
              have whv7_12 : v7 12 = v6 12 := by rw [hv7]; exact if_neg (by decide)
              have hv7_12 : ag 4 (v7 12) (vi 5) := by rw [whv7_12]; exact hv6_12
              have whv7_6 : v7 6 = v6 6 := by rw [hv7]; exact if_neg (by decide)
              have hv7_6 : ag 16 (v7 6) (vi 6) := by rw [whv7_6]; exact hv6_6
              have whv7_13 : v7 13 = xcp (v6 6) (v6 13) 0 0 16 := by rw [hv7]; exact if_pos rfl
              have hv7_13 : ag 16 (v7 13) (vi 6) := by rw [whv7_13]; exact xcp_ag hv6_6
              have frv7 : ∀ k : Nat, (¬ k = 8 ∧ ¬ k = 9 ∧ ¬ k = 12 ∧ ¬ k = 13) → v7 k = vi k := fun k hk => by rw [hv7]; show (if k = 13 then _ else _) = _; rw [if_neg (by omega)]; exact frv6 k hk
              refine vx_aload_n hC 2 rfl eX6_become_110 ?_
              refine vx_aload_n hC 1 rfl eX6_become_111 ?_
              refine vx_gi hC 7 (ot_1 hOD) lf_X6_50 rfl eX6_become_112 ?_
              refine vx_eqi hv7_1_7 ?_
              refine vx_pi hC 7 (ot_8 hOD) lp_X6_50 rfl (Or.inl rfl) (Or.inl rfl) eX6_become_115 ?_
              refine vx_vi (fun v8 hv8 => ?_)
              have hv8_8_1 : v8 8 1 = (vi 1 1) := by rw [hv8, xu_k, fu_n _ _ _ (by decide), hv7_8_1]
              have hv8_8_3 : v8 8 3 = (vi 1 3) := by rw [hv8, xu_k, fu_n _ _ _ (by decide), hv7_8_3]
              have hv8_8_7 : v8 8 7 = (vi 1 7) := by rw [hv8, xu_k, fu_s]
              have hv8_8_8 : v8 8 8 = vi 8 8 := by rw [hv8, xu_k, fu_n _ _ _ (by decide), hv7_8_8]
              have hv8_8_9 : v8 8 9 = vi 8 9 := by rw [hv8, xu_k, fu_n _ _ _ (by decide), hv7_8_9]
              have hv8_8_10 : v8 8 10 = vi 8 10 := by rw [hv8, xu_k, fu_n _ _ _ (by decide), hv7_8_10]
              have hv8_1_1 : v8 1 1 = vi 1 1 := by rw [hv8, xu_c _ _ _ _ (by decide), hv7_1_1]
              have hv8_1_3 : v8 1 3 = vi 1 3 := by rw [hv8, xu_c _ _ _ _ (by decide), hv7_1_3]
              have hv8_1_7 : v8 1 7 = vi 1 7 := by rw [hv8, xu_c _ _ _ _ (by decide), hv7_1_7]
              have hv8_1_8 : v8 1 8 = vi 1 8 := by rw [hv8, xu_c _ _ _ _ (by decide), hv7_1_8]
              have hv8_1_9 : v8 1 9 = vi 1 9 := by rw [hv8, xu_c _ _ _ _ (by decide), hv7_1_9]
              have hv8_1_10 : v8 1 10 = vi 1 10 := by rw [hv8, xu_c _ _ _ _ (by decide), hv7_1_10]
              have hv8_2 : ag 100 (v8 2) (vi 2) := by rw [hv8, xu_c _ _ _ _ (by decide)]; exact hv7_2
              have hv8_9 : ag 100 (v8 9) (vi 2) := by rw [hv8, xu_c _ _ _ _ (by decide)]; exact hv7_9
              have hv8_5 : ag 4 (v8 5) (vi 5) := by rw [hv8, xu_c _ _ _ _ (by decide)]; exact hv7_5
              have hv8_12 : ag 4 (v8 12) (vi 5) := by rw [hv8, xu_c _ _ _ _ (by decide)]; exact hv7_12
              have hv8_6 : ag 16 (v8 6) (vi 6) := by rw [hv8, xu_c _ _ _ _ (by decide)]; exact hv7_6
              have hv8_13 : ag 16 (v8 13) (vi 6) := by rw [hv8, xu_c _ _ _ _ (by decide)]; exact hv7_13
              have frv8 : ∀ k : Nat, (¬ k = 8 ∧ ¬ k = 9 ∧ ¬ k = 12 ∧ ¬ k = 13) → v8 k = vi k := fun k hk => by rw [hv8, xu_c _ _ _ _ (by omega)]; exact frv7 k hk
              refine vx_aload_n hC 2 rfl eX6_become_118 ?_
              refine vx_aload_n hC 1 rfl eX6_become_119 ?_
              refine vx_gi hC 8 (ot_1 hOD) lf_X6_53 rfl eX6_become_120 ?_
              refine vx_eqi hv8_1_8 ?_
              refine vx_pi hC 8 (ot_8 hOD) lp_X6_53 rfl (Or.inl rfl) (Or.inl rfl) eX6_become_123 ?_
              refine vx_vi (fun v9 hv9 => ?_)
              have hv9_8_1 : v9 8 1 = (vi 1 1) := by rw [hv9, xu_k, fu_n _ _ _ (by decide), hv8_8_1]
              have hv9_8_3 : v9 8 3 = (vi 1 3) := by rw [hv9, xu_k, fu_n _ _ _ (by decide), hv8_8_3]
              have hv9_8_7 : v9 8 7 = (vi 1 7) := by rw [hv9, xu_k, fu_n _ _ _ (by decide), hv8_8_7]
              have hv9_8_8 : v9 8 8 = (vi 1 8) := by rw [hv9, xu_k, fu_s]
              have hv9_8_9 : v9 8 9 = vi 8 9 := by rw [hv9, xu_k, fu_n _ _ _ (by decide), hv8_8_9]
              have hv9_8_10 : v9 8 10 = vi 8 10 := by rw [hv9, xu_k, fu_n _ _ _ (by decide), hv8_8_10]
              have hv9_1_1 : v9 1 1 = vi 1 1 := by rw [hv9, xu_c _ _ _ _ (by decide), hv8_1_1]
              have hv9_1_3 : v9 1 3 = vi 1 3 := by rw [hv9, xu_c _ _ _ _ (by decide), hv8_1_3]
              have hv9_1_7 : v9 1 7 = vi 1 7 := by rw [hv9, xu_c _ _ _ _ (by decide), hv8_1_7]
              have hv9_1_8 : v9 1 8 = vi 1 8 := by rw [hv9, xu_c _ _ _ _ (by decide), hv8_1_8]
              have hv9_1_9 : v9 1 9 = vi 1 9 := by rw [hv9, xu_c _ _ _ _ (by decide), hv8_1_9]
              have hv9_1_10 : v9 1 10 = vi 1 10 := by rw [hv9, xu_c _ _ _ _ (by decide), hv8_1_10]
              have hv9_2 : ag 100 (v9 2) (vi 2) := by rw [hv9, xu_c _ _ _ _ (by decide)]; exact hv8_2
              have hv9_9 : ag 100 (v9 9) (vi 2) := by rw [hv9, xu_c _ _ _ _ (by decide)]; exact hv8_9
              have hv9_5 : ag 4 (v9 5) (vi 5) := by rw [hv9, xu_c _ _ _ _ (by decide)]; exact hv8_5
              have hv9_12 : ag 4 (v9 12) (vi 5) := by rw [hv9, xu_c _ _ _ _ (by decide)]; exact hv8_12
              have hv9_6 : ag 16 (v9 6) (vi 6) := by rw [hv9, xu_c _ _ _ _ (by decide)]; exact hv8_6
              have hv9_13 : ag 16 (v9 13) (vi 6) := by rw [hv9, xu_c _ _ _ _ (by decide)]; exact hv8_13
              have frv9 : ∀ k : Nat, (¬ k = 8 ∧ ¬ k = 9 ∧ ¬ k = 12 ∧ ¬ k = 13) → v9 k = vi k := fun k hk => by rw [hv9, xu_c _ _ _ _ (by omega)]; exact frv8 k hk
              refine vx_aload_n hC 2 rfl eX6_become_126 ?_
              refine vx_aload_n hC 1 rfl eX6_become_127 ?_
              refine vx_gi hC 9 (ot_1 hOD) lf_X6_56 rfl eX6_become_128 ?_
              refine vx_eqi hv9_1_9 ?_
              refine vx_pi hC 9 (ot_8 hOD) lp_X6_56 rfl (Or.inl rfl) (Or.inl rfl) eX6_become_131 ?_
              refine vx_vi (fun v10 hv10 => ?_)
              have hv10_8_1 : v10 8 1 = (vi 1 1) := by rw [hv10, xu_k, fu_n _ _ _ (by decide), hv9_8_1]
              have hv10_8_3 : v10 8 3 = (vi 1 3) := by rw [hv10, xu_k, fu_n _ _ _ (by decide), hv9_8_3]
              have hv10_8_7 : v10 8 7 = (vi 1 7) := by rw [hv10, xu_k, fu_n _ _ _ (by decide), hv9_8_7]
              have hv10_8_8 : v10 8 8 = (vi 1 8) := by rw [hv10, xu_k, fu_n _ _ _ (by decide), hv9_8_8]
              have hv10_8_9 : v10 8 9 = (vi 1 9) := by rw [hv10, xu_k, fu_s]
              have hv10_8_10 : v10 8 10 = vi 8 10 := by rw [hv10, xu_k, fu_n _ _ _ (by decide), hv9_8_10]
              have hv10_1_1 : v10 1 1 = vi 1 1 := by rw [hv10, xu_c _ _ _ _ (by decide), hv9_1_1]
              have hv10_1_3 : v10 1 3 = vi 1 3 := by rw [hv10, xu_c _ _ _ _ (by decide), hv9_1_3]
              have hv10_1_7 : v10 1 7 = vi 1 7 := by rw [hv10, xu_c _ _ _ _ (by decide), hv9_1_7]
              have hv10_1_8 : v10 1 8 = vi 1 8 := by rw [hv10, xu_c _ _ _ _ (by decide), hv9_1_8]
              have hv10_1_9 : v10 1 9 = vi 1 9 := by rw [hv10, xu_c _ _ _ _ (by decide), hv9_1_9]
              have hv10_1_10 : v10 1 10 = vi 1 10 := by rw [hv10, xu_c _ _ _ _ (by decide), hv9_1_10]
              have hv10_2 : ag 100 (v10 2) (vi 2) := by rw [hv10, xu_c _ _ _ _ (by decide)]; exact hv9_2
              have hv10_9 : ag 100 (v10 9) (vi 2) := by rw [hv10, xu_c _ _ _ _ (by decide)]; exact hv9_9
              have hv10_5 : ag 4 (v10 5) (vi 5) := by rw [hv10, xu_c _ _ _ _ (by decide)]; exact hv9_5
              have hv10_12 : ag 4 (v10 12) (vi 5) := by rw [hv10, xu_c _ _ _ _ (by decide)]; exact hv9_12
              have hv10_6 : ag 16 (v10 6) (vi 6) := by rw [hv10, xu_c _ _ _ _ (by decide)]; exact hv9_6
              have hv10_13 : ag 16 (v10 13) (vi 6) := by rw [hv10, xu_c _ _ _ _ (by decide)]; exact hv9_13
              have frv10 : ∀ k : Nat, (¬ k = 8 ∧ ¬ k = 9 ∧ ¬ k = 12 ∧ ¬ k = 13) → v10 k = vi k := fun k hk => by rw [hv10, xu_c _ _ _ _ (by omega)]; exact frv9 k hk
              refine vx_aload_n hC 2 rfl eX6_become_134 ?_
              refine vx_aload_n hC 1 rfl eX6_become_135 ?_
              refine vx_gi hC 10 (ot_1 hOD) lf_X6_59 rfl eX6_become_136 ?_
              refine vx_eqi hv10_1_10 ?_
              refine vx_pi hC 10 (ot_8 hOD) lp_X6_59 rfl (Or.inl rfl) (Or.inl rfl) eX6_become_139 ?_
              refine vx_vi (fun v11 hv11 => ?_)
              have hv11_8_1 : v11 8 1 = (vi 1 1) := by rw [hv11, xu_k, fu_n _ _ _ (by decide), hv10_8_1]
              have hv11_8_3 : v11 8 3 = (vi 1 3) := by rw [hv11, xu_k, fu_n _ _ _ (by decide), hv10_8_3]
              have hv11_8_7 : v11 8 7 = (vi 1 7) := by rw [hv11, xu_k, fu_n _ _ _ (by decide), hv10_8_7]
              have hv11_8_8 : v11 8 8 = (vi 1 8) := by rw [hv11, xu_k, fu_n _ _ _ (by decide), hv10_8_8]
              have hv11_8_9 : v11 8 9 = (vi 1 9) := by rw [hv11, xu_k, fu_n _ _ _ (by decide), hv10_8_9]
              have hv11_8_10 : v11 8 10 = (vi 1 10) := by rw [hv11, xu_k, fu_s]
              have hv11_1_1 : v11 1 1 = vi 1 1 := by rw [hv11, xu_c _ _ _ _ (by decide), hv10_1_1]
              have hv11_1_3 : v11 1 3 = vi 1 3 := by rw [hv11, xu_c _ _ _ _ (by decide), hv10_1_3]
              have hv11_1_7 : v11 1 7 = vi 1 7 := by rw [hv11, xu_c _ _ _ _ (by decide), hv10_1_7]
              have hv11_1_8 : v11 1 8 = vi 1 8 := by rw [hv11, xu_c _ _ _ _ (by decide), hv10_1_8]
              have hv11_1_9 : v11 1 9 = vi 1 9 := by rw [hv11, xu_c _ _ _ _ (by decide), hv10_1_9]
              have hv11_1_10 : v11 1 10 = vi 1 10 := by rw [hv11, xu_c _ _ _ _ (by decide), hv10_1_10]
              have hv11_2 : ag 100 (v11 2) (vi 2) := by rw [hv11, xu_c _ _ _ _ (by decide)]; exact hv10_2
              have hv11_9 : ag 100 (v11 9) (vi 2) := by rw [hv11, xu_c _ _ _ _ (by decide)]; exact hv10_9
              have hv11_5 : ag 4 (v11 5) (vi 5) := by rw [hv11, xu_c _ _ _ _ (by decide)]; exact hv10_5
              have hv11_12 : ag 4 (v11 12) (vi 5) := by rw [hv11, xu_c _ _ _ _ (by decide)]; exact hv10_12
              have hv11_6 : ag 16 (v11 6) (vi 6) := by rw [hv11, xu_c _ _ _ _ (by decide)]; exact hv10_6
              have hv11_13 : ag 16 (v11 13) (vi 6) := by rw [hv11, xu_c _ _ _ _ (by decide)]; exact hv10_13
              have frv11 : ∀ k : Nat, (¬ k = 8 ∧ ¬ k = 9 ∧ ¬ k = 12 ∧ ¬ k = 13) → v11 k = vi k := fun k hk => by rw [hv11, xu_c _ _ _ _ (by omega)]; exact frv10 k hk
              exact vx_vret hC hM eX6_become_142 (⟨rfl, rfl, rfl, rfl, hv11_8_1, hv11_8_3, hv11_8_7, hv11_8_8, hv11_8_9, hv11_8_10, hv11_9, hv11_12, hv11_13, frv11, (fun z => by rw [h2D 10 (by decide), h1C]; rw [show kc = 5 by omega]), (fun z => by rw [h1D]; rw [show kd = 4 by omega]), fun k hk => by rw [h2D k (by omega)]; exact h2C k (by omega)⟩)
            · refine vx_aload_n hC 2 rfl eX6_become_63 ?_
              refine vx_gr hC 4 (ot_8 hOD) lf_X6_23 rfl (or_8_4 hOD) eX6_become_64 ?_
              refine vx_iload_n hC 0 rfl eX6_become_67 ?_
              refine vx_aload_n hC 1 rfl eX6_become_68 ?_
              refine vx_gr hC 4 (ot_1 hOD) lf_X6_23 rfl (or_1_4 hOD) eX6_become_69 ?_
              refine vx_iload_n hC 0 rfl eX6_become_72 ?_
              refine vx_aaload17 hC (ot_4 hOD) (by omega) (by omega) (show _ = vr 4 kd from (congrFun (h2D 4 (by decide)) _).trans (congrFun (h2C 4 (by decide)) _)) eX6_become_73 ?_
              refine vx_aastore17 hC (ot_11 hOD) (by omega) (by omega) (fun q hq => hv9.p (Or.inl hq)) eX6_become_74 ?_
              refine vx_vr (fun v12 hv12 => ?_)
              refine vx_iinc hC (lv1 := [(2, xa_i (kd + 1)), (1, xa_r 1), (0, xa_r 8)]) 0 rfl (by decide) rfl eX6_become_75 ?_
              refine vx_goto hC (tgt := 58) (by decide) eX6_become_78 ?_
              exact ih (kd + 1) v12 (by omega) (by intro z; rw [itr_s (by omega), hv12]; by_cases e9 : z = kd; (rw [e9, xu_s, if_pos rfl]); (rw [xu_n _ _ _ _ (by omega), if_neg e9]; exact h1D z)) (fun k hk => by rw [hv12, xu_c _ _ _ _ hk]; exact h2D k hk) (by omega)
        exact LP58 5 0 C (by omega) (fun z => by rw [itr_0]; exact congrFun (h2C 11 (by decide)) z) (fun _ _ => rfl) (by omega)
      · refine vx_aload_n hC 2 rfl eX6_become_30 ?_
        refine vx_gr hC 2 (ot_8 hOC) lf_X6_17 rfl (or_8_2 hOC) eX6_become_31 ?_
        refine vx_iload_n hC 0 rfl eX6_become_34 ?_
        refine vx_aload_n hC 1 rfl eX6_become_35 ?_
        refine vx_gr hC 2 (ot_1 hOC) lf_X6_17 rfl (or_1_2 hOC) eX6_become_36 ?_
        refine vx_iload_n hC 0 rfl eX6_become_39 ?_
        refine vx_aaload18 hC (ot_3 hOC) (by omega) (by omega) (show _ = vr 3 kc from congrFun (h2C 3 (by decide)) _) eX6_become_40 ?_
        refine vx_aastore18 hC (ot_10 hOC) (by omega) (by omega) (fun q hq => hv9.t (Or.inl hq)) eX6_become_41 ?_
        refine vx_vr (fun v13 hv13 => ?_)
        refine vx_iinc hC (lv1 := [(2, xa_i (kc + 1)), (1, xa_r 1), (0, xa_r 8)]) 0 rfl (by decide) rfl eX6_become_42 ?_
        refine vx_goto hC (tgt := 25) (by decide) eX6_become_45 ?_
        exact ih (kc + 1) v13 (by omega) (by intro z; rw [itr_s (by omega), hv13]; by_cases e9 : z = kc; (rw [e9, xu_s, if_pos rfl]); (rw [xu_n _ _ _ _ (by omega), if_neg e9]; exact h1C z)) (fun k hk => by rw [hv13, xu_c _ _ _ _ hk]; exact h2C k hk) (by omega)
  refine vx_lv (lv1 := [(2, xa_i 0), (1, xa_r 1), (0, xa_r 8)]) [0, 2, 1] rfl ?_
  exact LP25 6 0 vr (by omega) (fun z => by rw [itr_0]) (fun _ _ => rfl) (by omega)
set_option maxHeartbeats 4000000 in
set_option maxRecDepth 100000 in
theorem kX6_become_1_8 (G : xg_T) (d : Nat) (n : Nat) (tau : Nat → Nat × Nat) (vi vl : Nat → Int → Int) (vr : Nat → Int → Option Nat) (hO : xo n tau vr) (hv9 : rvl n tau vr) (hy9 : byt (vi 9)) : xm G yX6_become cX6_become 3 none (d + 2) 0 0 [xa_r 1, xa_r 8] n tau vi vl vr (xp_v (fun n1 t1 a1 b1 c1 => n = n1 ∧ tau = t1 ∧ vl = b1 ∧ a1 1 1 = vi 8 1 ∧ a1 1 3 = vi 8 3 ∧ a1 1 7 = vi 8 7 ∧ a1 1 8 = vi 8 8 ∧ a1 1 9 = vi 8 9 ∧ a1 1 10 = vi 8 10 ∧ ag 100 (a1 2) (vi 9) ∧ ag 4 (a1 5) (vi 12) ∧ ag 16 (a1 6) (vi 13) ∧ (∀ k, (¬ k = 1 ∧ ¬ k = 2 ∧ ¬ k = 5 ∧ ¬ k = 6) → a1 k = vi k) ∧ (∀ z, c1 3 z = itr (vr 10) (vr 3) 5 z) ∧ (∀ z, c1 4 z = itr (vr 11) (vr 4) 4 z) ∧ ∀ k, ¬ (k = 3 ∨ k = 4) → c1 k = vr k)) := by
  refine xm.of (lv := [(0, xa_r 1), (1, xa_r 8)]) (by decide) (Nat.le_of_ble_eq_true rfl) rfl (fun K hC hM hRm => ?_)
  refine vx_aload_n hC 1 rfl eX6_become_0 ?_
  refine vx_gr hC 0 (ot_8 hO) lf_X6_9 rfl (or_8_0 hO) eX6_become_1 ?_
  refine vx_iconst hC eX6_become_4 ?_
  refine vx_aload_n hC 0 rfl eX6_become_5 ?_
  refine vx_gr hC 0 (ot_1 hO) lf_X6_9 rfl (or_1_0 hO) eX6_become_6 ?_
  refine vx_iconst hC eX6_become_9 ?_
  refine vx_bipush hC (by decide) eX6_become_10 ?_
  refine vx_copyB hC (ot_9 hO) (ot_2 hO) (by decide) (by omega) hy9 ly_X6_37 hRm (by omega) (Nat.le_of_ble_eq_true rfl) eX6_become_12 ?_
  refine vx_vi (fun v1 hv1 => ?_)
  have whv1_1_1 : v1 1 = vi 1 := by rw [hv1]; exact if_neg (by decide)
  have hv1_1_1 : v1 1 1 = vi 1 1 := by rw [whv1_1_1]
  have whv1_1_3 : v1 1 = vi 1 := by rw [hv1]; exact if_neg (by decide)
  have hv1_1_3 : v1 1 3 = vi 1 3 := by rw [whv1_1_3]
  have whv1_1_7 : v1 1 = vi 1 := by rw [hv1]; exact if_neg (by decide)
  have hv1_1_7 : v1 1 7 = vi 1 7 := by rw [whv1_1_7]
  have whv1_1_8 : v1 1 = vi 1 := by rw [hv1]; exact if_neg (by decide)
  have hv1_1_8 : v1 1 8 = vi 1 8 := by rw [whv1_1_8]
  have whv1_1_9 : v1 1 = vi 1 := by rw [hv1]; exact if_neg (by decide)
  have hv1_1_9 : v1 1 9 = vi 1 9 := by rw [whv1_1_9]
  have whv1_1_10 : v1 1 = vi 1 := by rw [hv1]; exact if_neg (by decide)
  have hv1_1_10 : v1 1 10 = vi 1 10 := by rw [whv1_1_10]
  have whv1_8_1 : v1 8 = vi 8 := by rw [hv1]; exact if_neg (by decide)
  have hv1_8_1 : v1 8 1 = vi 8 1 := by rw [whv1_8_1]
  have whv1_8_3 : v1 8 = vi 8 := by rw [hv1]; exact if_neg (by decide)
  have hv1_8_3 : v1 8 3 = vi 8 3 := by rw [whv1_8_3]
  have whv1_8_7 : v1 8 = vi 8 := by rw [hv1]; exact if_neg (by decide)
  have hv1_8_7 : v1 8 7 = vi 8 7 := by rw [whv1_8_7]
  have whv1_8_8 : v1 8 = vi 8 := by rw [hv1]; exact if_neg (by decide)
  have hv1_8_8 : v1 8 8 = vi 8 8 := by rw [whv1_8_8]
  have whv1_8_9 : v1 8 = vi 8 := by rw [hv1]; exact if_neg (by decide)
  have hv1_8_9 : v1 8 9 = vi 8 9 := by rw [whv1_8_9]
  have whv1_8_10 : v1 8 = vi 8 := by rw [hv1]; exact if_neg (by decide)
  have hv1_8_10 : v1 8 10 = vi 8 10 := by rw [whv1_8_10]
  have whv1_9 : v1 9 = vi 9 := by rw [hv1]; exact if_neg (by decide)
  have hv1_9 : ag 100 (v1 9) (vi 9) := by rw [whv1_9]; exact (ag_i _ _)
  have whv1_2 : v1 2 = xcp (vi 9) (vi 2) 0 0 100 := by rw [hv1]; exact if_pos rfl
  have hv1_2 : ag 100 (v1 2) (vi 9) := by rw [whv1_2]; exact xcp_ag (ag_i _ _)
  have whv1_12 : v1 12 = vi 12 := by rw [hv1]; exact if_neg (by decide)
  have hv1_12 : ag 4 (v1 12) (vi 12) := by rw [whv1_12]; exact (ag_i _ _)
  have whv1_5 : v1 5 = vi 5 := by rw [hv1]; exact if_neg (by decide)
  have hv1_5 : v1 5 = vi 5 := by rw [whv1_5]
  have whv1_13 : v1 13 = vi 13 := by rw [hv1]; exact if_neg (by decide)
  have hv1_13 : ag 16 (v1 13) (vi 13) := by rw [whv1_13]; exact (ag_i _ _)
  have whv1_6 : v1 6 = vi 6 := by rw [hv1]; exact if_neg (by decide)
  have hv1_6 : v1 6 = vi 6 := by rw [whv1_6]
  have frv1 : ∀ k : Nat, (¬ k = 1 ∧ ¬ k = 2 ∧ ¬ k = 5 ∧ ¬ k = 6) → v1 k = vi k := fun k hk => by rw [hv1]; show (if k = 2 then _ else _) = _; rw [if_neg (by omega)]
  refine vx_aload_n hC 0 rfl eX6_become_15 ?_
  refine vx_aload_n hC 1 rfl eX6_become_16 ?_
  refine vx_gi hC 1 (ot_8 hO) lf_X6_43 rfl eX6_become_17 ?_
  refine vx_eqi hv1_8_1 ?_
  refine vx_pi hC 1 (ot_1 hO) lp_X6_43 rfl (Or.inl rfl) (Or.inl rfl) eX6_become_20 ?_
  refine vx_vi (fun v2 hv2 => ?_)
  have hv2_1_1 : v2 1 1 = (vi 8 1) := by rw [hv2, xu_k, fu_s]
  have hv2_1_3 : v2 1 3 = vi 1 3 := by rw [hv2, xu_k, fu_n _ _ _ (by decide), hv1_1_3]
  have hv2_1_7 : v2 1 7 = vi 1 7 := by rw [hv2, xu_k, fu_n _ _ _ (by decide), hv1_1_7]
  have hv2_1_8 : v2 1 8 = vi 1 8 := by rw [hv2, xu_k, fu_n _ _ _ (by decide), hv1_1_8]
  have hv2_1_9 : v2 1 9 = vi 1 9 := by rw [hv2, xu_k, fu_n _ _ _ (by decide), hv1_1_9]
  have hv2_1_10 : v2 1 10 = vi 1 10 := by rw [hv2, xu_k, fu_n _ _ _ (by decide), hv1_1_10]
  have hv2_8_1 : v2 8 1 = vi 8 1 := by rw [hv2, xu_c _ _ _ _ (by decide), hv1_8_1]
  have hv2_8_3 : v2 8 3 = vi 8 3 := by rw [hv2, xu_c _ _ _ _ (by decide), hv1_8_3]
  have hv2_8_7 : v2 8 7 = vi 8 7 := by rw [hv2, xu_c _ _ _ _ (by decide), hv1_8_7]
  have hv2_8_8 : v2 8 8 = vi 8 8 := by rw [hv2, xu_c _ _ _ _ (by decide), hv1_8_8]
  have hv2_8_9 : v2 8 9 = vi 8 9 := by rw [hv2, xu_c _ _ _ _ (by decide), hv1_8_9]
  have hv2_8_10 : v2 8 10 = vi 8 10 := by rw [hv2, xu_c _ _ _ _ (by decide), hv1_8_10]
  have hv2_9 : ag 100 (v2 9) (vi 9) := by rw [hv2, xu_c _ _ _ _ (by decide)]; exact hv1_9
  have hv2_2 : ag 100 (v2 2) (vi 9) := by rw [hv2, xu_c _ _ _ _ (by decide)]; exact hv1_2
  have hv2_12 : ag 4 (v2 12) (vi 12) := by rw [hv2, xu_c _ _ _ _ (by decide)]; exact hv1_12
  have hv2_5 : v2 5 = vi 5 := by rw [hv2, xu_c _ _ _ _ (by decide), hv1_5]
  have hv2_13 : ag 16 (v2 13) (vi 13) := by rw [hv2, xu_c _ _ _ _ (by decide)]; exact hv1_13
  have hv2_6 : v2 6 = vi 6 := by rw [hv2, xu_c _ _ _ _ (by decide), hv1_6]
  have frv2 : ∀ k : Nat, (¬ k = 1 ∧ ¬ k = 2 ∧ ¬ k = 5 ∧ ¬ k = 6) → v2 k = vi k := fun k hk => by rw [hv2, xu_c _ _ _ _ (by omega)]; exact frv1 k hk
  refine vx_iconst hC eX6_become_23 ?_
  refine vx_istore_n hC (lv1 := [(2, xa_i 0), (0, xa_r 1), (1, xa_r 8)]) (by decide) rfl eX6_become_24 ?_
  have LP25 : ∀ (j : Nat) (kc : Int) (C : Nat → Int → Option Nat) (hiC : 0 ≤ kc ∧ kc ≤ 5) (h1C : ∀ z, C 3 z = itr (vr 10) (vr 3) kc z) (h2C : ∀ k, ¬ k = 3 → C k = vr k) (hj : 5 - kc < (j : Int)), xv G K 3 (xk_Q G K (xp_v (fun n1 t1 a1 b1 c1 => n = n1 ∧ tau = t1 ∧ vl = b1 ∧ a1 1 1 = vi 8 1 ∧ a1 1 3 = vi 8 3 ∧ a1 1 7 = vi 8 7 ∧ a1 1 8 = vi 8 8 ∧ a1 1 9 = vi 8 9 ∧ a1 1 10 = vi 8 10 ∧ ag 100 (a1 2) (vi 9) ∧ ag 4 (a1 5) (vi 12) ∧ ag 16 (a1 6) (vi 13) ∧ (∀ k, (¬ k = 1 ∧ ¬ k = 2 ∧ ¬ k = 5 ∧ ¬ k = 6) → a1 k = vi k) ∧ (∀ z, c1 3 z = itr (vr 10) (vr 3) 5 z) ∧ (∀ z, c1 4 z = itr (vr 11) (vr 4) 4 z) ∧ ∀ k, ¬ (k = 3 ∨ k = 4) → c1 k = vr k)) 0 0) 0 0 n tau v2 vl C 25 [(2, xa_i kc), (1, xa_r 8), (0, xa_r 1)] [] := by
    intro j
    induction j with
    | zero => intro kc C hiC h1C h2C hj; exfalso; omega
    | succ j ih =>
      intro kc C hiC h1C h2C hj
      have hOC : xo n tau C := xo_r hO (fun k hk => by rw [h2C k (by omega)])
      refine vx_iload_n hC 0 rfl eX6_become_25 ?_
      refine vx_iconst hC eX6_become_26 ?_
      refine vx_icmp_ge hC (tgt := 48) (by omega) (by decide) eX6_become_27 (fun c3 => ?_) (fun c3 => ?_)
      · refine vx_aload_n hC 2 rfl eX6_become_48 ?_
        refine vx_aload_n hC 1 rfl eX6_become_49 ?_
        refine vx_gi hC 3 (ot_8 hOC) lf_X6_47 rfl eX6_become_50 ?_
        refine vx_eqi hv2_8_3 ?_
        refine vx_pi hC 3 (ot_1 hOC) lp_X6_47 rfl (Or.inl rfl) (Or.inl rfl) eX6_become_53 ?_
        refine vx_vi (fun v4 hv4 => ?_)
        have hv4_1_1 : v4 1 1 = (vi 8 1) := by rw [hv4, xu_k, fu_n _ _ _ (by decide), hv2_1_1]
        have hv4_1_3 : v4 1 3 = (vi 8 3) := by rw [hv4, xu_k, fu_s]
        have hv4_1_7 : v4 1 7 = vi 1 7 := by rw [hv4, xu_k, fu_n _ _ _ (by decide), hv2_1_7]
        have hv4_1_8 : v4 1 8 = vi 1 8 := by rw [hv4, xu_k, fu_n _ _ _ (by decide), hv2_1_8]
        have hv4_1_9 : v4 1 9 = vi 1 9 := by rw [hv4, xu_k, fu_n _ _ _ (by decide), hv2_1_9]
        have hv4_1_10 : v4 1 10 = vi 1 10 := by rw [hv4, xu_k, fu_n _ _ _ (by decide), hv2_1_10]
        have hv4_8_1 : v4 8 1 = vi 8 1 := by rw [hv4, xu_c _ _ _ _ (by decide), hv2_8_1]
        have hv4_8_3 : v4 8 3 = vi 8 3 := by rw [hv4, xu_c _ _ _ _ (by decide), hv2_8_3]
        have hv4_8_7 : v4 8 7 = vi 8 7 := by rw [hv4, xu_c _ _ _ _ (by decide), hv2_8_7]
        have hv4_8_8 : v4 8 8 = vi 8 8 := by rw [hv4, xu_c _ _ _ _ (by decide), hv2_8_8]
        have hv4_8_9 : v4 8 9 = vi 8 9 := by rw [hv4, xu_c _ _ _ _ (by decide), hv2_8_9]
        have hv4_8_10 : v4 8 10 = vi 8 10 := by rw [hv4, xu_c _ _ _ _ (by decide), hv2_8_10]
        have hv4_9 : ag 100 (v4 9) (vi 9) := by rw [hv4, xu_c _ _ _ _ (by decide)]; exact hv2_9
        have hv4_2 : ag 100 (v4 2) (vi 9) := by rw [hv4, xu_c _ _ _ _ (by decide)]; exact hv2_2
        have hv4_12 : ag 4 (v4 12) (vi 12) := by rw [hv4, xu_c _ _ _ _ (by decide)]; exact hv2_12
        have hv4_5 : v4 5 = vi 5 := by rw [hv4, xu_c _ _ _ _ (by decide), hv2_5]
        have hv4_13 : ag 16 (v4 13) (vi 13) := by rw [hv4, xu_c _ _ _ _ (by decide)]; exact hv2_13
        have hv4_6 : v4 6 = vi 6 := by rw [hv4, xu_c _ _ _ _ (by decide), hv2_6]
        have frv4 : ∀ k : Nat, (¬ k = 1 ∧ ¬ k = 2 ∧ ¬ k = 5 ∧ ¬ k = 6) → v4 k = vi k := fun k hk => by rw [hv4, xu_c _ _ _ _ (by omega)]; exact frv2 k hk
        refine vx_iconst hC eX6_become_56 ?_
        refine vx_istore_n hC (lv1 := [(2, xa_i 0), (1, xa_r 8), (0, xa_r 1)]) (by decide) rfl eX6_become_57 ?_
        have LP58 : ∀ (j : Nat) (kd : Int) (D : Nat → Int → Option Nat) (hiD : 0 ≤ kd ∧ kd ≤ 4) (h1D : ∀ z, D 4 z = itr (vr 11) (vr 4) kd z) (h2D : ∀ k, ¬ k = 4 → D k = C k) (hj : 4 - kd < (j : Int)), xv G K 3 (xk_Q G K (xp_v (fun n1 t1 a1 b1 c1 => n = n1 ∧ tau = t1 ∧ vl = b1 ∧ a1 1 1 = vi 8 1 ∧ a1 1 3 = vi 8 3 ∧ a1 1 7 = vi 8 7 ∧ a1 1 8 = vi 8 8 ∧ a1 1 9 = vi 8 9 ∧ a1 1 10 = vi 8 10 ∧ ag 100 (a1 2) (vi 9) ∧ ag 4 (a1 5) (vi 12) ∧ ag 16 (a1 6) (vi 13) ∧ (∀ k, (¬ k = 1 ∧ ¬ k = 2 ∧ ¬ k = 5 ∧ ¬ k = 6) → a1 k = vi k) ∧ (∀ z, c1 3 z = itr (vr 10) (vr 3) 5 z) ∧ (∀ z, c1 4 z = itr (vr 11) (vr 4) 4 z) ∧ ∀ k, ¬ (k = 3 ∨ k = 4) → c1 k = vr k)) 0 0) 0 0 n tau v4 vl D 58 [(2, xa_i kd), (1, xa_r 8), (0, xa_r 1)] [] := by
          intro j
          induction j with
          | zero => intro kd D hiD h1D h2D hj; exfalso; omega
          | succ j ih =>
            intro kd D hiD h1D h2D hj
            have hOD : xo n tau D := xo_r hO (fun k hk => by rw [h2D k (by omega)]; exact h2C k (by omega))
            refine vx_iload_n hC 0 rfl eX6_become_58 ?_
            refine vx_iconst hC eX6_become_59 ?_
            refine vx_icmp_ge hC (tgt := 81) (by omega) (by decide) eX6_become_60 (fun c5 => ?_) (fun c5 => ?_)
            · refine vx_aload_n hC 1 rfl eX6_become_81 ?_
              refine vx_gr hC 5 (ot_8 hOD) lf_X6_27 rfl (or_8_5 hOD) eX6_become_82 ?_
              refine vx_iconst hC eX6_become_85 ?_
              refine vx_aload_n hC 2 rfl eX6_become_86 ?_
              refine vx_gr hC 5 (ot_1 hOD) lf_X6_27 rfl (or_1_5 hOD) eX6_become_87 ?_
              refine vx_iconst hC eX6_become_90 ?_
              refine vx_iconst hC eX6_become_91 ?_
              refine vx_copyI hC (ot_12 hOD) (ot_5 hOD) (by decide) (by omega) ly_X6_37 hRm (by omega) (Nat.le_of_ble_eq_true rfl) eX6_become_92 ?_
              refine vx_vi (fun v6 hv6 => ?_)
              have whv6_1_1 : v6 1 = v4 1 := by rw [hv6]; exact if_neg (by decide)
              have hv6_1_1 : v6 1 1 = (vi 8 1) := by rw [whv6_1_1]; exact hv4_1_1
              have whv6_1_3 : v6 1 = v4 1 := by rw [hv6]; exact if_neg (by decide)
              have hv6_1_3 : v6 1 3 = (vi 8 3) := by rw [whv6_1_3]; exact hv4_1_3
              have whv6_1_7 : v6 1 = v4 1 := by rw [hv6]; exact if_neg (by decide)
              have hv6_1_7 : v6 1 7 = vi 1 7 := by rw [whv6_1_7]; exact hv4_1_7
              have whv6_1_8 : v6 1 = v4 1 := by rw [hv6]; exact if_neg (by decide)
              have hv6_1_8 : v6 1 8 = vi 1 8 := by rw [whv6_1_8]; exact hv4_1_8
              have whv6_1_9 : v6 1 = v4 1 := by rw [hv6]; exact if_neg (by decide)
              have hv6_1_9 : v6 1 9 = vi 1 9 := by rw [whv6_1_9]; exact hv4_1_9
              have whv6_1_10 : v6 1 = v4 1 := by rw [hv6]; exact if_neg (by decide)
              have hv6_1_10 : v6 1 10 = vi 1 10 := by rw [whv6_1_10]; exact hv4_1_10
              have whv6_8_1 : v6 8 = v4 8 := by rw [hv6]; exact if_neg (by decide)
              have hv6_8_1 : v6 8 1 = vi 8 1 := by rw [whv6_8_1]; exact hv4_8_1
              have whv6_8_3 : v6 8 = v4 8 := by rw [hv6]; exact if_neg (by decide)
              have hv6_8_3 : v6 8 3 = vi 8 3 := by rw [whv6_8_3]; exact hv4_8_3
              have whv6_8_7 : v6 8 = v4 8 := by rw [hv6]; exact if_neg (by decide)
              have hv6_8_7 : v6 8 7 = vi 8 7 := by rw [whv6_8_7]; exact hv4_8_7
              have whv6_8_8 : v6 8 = v4 8 := by rw [hv6]; exact if_neg (by decide)
              have hv6_8_8 : v6 8 8 = vi 8 8 := by rw [whv6_8_8]; exact hv4_8_8
              have whv6_8_9 : v6 8 = v4 8 := by rw [hv6]; exact if_neg (by decide)
              have hv6_8_9 : v6 8 9 = vi 8 9 := by rw [whv6_8_9]; exact hv4_8_9
              have whv6_8_10 : v6 8 = v4 8 := by rw [hv6]; exact if_neg (by decide)
              have hv6_8_10 : v6 8 10 = vi 8 10 := by rw [whv6_8_10]; exact hv4_8_10
              have whv6_9 : v6 9 = v4 9 := by rw [hv6]; exact if_neg (by decide)
              have hv6_9 : ag 100 (v6 9) (vi 9) := by rw [whv6_9]; exact hv4_9
              have whv6_2 : v6 2 = v4 2 := by rw [hv6]; exact if_neg (by decide)
              have hv6_2 : ag 100 (v6 2) (vi 9) := by rw [whv6_2]; exact hv4_2
              have whv6_12 : v6 12 = v4 12 := by rw [hv6]; exact if_neg (by decide)
              have hv6_12 : ag 4 (v6 12) (vi 12) := by rw [whv6_12]; exact hv4_12
              have whv6_5 : v6 5 = xcp (v4 12) (v4 5) 0 0 4 := by rw [hv6]; exact if_pos rfl
              have hv6_5 : ag 4 (v6 5) (vi 12) := by rw [whv6_5]; exact xcp_ag hv4_12
              have whv6_13 : v6 13 = v4 13 := by rw [hv6]; exact if_neg (by decide)
              have hv6_13 : ag 16 (v6 13) (vi 13) := by rw [whv6_13]; exact hv4_13
              have whv6_6 : v6 6 = v4 6 := by rw [hv6]; exact if_neg (by decide)
              have hv6_6 : v6 6 = vi 6 := by rw [whv6_6, hv4_6]
              have frv6 : ∀ k : Nat, (¬ k = 1 ∧ ¬ k = 2 ∧ ¬ k = 5 ∧ ¬ k = 6) → v6 k = vi k := fun k hk => by rw [hv6]; show (if k = 5 then _ else _) = _; rw [if_neg (by omega)]; exact frv4 k hk
              refine vx_aload_n hC 1 rfl eX6_become_95 ?_
              refine vx_gr hC 6 (ot_8 hOD) lf_X6_31 rfl (or_8_6 hOD) eX6_become_96 ?_
              refine vx_iconst hC eX6_become_99 ?_
              refine vx_aload_n hC 2 rfl eX6_become_100 ?_
              refine vx_gr hC 6 (ot_1 hOD) lf_X6_31 rfl (or_1_6 hOD) eX6_become_101 ?_
              refine vx_iconst hC eX6_become_104 ?_
              refine vx_bipush hC (by decide) eX6_become_105 ?_
              refine vx_copyI hC (ot_13 hOD) (ot_6 hOD) (by decide) (by omega) ly_X6_37 hRm (by omega) (Nat.le_of_ble_eq_true rfl) eX6_become_107 ?_
              refine vx_vi (fun v7 hv7 => ?_)
              have whv7_1_1 : v7 1 = v6 1 := by rw [hv7]; exact if_neg (by decide)
              have hv7_1_1 : v7 1 1 = (vi 8 1) := by rw [whv7_1_1]; exact hv6_1_1
              have whv7_1_3 : v7 1 = v6 1 := by rw [hv7]; exact if_neg (by decide)
              have hv7_1_3 : v7 1 3 = (vi 8 3) := by rw [whv7_1_3]; exact hv6_1_3
              have whv7_1_7 : v7 1 = v6 1 := by rw [hv7]; exact if_neg (by decide)
              have hv7_1_7 : v7 1 7 = vi 1 7 := by rw [whv7_1_7]; exact hv6_1_7
              have whv7_1_8 : v7 1 = v6 1 := by rw [hv7]; exact if_neg (by decide)
              have hv7_1_8 : v7 1 8 = vi 1 8 := by rw [whv7_1_8]; exact hv6_1_8
              have whv7_1_9 : v7 1 = v6 1 := by rw [hv7]; exact if_neg (by decide)
              have hv7_1_9 : v7 1 9 = vi 1 9 := by rw [whv7_1_9]; exact hv6_1_9
              have whv7_1_10 : v7 1 = v6 1 := by rw [hv7]; exact if_neg (by decide)
              have hv7_1_10 : v7 1 10 = vi 1 10 := by rw [whv7_1_10]; exact hv6_1_10
              have whv7_8_1 : v7 8 = v6 8 := by rw [hv7]; exact if_neg (by decide)
              have hv7_8_1 : v7 8 1 = vi 8 1 := by rw [whv7_8_1]; exact hv6_8_1
              have whv7_8_3 : v7 8 = v6 8 := by rw [hv7]; exact if_neg (by decide)
              have hv7_8_3 : v7 8 3 = vi 8 3 := by rw [whv7_8_3]; exact hv6_8_3
              have whv7_8_7 : v7 8 = v6 8 := by rw [hv7]; exact if_neg (by decide)
              have hv7_8_7 : v7 8 7 = vi 8 7 := by rw [whv7_8_7]; exact hv6_8_7
              have whv7_8_8 : v7 8 = v6 8 := by rw [hv7]; exact if_neg (by decide)
              have hv7_8_8 : v7 8 8 = vi 8 8 := by rw [whv7_8_8]; exact hv6_8_8
              have whv7_8_9 : v7 8 = v6 8 := by rw [hv7]; exact if_neg (by decide)
              have hv7_8_9 : v7 8 9 = vi 8 9 := by rw [whv7_8_9]; exact hv6_8_9
              have whv7_8_10 : v7 8 = v6 8 := by rw [hv7]; exact if_neg (by decide)
              have hv7_8_10 : v7 8 10 = vi 8 10 := by rw [whv7_8_10]; exact hv6_8_10
              have whv7_9 : v7 9 = v6 9 := by rw [hv7]; exact if_neg (by decide)
              have hv7_9 : ag 100 (v7 9) (vi 9) := by rw [whv7_9]; exact hv6_9
              have whv7_2 : v7 2 = v6 2 := by rw [hv7]; exact if_neg (by decide)
              have hv7_2 : ag 100 (v7 2) (vi 9) := by rw [whv7_2]; exact hv6_2
              have whv7_12 : v7 12 = v6 12 := by rw [hv7]; exact if_neg (by decide)
              have hv7_12 : ag 4 (v7 12) (vi 12) := by rw [whv7_12]; exact hv6_12
              have whv7_5 : v7 5 = v6 5 := by rw [hv7]; exact if_neg (by decide)
              have hv7_5 : ag 4 (v7 5) (vi 12) := by rw [whv7_5]; exact hv6_5
              have whv7_13 : v7 13 = v6 13 := by rw [hv7]; exact if_neg (by decide)
              have hv7_13 : ag 16 (v7 13) (vi 13) := by rw [whv7_13]; exact hv6_13
              have whv7_6 : v7 6 = xcp (v6 13) (v6 6) 0 0 16 := by rw [hv7]; exact if_pos rfl
              have hv7_6 : ag 16 (v7 6) (vi 13) := by rw [whv7_6]; exact xcp_ag hv6_13
              have frv7 : ∀ k : Nat, (¬ k = 1 ∧ ¬ k = 2 ∧ ¬ k = 5 ∧ ¬ k = 6) → v7 k = vi k := fun k hk => by rw [hv7]; show (if k = 6 then _ else _) = _; rw [if_neg (by omega)]; exact frv6 k hk
              refine vx_aload_n hC 2 rfl eX6_become_110 ?_
              refine vx_aload_n hC 1 rfl eX6_become_111 ?_
              refine vx_gi hC 7 (ot_8 hOD) lf_X6_50 rfl eX6_become_112 ?_
              refine vx_eqi hv7_8_7 ?_
              refine vx_pi hC 7 (ot_1 hOD) lp_X6_50 rfl (Or.inl rfl) (Or.inl rfl) eX6_become_115 ?_
              refine vx_vi (fun v8 hv8 => ?_)
              have hv8_1_1 : v8 1 1 = (vi 8 1) := by rw [hv8, xu_k, fu_n _ _ _ (by decide), hv7_1_1]
              have hv8_1_3 : v8 1 3 = (vi 8 3) := by rw [hv8, xu_k, fu_n _ _ _ (by decide), hv7_1_3]
              have hv8_1_7 : v8 1 7 = (vi 8 7) := by rw [hv8, xu_k, fu_s]
              have hv8_1_8 : v8 1 8 = vi 1 8 := by rw [hv8, xu_k, fu_n _ _ _ (by decide), hv7_1_8]
              have hv8_1_9 : v8 1 9 = vi 1 9 := by rw [hv8, xu_k, fu_n _ _ _ (by decide), hv7_1_9]
              have hv8_1_10 : v8 1 10 = vi 1 10 := by rw [hv8, xu_k, fu_n _ _ _ (by decide), hv7_1_10]
              have hv8_8_1 : v8 8 1 = vi 8 1 := by rw [hv8, xu_c _ _ _ _ (by decide), hv7_8_1]
              have hv8_8_3 : v8 8 3 = vi 8 3 := by rw [hv8, xu_c _ _ _ _ (by decide), hv7_8_3]
              have hv8_8_7 : v8 8 7 = vi 8 7 := by rw [hv8, xu_c _ _ _ _ (by decide), hv7_8_7]
              have hv8_8_8 : v8 8 8 = vi 8 8 := by rw [hv8, xu_c _ _ _ _ (by decide), hv7_8_8]
              have hv8_8_9 : v8 8 9 = vi 8 9 := by rw [hv8, xu_c _ _ _ _ (by decide), hv7_8_9]
              have hv8_8_10 : v8 8 10 = vi 8 10 := by rw [hv8, xu_c _ _ _ _ (by decide), hv7_8_10]
              have hv8_9 : ag 100 (v8 9) (vi 9) := by rw [hv8, xu_c _ _ _ _ (by decide)]; exact hv7_9
              have hv8_2 : ag 100 (v8 2) (vi 9) := by rw [hv8, xu_c _ _ _ _ (by decide)]; exact hv7_2
              have hv8_12 : ag 4 (v8 12) (vi 12) := by rw [hv8, xu_c _ _ _ _ (by decide)]; exact hv7_12
              have hv8_5 : ag 4 (v8 5) (vi 12) := by rw [hv8, xu_c _ _ _ _ (by decide)]; exact hv7_5
              have hv8_13 : ag 16 (v8 13) (vi 13) := by rw [hv8, xu_c _ _ _ _ (by decide)]; exact hv7_13
              have hv8_6 : ag 16 (v8 6) (vi 13) := by rw [hv8, xu_c _ _ _ _ (by decide)]; exact hv7_6
              have frv8 : ∀ k : Nat, (¬ k = 1 ∧ ¬ k = 2 ∧ ¬ k = 5 ∧ ¬ k = 6) → v8 k = vi k := fun k hk => by rw [hv8, xu_c _ _ _ _ (by omega)]; exact frv7 k hk
              refine vx_aload_n hC 2 rfl eX6_become_118 ?_
              refine vx_aload_n hC 1 rfl eX6_become_119 ?_
              refine vx_gi hC 8 (ot_8 hOD) lf_X6_53 rfl eX6_become_120 ?_
              refine vx_eqi hv8_8_8 ?_
              refine vx_pi hC 8 (ot_1 hOD) lp_X6_53 rfl (Or.inl rfl) (Or.inl rfl) eX6_become_123 ?_
              refine vx_vi (fun v9 hv9 => ?_)
              have hv9_1_1 : v9 1 1 = (vi 8 1) := by rw [hv9, xu_k, fu_n _ _ _ (by decide), hv8_1_1]
              have hv9_1_3 : v9 1 3 = (vi 8 3) := by rw [hv9, xu_k, fu_n _ _ _ (by decide), hv8_1_3]
              have hv9_1_7 : v9 1 7 = (vi 8 7) := by rw [hv9, xu_k, fu_n _ _ _ (by decide), hv8_1_7]
              have hv9_1_8 : v9 1 8 = (vi 8 8) := by rw [hv9, xu_k, fu_s]
              have hv9_1_9 : v9 1 9 = vi 1 9 := by rw [hv9, xu_k, fu_n _ _ _ (by decide), hv8_1_9]
              have hv9_1_10 : v9 1 10 = vi 1 10 := by rw [hv9, xu_k, fu_n _ _ _ (by decide), hv8_1_10]
              have hv9_8_1 : v9 8 1 = vi 8 1 := by rw [hv9, xu_c _ _ _ _ (by decide), hv8_8_1]
              have hv9_8_3 : v9 8 3 = vi 8 3 := by rw [hv9, xu_c _ _ _ _ (by decide), hv8_8_3]
              have hv9_8_7 : v9 8 7 = vi 8 7 := by rw [hv9, xu_c _ _ _ _ (by decide), hv8_8_7]
              have hv9_8_8 : v9 8 8 = vi 8 8 := by rw [hv9, xu_c _ _ _ _ (by decide), hv8_8_8]
              have hv9_8_9 : v9 8 9 = vi 8 9 := by rw [hv9, xu_c _ _ _ _ (by decide), hv8_8_9]
              have hv9_8_10 : v9 8 10 = vi 8 10 := by rw [hv9, xu_c _ _ _ _ (by decide), hv8_8_10]
              have hv9_9 : ag 100 (v9 9) (vi 9) := by rw [hv9, xu_c _ _ _ _ (by decide)]; exact hv8_9
              have hv9_2 : ag 100 (v9 2) (vi 9) := by rw [hv9, xu_c _ _ _ _ (by decide)]; exact hv8_2
              have hv9_12 : ag 4 (v9 12) (vi 12) := by rw [hv9, xu_c _ _ _ _ (by decide)]; exact hv8_12
              have hv9_5 : ag 4 (v9 5) (vi 12) := by rw [hv9, xu_c _ _ _ _ (by decide)]; exact hv8_5
              have hv9_13 : ag 16 (v9 13) (vi 13) := by rw [hv9, xu_c _ _ _ _ (by decide)]; exact hv8_13
              have hv9_6 : ag 16 (v9 6) (vi 13) := by rw [hv9, xu_c _ _ _ _ (by decide)]; exact hv8_6
              have frv9 : ∀ k : Nat, (¬ k = 1 ∧ ¬ k = 2 ∧ ¬ k = 5 ∧ ¬ k = 6) → v9 k = vi k := fun k hk => by rw [hv9, xu_c _ _ _ _ (by omega)]; exact frv8 k hk
              refine vx_aload_n hC 2 rfl eX6_become_126 ?_
              refine vx_aload_n hC 1 rfl eX6_become_127 ?_
              refine vx_gi hC 9 (ot_8 hOD) lf_X6_56 rfl eX6_become_128 ?_
              refine vx_eqi hv9_8_9 ?_
              refine vx_pi hC 9 (ot_1 hOD) lp_X6_56 rfl (Or.inl rfl) (Or.inl rfl) eX6_become_131 ?_
              refine vx_vi (fun v10 hv10 => ?_)
              have hv10_1_1 : v10 1 1 = (vi 8 1) := by rw [hv10, xu_k, fu_n _ _ _ (by decide), hv9_1_1]
              have hv10_1_3 : v10 1 3 = (vi 8 3) := by rw [hv10, xu_k, fu_n _ _ _ (by decide), hv9_1_3]
              have hv10_1_7 : v10 1 7 = (vi 8 7) := by rw [hv10, xu_k, fu_n _ _ _ (by decide), hv9_1_7]
              have hv10_1_8 : v10 1 8 = (vi 8 8) := by rw [hv10, xu_k, fu_n _ _ _ (by decide), hv9_1_8]
              have hv10_1_9 : v10 1 9 = (vi 8 9) := by rw [hv10, xu_k, fu_s]
              have hv10_1_10 : v10 1 10 = vi 1 10 := by rw [hv10, xu_k, fu_n _ _ _ (by decide), hv9_1_10]
              have hv10_8_1 : v10 8 1 = vi 8 1 := by rw [hv10, xu_c _ _ _ _ (by decide), hv9_8_1]
              have hv10_8_3 : v10 8 3 = vi 8 3 := by rw [hv10, xu_c _ _ _ _ (by decide), hv9_8_3]
              have hv10_8_7 : v10 8 7 = vi 8 7 := by rw [hv10, xu_c _ _ _ _ (by decide), hv9_8_7]
              have hv10_8_8 : v10 8 8 = vi 8 8 := by rw [hv10, xu_c _ _ _ _ (by decide), hv9_8_8]
              have hv10_8_9 : v10 8 9 = vi 8 9 := by rw [hv10, xu_c _ _ _ _ (by decide), hv9_8_9]
              have hv10_8_10 : v10 8 10 = vi 8 10 := by rw [hv10, xu_c _ _ _ _ (by decide), hv9_8_10]
              have hv10_9 : ag 100 (v10 9) (vi 9) := by rw [hv10, xu_c _ _ _ _ (by decide)]; exact hv9_9
              have hv10_2 : ag 100 (v10 2) (vi 9) := by rw [hv10, xu_c _ _ _ _ (by decide)]; exact hv9_2
              have hv10_12 : ag 4 (v10 12) (vi 12) := by rw [hv10, xu_c _ _ _ _ (by decide)]; exact hv9_12
              have hv10_5 : ag 4 (v10 5) (vi 12) := by rw [hv10, xu_c _ _ _ _ (by decide)]; exact hv9_5
              have hv10_13 : ag 16 (v10 13) (vi 13) := by rw [hv10, xu_c _ _ _ _ (by decide)]; exact hv9_13
              have hv10_6 : ag 16 (v10 6) (vi 13) := by rw [hv10, xu_c _ _ _ _ (by decide)]; exact hv9_6
              have frv10 : ∀ k : Nat, (¬ k = 1 ∧ ¬ k = 2 ∧ ¬ k = 5 ∧ ¬ k = 6) → v10 k = vi k := fun k hk => by rw [hv10, xu_c _ _ _ _ (by omega)]; exact frv9 k hk
              refine vx_aload_n hC 2 rfl eX6_become_134 ?_
              refine vx_aload_n hC 1 rfl eX6_become_135 ?_
              refine vx_gi hC 10 (ot_8 hOD) lf_X6_59 rfl eX6_become_136 ?_
              refine vx_eqi hv10_8_10 ?_
              refine vx_pi hC 10 (ot_1 hOD) lp_X6_59 rfl (Or.inl rfl) (Or.inl rfl) eX6_become_139 ?_
              refine vx_vi (fun v11 hv11 => ?_)
              have hv11_1_1 : v11 1 1 = (vi 8 1) := by rw [hv11, xu_k, fu_n _ _ _ (by decide), hv10_1_1]
              have hv11_1_3 : v11 1 3 = (vi 8 3) := by rw [hv11, xu_k, fu_n _ _ _ (by decide), hv10_1_3]
              have hv11_1_7 : v11 1 7 = (vi 8 7) := by rw [hv11, xu_k, fu_n _ _ _ (by decide), hv10_1_7]
              have hv11_1_8 : v11 1 8 = (vi 8 8) := by rw [hv11, xu_k, fu_n _ _ _ (by decide), hv10_1_8]
              have hv11_1_9 : v11 1 9 = (vi 8 9) := by rw [hv11, xu_k, fu_n _ _ _ (by decide), hv10_1_9]
              have hv11_1_10 : v11 1 10 = (vi 8 10) := by rw [hv11, xu_k, fu_s]
              have hv11_8_1 : v11 8 1 = vi 8 1 := by rw [hv11, xu_c _ _ _ _ (by decide), hv10_8_1]
              have hv11_8_3 : v11 8 3 = vi 8 3 := by rw [hv11, xu_c _ _ _ _ (by decide), hv10_8_3]
              have hv11_8_7 : v11 8 7 = vi 8 7 := by rw [hv11, xu_c _ _ _ _ (by decide), hv10_8_7]
              have hv11_8_8 : v11 8 8 = vi 8 8 := by rw [hv11, xu_c _ _ _ _ (by decide), hv10_8_8]
              have hv11_8_9 : v11 8 9 = vi 8 9 := by rw [hv11, xu_c _ _ _ _ (by decide), hv10_8_9]
              have hv11_8_10 : v11 8 10 = vi 8 10 := by rw [hv11, xu_c _ _ _ _ (by decide), hv10_8_10]
              have hv11_9 : ag 100 (v11 9) (vi 9) := by rw [hv11, xu_c _ _ _ _ (by decide)]; exact hv10_9
              have hv11_2 : ag 100 (v11 2) (vi 9) := by rw [hv11, xu_c _ _ _ _ (by decide)]; exact hv10_2
              have hv11_12 : ag 4 (v11 12) (vi 12) := by rw [hv11, xu_c _ _ _ _ (by decide)]; exact hv10_12
              have hv11_5 : ag 4 (v11 5) (vi 12) := by rw [hv11, xu_c _ _ _ _ (by decide)]; exact hv10_5
              have hv11_13 : ag 16 (v11 13) (vi 13) := by rw [hv11, xu_c _ _ _ _ (by decide)]; exact hv10_13
              have hv11_6 : ag 16 (v11 6) (vi 13) := by rw [hv11, xu_c _ _ _ _ (by decide)]; exact hv10_6
              have frv11 : ∀ k : Nat, (¬ k = 1 ∧ ¬ k = 2 ∧ ¬ k = 5 ∧ ¬ k = 6) → v11 k = vi k := fun k hk => by rw [hv11, xu_c _ _ _ _ (by omega)]; exact frv10 k hk
              exact vx_vret hC hM eX6_become_142 (⟨rfl, rfl, rfl, rfl, hv11_1_1, hv11_1_3, hv11_1_7, hv11_1_8, hv11_1_9, hv11_1_10, hv11_2, hv11_5, hv11_6, frv11, (fun z => by rw [h2D 3 (by decide), h1C]; rw [show kc = 5 by omega]), (fun z => by rw [h1D]; rw [show kd = 4 by omega]), fun k hk => by rw [h2D k (by omega)]; exact h2C k (by omega)⟩)
            · refine vx_aload_n hC 2 rfl eX6_become_63 ?_
              refine vx_gr hC 4 (ot_1 hOD) lf_X6_23 rfl (or_1_4 hOD) eX6_become_64 ?_
              refine vx_iload_n hC 0 rfl eX6_become_67 ?_
              refine vx_aload_n hC 1 rfl eX6_become_68 ?_
              refine vx_gr hC 4 (ot_8 hOD) lf_X6_23 rfl (or_8_4 hOD) eX6_become_69 ?_
              refine vx_iload_n hC 0 rfl eX6_become_72 ?_
              refine vx_aaload17 hC (ot_11 hOD) (by omega) (by omega) (show _ = vr 11 kd from (congrFun (h2D 11 (by decide)) _).trans (congrFun (h2C 11 (by decide)) _)) eX6_become_73 ?_
              refine vx_aastore17 hC (ot_4 hOD) (by omega) (by omega) (fun q hq => hv9.p (Or.inr hq)) eX6_become_74 ?_
              refine vx_vr (fun v12 hv12 => ?_)
              refine vx_iinc hC (lv1 := [(2, xa_i (kd + 1)), (1, xa_r 8), (0, xa_r 1)]) 0 rfl (by decide) rfl eX6_become_75 ?_
              refine vx_goto hC (tgt := 58) (by decide) eX6_become_78 ?_
              exact ih (kd + 1) v12 (by omega) (by intro z; rw [itr_s (by omega), hv12]; by_cases e9 : z = kd; (rw [e9, xu_s, if_pos rfl]); (rw [xu_n _ _ _ _ (by omega), if_neg e9]; exact h1D z)) (fun k hk => by rw [hv12, xu_c _ _ _ _ hk]; exact h2D k hk) (by omega)
        exact LP58 5 0 C (by omega) (fun z => by rw [itr_0]; exact congrFun (h2C 4 (by decide)) z) (fun _ _ => rfl) (by omega)
      · refine vx_aload_n hC 2 rfl eX6_become_30 ?_
        refine vx_gr hC 2 (ot_1 hOC) lf_X6_17 rfl (or_1_2 hOC) eX6_become_31 ?_
        refine vx_iload_n hC 0 rfl eX6_become_34 ?_
        refine vx_aload_n hC 1 rfl eX6_become_35 ?_
        refine vx_gr hC 2 (ot_8 hOC) lf_X6_17 rfl (or_8_2 hOC) eX6_become_36 ?_
        refine vx_iload_n hC 0 rfl eX6_become_39 ?_
        refine vx_aaload18 hC (ot_10 hOC) (by omega) (by omega) (show _ = vr 10 kc from congrFun (h2C 10 (by decide)) _) eX6_become_40 ?_
        refine vx_aastore18 hC (ot_3 hOC) (by omega) (by omega) (fun q hq => hv9.t (Or.inr hq)) eX6_become_41 ?_
        refine vx_vr (fun v13 hv13 => ?_)
        refine vx_iinc hC (lv1 := [(2, xa_i (kc + 1)), (1, xa_r 8), (0, xa_r 1)]) 0 rfl (by decide) rfl eX6_become_42 ?_
        refine vx_goto hC (tgt := 25) (by decide) eX6_become_45 ?_
        exact ih (kc + 1) v13 (by omega) (by intro z; rw [itr_s (by omega), hv13]; by_cases e9 : z = kc; (rw [e9, xu_s, if_pos rfl]); (rw [xu_n _ _ _ _ (by omega), if_neg e9]; exact h1C z)) (fun k hk => by rw [hv13, xu_c _ _ _ _ hk]; exact h2C k hk) (by omega)
  refine vx_lv (lv1 := [(2, xa_i 0), (1, xa_r 8), (0, xa_r 1)]) [0, 2, 1] rfl ?_
  exact LP25 6 0 vr (by omega) (fun z => by rw [itr_0]) (fun _ _ => rfl) (by omega)
set_option maxHeartbeats 4000000 in
set_option maxRecDepth 100000 in
theorem kX11_image (G : xg_T) (d : Nat) (n : Nat) (tau : Nat → Nat × Nat) (vi vl : Nat → Int → Int) (vr : Nat → Int → Option Nat) (hO : xo n tau vr) (s im : Int → Int) (has ran : Int) (bod : Int → Int) (hR : RCl s im has ran bod n tau vi vr) (hV : ms_V s)  : xm G yX11_image cX11_image 1 (some .int) (d + 3) 0 0 [xa_r 0] n tau vi vl vr (xp_i (fun z9 n1 t1 a1 b1 c1 => z9 = s 0 ∧ cq (s) (s) (1) (ran) (bod) n tau vi vl n1 t1 a1 b1 c1)) := by
  refine xm.of (lv := [(0, xa_r 0)]) (by decide) (Nat.le_of_ble_eq_true rfl) rfl (fun K hC hM hRm => ?_)
  have hS : rp_S 1 s n tau vi vr := hR.1
  obtain ⟨q1, q3, q7, q8, q9, q10, qt, qp, qr, qpl, qtb⟩ := id hS
  have hW : ms_W s := hV.1
  have h60 := hV.2
  obtain ⟨hr, h0, h1, h2, h3, h4, h5, h6, hp0, hrow, hwon, htape, htab⟩ := id hW
  obtain ⟨-, R2, R3, R4, R5, R6, R7, R8, R9, R10⟩ := id hR
  refine vx_aload_n hC 0 rfl eX11_image_0 ?_
  refine vx_gr hC 1 (ot_0 hO) lf_X11_18 rfl (or_0_1 hO) eX11_image_1 ?_
  refine vx_aload_n hC 0 rfl eX11_image_4 ?_
  refine vx_gr hC 0 (ot_0 hO) lf_X11_12 rfl (or_0_0 hO) eX11_image_5 ?_
  refine vx_callV_v hC (kX6_become_8_1 G d _ _ _ _ _ hO R10 R8) ly_X11_229 (ot_8 hO) rfl rfl rfl hRm (by omega) (Nat.le_of_ble_eq_true rfl) rfl eX11_image_8 (fun ng tg ag_ bg cg hg => ?_)
  obtain ⟨rfl, rfl, rfl, b1, b3, b7, b8, b9, b10, bt, bp, br, bf, bct, bcp, bcf⟩ := hg
  have hOg : xo n tau cg := xo_r hO (fun k hk => bcf k (by omega))
  have hS1 : rp_S 1 s n tau ag_ cg := hS.fr (fun k hk => bf k (by omega)) (Nat.le_refl _) (fun _ _ => rfl) (fun k hk => bcf k (by omega))
  have hS8 : rp_S 8 s n tau ag_ cg := hS.cp (d := 8) (c := 1) h0.2 h1.2 h3.2 b1 b3 b7 b8 b9 b10 bt bp br (fun z z1 z2 => by rw [bct z]; exact itr_i ⟨z1, z2⟩) (fun z z1 z2 => by rw [bcp z]; exact itr_i ⟨z1, z2⟩) (fun k hk => bf k (by omega)) (fun k hk => bcf k (by omega))
  have hrv : rvl n tau cg := R10.cp (fun z => Or.inl (by rw [bcf 3 (by decide)])) (fun z => by rw [bct z]; exact (itr_o _ _ _ _).symm) (fun z => Or.inl (by rw [bcf 4 (by decide)])) (fun z => by rw [bcp z]; exact (itr_o _ _ _ _).symm)
  have q7b : ag_ 1 7 = s 0 := by rw [bf 1 (by omega)]; exact q7
  refine vx_aload_n hC 0 rfl eX11_image_11 ?_
  refine vx_iconst hC eX11_image_12 ?_
  refine vx_pi hC 2 (ot_0 hOg) lp_X11_233 rfl (Or.inl rfl) (Or.inr ⟨rfl, by omega⟩) eX11_image_13 ?_
  refine vx_vi (fun v1 hv1 => ?_)
  have hv1_1_7 : v1 1 7 = s 0 := by rw [hv1, xu_c _ _ _ _ (by decide), q7b]
  refine vx_aload_n hC 0 rfl eX11_image_16 ?_
  refine vx_gr hC 0 (ot_0 hOg) lf_X11_12 rfl (or_0_0 hOg) eX11_image_17 ?_
  refine vx_gi hC 7 (ot_1 hOg) lf_X11_76 rfl eX11_image_20 ?_
  refine vx_eqi hv1_1_7 ?_
  have xk : ∀ k : Nat, ¬ k = 0 → v1 k = ag_ k := fun k hk => by rw [hv1, xu_c _ _ _ _ hk]
  have hRn : RCl s s 1 ran bod n tau v1 cg := ⟨hS1.fr (fun k hk => xk k (by omega)) (Nat.le_refl _) (fun _ _ => rfl) (fun _ _ => rfl), Or.inr ⟨rfl, hS8.fr (fun k hk => xk k (by omega)) (Nat.le_refl _) (fun _ _ => rfl) (fun _ _ => rfl)⟩, (by rw [hv1, xu_s]), (by rw [xk 30 (by decide), bf 30 (by omega)]; exact R4), (by rw [xk 30 (by decide), bf 30 (by omega)]; exact R5), R6, (by unfold tri; rw [bcf 15 (by decide)]; exact R7), (by rw [xk 2 (by decide), bf 2 (by omega)]; exact R8), (fun z z1 z2 => by rw [xk 9 (by decide), bt z z1 z2]; exact R8 z z1 z2), hrv⟩
  exact vx_iret hC hM rfl eX11_image_23 (⟨_, rfl, rfl, ⟨⟨Nat.le_refl _, by omega⟩, fun _ _ => rfl, hOg, hRn, fun k hk => ⟨(xk k (by omega)).trans (bf k (by omega)), rfl⟩⟩⟩)
set_option maxHeartbeats 4000000 in
set_option maxRecDepth 100000 in
theorem kX11_undo (G : xg_T) (d : Nat) (n : Nat) (tau : Nat → Nat × Nat) (vi vl : Nat → Int → Int) (vr : Nat → Int → Option Nat) (hO : xo n tau vr) (s im : Int → Int) (has ran : Int) (bod : Int → Int) (hR : RCl s im has ran bod n tau vi vr) (hV : ms_V s) (hVi : has = 1 → ms_V im) : xm G yX11_undo cX11_undo 1 (some .int) (d + 3) 0 0 [xa_r 0] n tau vi vl vr (xp_i (fun z9 n1 t1 a1 b1 c1 => z9 = (sp_undo s im has).1 ∧ cq ((sp_undo s im has).2) (im) (has) (ran) (bod) n tau vi vl n1 t1 a1 b1 c1)) := by
  refine xm.of (lv := [(0, xa_r 0)]) (by decide) (Nat.le_of_ble_eq_true rfl) rfl (fun K hC hM hRm => ?_)
  have hS : rp_S 1 s n tau vi vr := hR.1
  obtain ⟨q1, q3, q7, q8, q9, q10, qt, qp, qr, qpl, qtb⟩ := id hS
  have hW : ms_W s := hV.1
  have h60 := hV.2
  obtain ⟨hr, h0, h1, h2, h3, h4, h5, h6, hp0, hrow, hwon, htape, htab⟩ := id hW
  obtain ⟨-, R2, R3, R4, R5, R6, R7, R8, R9, R10⟩ := id hR
  refine vx_aload_n hC 0 rfl eX11_undo_0 ?_
  refine vx_gi hC 2 (ot_0 hO) lf_X11_233 rfl eX11_undo_1 ?_
  refine vx_eqi R3 ?_
  refine vx_if_ne hC (tgt := 10) (by omega) (by decide) eX11_undo_4 (fun c1 => ?_) (fun c1 => ?_)
  · obtain ⟨hI1, hI8⟩ := R2.resolve_left (by omega)
    have hI := (hVi (by omega)).1
    refine vx_aload_n hC 0 rfl eX11_undo_10 ?_
    refine vx_gr hC 0 (ot_0 hO) lf_X11_12 rfl (or_0_0 hO) eX11_undo_11 ?_
    refine vx_aload_n hC 0 rfl eX11_undo_14 ?_
    refine vx_gr hC 1 (ot_0 hO) lf_X11_18 rfl (or_0_1 hO) eX11_undo_15 ?_
    refine vx_callV_v hC (kX6_become_1_8 G d _ _ _ _ _ hO R10 R9) ly_X11_229 (ot_1 hO) rfl rfl rfl hRm (by omega) (Nat.le_of_ble_eq_true rfl) rfl eX11_undo_18 (fun ng tg ag_ bg cg hg => ?_)
    obtain ⟨rfl, rfl, rfl, b1, b3, b7, b8, b9, b10, bt, bp, br, bf, bct, bcp, bcf⟩ := hg
    have hOg : xo n tau cg := xo_r hO (fun k hk => bcf k (by omega))
    have hS1 : rp_S 1 im n tau ag_ cg := hI8.cp (d := 1) (c := 8) hI.2.1.2 hI.2.2.1.2 hI.2.2.2.2.1.2 b1 b3 b7 b8 b9 b10 bt bp br (fun z z1 z2 => by rw [bct z]; exact itr_i ⟨z1, z2⟩) (fun z z1 z2 => by rw [bcp z]; exact itr_i ⟨z1, z2⟩) (fun k hk => bf k (by omega)) (fun k hk => bcf k (by omega))
    have hS8 : rp_S 8 im n tau ag_ cg := hI8.fr (fun k hk => bf k (by omega)) (Nat.le_refl _) (fun _ _ => rfl) (fun k hk => bcf k (by omega))
    have hrv : rvl n tau cg := R10.cp (fun z => by rw [bct z]; exact itr_o _ _ _ _) (fun z => Or.inr (by rw [bcf 10 (by decide)])) (fun z => by rw [bcp z]; exact itr_o _ _ _ _) (fun z => Or.inr (by rw [bcf 11 (by decide)]))
    have q7b : ag_ 1 7 = im 0 := by rw [b7]; exact hI8.2.2.1
    refine vx_aload_n hC 0 rfl eX11_undo_21 ?_
    refine vx_gr hC 0 (ot_0 hOg) lf_X11_12 rfl (or_0_0 hOg) eX11_undo_22 ?_
    refine vx_gi hC 7 (ot_1 hOg) lf_X11_76 rfl eX11_undo_25 ?_
    refine vx_eqi q7b ?_
    have hE : sp_undo s im has = (im 0, im) := by unfold sp_undo; rw [if_neg (by omega)]
    have hRn : RCl im im has ran bod n tau ag_ cg := ⟨hS1, Or.inr ⟨hI1, hS8⟩, (by rw [bf 0 (by omega)]; exact R3), (by rw [bf 30 (by omega)]; exact R4), (by rw [bf 30 (by omega)]; exact R5), R6, (by unfold tri; rw [bcf 15 (by decide)]; exact R7), (fun z z1 z2 => by rw [bt z z1 z2]; exact R9 z z1 z2), (by rw [bf 9 (by omega)]; exact R9), hrv⟩
    exact vx_iret hC hM rfl eX11_undo_28 (⟨_, rfl, (by rw [hE]), (by rw [hE]; exact ⟨⟨Nat.le_refl _, by omega⟩, fun _ _ => rfl, hOg, hRn, fun k hk => ⟨bf k (by omega), rfl⟩⟩)⟩)
  · refine vx_bipush hC (by decide) eX11_undo_7 ?_
    exact vx_iret hC hM rfl eX11_undo_9 (⟨_, rfl, (by unfold sp_undo; rw [if_pos (by omega)]), (by rw [show (sp_undo s im has).2 = s by unfold sp_undo; rw [if_pos (by omega)]]; exact cq_ro hO hR (fun k hk => rfl) (fun k hk => rfl))⟩)
