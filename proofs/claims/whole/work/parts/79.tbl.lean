section XV
variable {G : xg_T} {K : xk_T} {cc : ByteArray} {own : String} {nL : Nat} {Q : State → Prop} {cells slots n : Nat} {tau : Nat → Nat × Nat} {vi vl : Nat → Int → Int} {vr : Nat → Int → Option Nat} {pc pc1 : Nat} {lv : List (Nat × xa_T)} {st : List xa_T}
theorem vx_up {post : xm_T} {mc ms c1 s1 : Nat} (h1 : c1 ≤ mc) (h2 : s1 ≤ ms) (kk : xv G K nL (xk_Q G K post c1 s1) cells slots n tau vi vl vr pc lv st) : xv G K nL (xk_Q G K post mc ms) cells slots n tau vi vl vr pc lv st := by
  intro H locs ls hR hS hl T hT hX
  obtain ⟨t, ht, o, q1, q2, q3, L, q4, q5⟩ := kk H locs ls hR hS hl T hT hX
  have q6 := q4.2.2.2.2.1
  have q7 := q4.2.2.2.2.2.2.1
  exact ⟨t, ht, o, q1, q2, q3, L, ⟨q4.1, q4.2.1, q4.2.2.1, q4.2.2.2.1, Nat.le_trans q6 (Nat.add_le_add_left h1 _), q4.2.2.2.2.2.1, Nat.le_trans q7 h2, q4.2.2.2.2.2.2.2⟩, q5⟩
theorem vx_hp (k : ∀ (n1 : Nat) (t1 : Nat → Nat × Nat) (a1 b1 : Nat → Int → Int) (c1 : Nat → Int → Option Nat), n1 = n → t1 = tau → a1 = vi → b1 = vl → c1 = vr → xv G K nL Q cells slots n1 t1 a1 b1 c1 pc lv st) : xv G K nL Q cells slots n tau vi vl vr pc lv st := k _ _ _ _ _ rfl rfl rfl rfl rfl
end XV
theorem xo_new {n : Nat} {tau : Nat → Nat × Nat} {vr : Nat → Int → Option Nat} {q : Nat × Nat} {f : Int → Option Nat} (h : xo n tau vr) (hn : n + 1 ≤ 100000) : xo (n + 1) (xz tau n q) (xz vr n f) := by
  have h45 := h.1
  refine ⟨by omega, fun k hk => by rw [xz_n _ _ (by omega)]; exact h.2.1 k hk, fun q hq => ?_⟩
  have : ∀ q ∈ xo_rl, q.1 < 45 := by decide
  have := this q hq
  rw [xz_n _ _ (by omega)]; exact h.2.2 q hq
set_option maxHeartbeats 4000000 in
set_option maxRecDepth 100000 in
theorem kJ7_copyOf_59c91 (G : xg_T) (d : Nat) (n : Nat) (tau : Nat → Nat × Nat) (vi vl : Nat → Int → Int) (vr : Nat → Int → Option Nat) (k0 len0 len : Nat) (ht0 : k0 < n ∧ tau k0 = (14, len0)) (hl : len < len0) (hl0 : len0 ≤ 100) (hn : n + 1 ≤ 100000) : xm G yJ7_copyOf_59c91 cJ7_copyOf_59c91 3 (some (.array .int)) (d + 2) 1 100 [xa_r k0, xa_i (len : Int)] n tau vi vl vr (xp_q (fun r9 n1 t1 a1 b1 c1 => r9 = some n ∧ n1 = n + 1 ∧ t1 = xz tau n (14, len) ∧ (∀ z, 0 ≤ z → z < (len : Int) → a1 n z = vi k0 z) ∧ (∀ k, ¬ k = n → a1 k = vi k) ∧ b1 = xz vl n (fun _ => 0) ∧ c1 = xz vr n (fun _ => none))) := by
  refine xm.of (lv := [(0, xa_r k0), (1, xa_i (len : Int))]) (by decide) (Nat.le_of_ble_eq_true rfl) rfl (fun K hC hM hRm => ?_)
  have ht1 := ht0.1
  refine vx_iload_n hC 1 rfl eJ7_copyOf_59c91_0 ?_
  refine vx_aload_n hC 0 rfl eJ7_copyOf_59c91_1 ?_
  refine vx_alen hC ht0 (by decide) (by omega) eJ7_copyOf_59c91_2 ?_
  refine vx_icmp_ne hC (tgt := 14) (by omega) (by decide) eJ7_copyOf_59c91_3 (fun c1 => ?_) (fun c1 => absurd c1 (by omega))
  refine vx_iload_n hC 1 rfl eJ7_copyOf_59c91_14 ?_
  refine vx_newarrI hC (len := len) rfl (by omega) wd_142 (by omega) hRm (by omega) eJ7_copyOf_59c91_15 ?_
  refine vx_hp (fun ng2 tg2 ag2 bg2 cg2 hng2 htg2 hag2 hbg2 hcg2 => ?_)
  have ug2_k0 : k0 < ng2 ∧ tg2 k0 = (14, _) := ⟨by have := (ht0).1; omega, by rw [htg2, xz_n _ _ (by have := (ht0).1; omega)]; exact (ht0).2⟩
  have ug2 : n < ng2 ∧ tg2 n = (14, len) := ⟨by omega, by rw [htg2, xz_s]⟩
  refine vx_astore_n hC (lv1 := [(2, xa_r n), (0, xa_r k0), (1, xa_i (len : Int))]) (by decide) rfl eJ7_copyOf_59c91_17 ?_
  refine vx_aload_n hC 1 rfl eJ7_copyOf_59c91_18 ?_
  refine vx_iconst hC eJ7_copyOf_59c91_19 ?_
  refine vx_aload_n hC 0 rfl eJ7_copyOf_59c91_20 ?_
  refine vx_iconst hC eJ7_copyOf_59c91_21 ?_
  refine vx_aload_n hC 1 rfl eJ7_copyOf_59c91_22 ?_
  refine vx_alen hC ug2_k0 (by decide) (by omega) eJ7_copyOf_59c91_23 ?_
  refine vx_iload_n hC 2 rfl eJ7_copyOf_59c91_24 ?_
  refine vx_mmin hC (by omega) ly_J7_304 hRm (by omega) (Nat.le_of_ble_eq_true rfl) eJ7_copyOf_59c91_25 ?_
  refine vx_top (fun x3 hx3 => ?_)
  have rx3 := mmin_r hx3
  refine vx_copyI hC ug2_k0 ug2 (by omega) (by omega) ly_J7_150 hRm (by omega) (Nat.le_of_ble_eq_true rfl) eJ7_copyOf_59c91_28 ?_
  refine vx_vi (fun v4 hv4 => ?_)
  refine vx_aload_n hC 0 rfl eJ7_copyOf_59c91_31 ?_
  refine vx_up (c1 := 0 + 1) (s1 := 0 + len) (by omega) (by omega) ?_
  exact vx_aret hC hM (by first | exact Or.inl ⟨_, rfl⟩ | exact Or.inr ⟨_, rfl⟩) eJ7_copyOf_59c91_32 (⟨_, rfl, rfl, hng2, htg2, (fun z z1 z2 => by rw [hv4]; show (if n = n then _ else _ : Int → Int) z = _; rw [if_pos rfl]; unfold xcp; rw [if_pos (by omega), hag2, xz_n _ _ (by omega)]; congr 1; omega), (fun k hk => by rw [hv4]; show (if k = n then _ else _ : Int → Int) = _; rw [if_neg hk, hag2, xz_n _ _ hk]), hbg2, hcg2⟩)
