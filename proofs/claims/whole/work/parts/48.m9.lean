/-- two rows agree on their first N places -/
def ag (N : Int) (f g : Int → Int) : Prop := ∀ z, 0 ≤ z → z < N → f z = g z
theorem ag_fu {N : Int} {f g : Int → Int} {z x : Int} (h : ag N f g) : ag N (fu f z x) (fu g z x) := by
  intro w w1 w2
  unfold fu
  split
  · rfl
  · exact h w w1 w2
theorem ag_step {N w x : Int} {f g : Int → Int} (h : ag N f g) (hw : w = N) (hx : x = g N) : ag (N + 1) (fu f w x) g := by
  subst hw hx
  intro z z1 z2
  by_cases e : z = w
  · rw [e, fu_s]
  · rw [fu_n _ _ _ e]; exact h z z1 (by omega)
theorem ag_0 {N : Int} (h : N ≤ 0) (f g : Int → Int) : ag N f g := by intro z z1 z2; omega
theorem ag_rf (N : Int) (f : Int → Int) : ag N f f := fun _ _ _ => rfl
def ad (f : Int → Int) (z x : Int) : Int → Int := fu f z (f z + x)
theorem ad_0 (f : Int → Int) (z : Int) : ad f z 0 = f := by unfold ad; exact fu_self f (by omega)
theorem ad_eq {f : Int → Int} {z x w y : Int} (hw : w = z) (hy : y = f z + x) : fu f w y = ad f z x := by subst hw hy; rfl
theorem ad_comm (f : Int → Int) (z x w y : Int) : ad (ad f z x) w y = ad (ad f w y) z x := by
  unfold ad
  funext v
  unfold fu
  by_cases h : v = w <;> by_cases h2 : v = z <;> simp only [h, h2, if_true, if_false]
  · subst h; subst h2; simp only [if_true]; omega
  · subst h; simp only [if_true, h2, if_false]
  · subst h2; simp only [if_true, h, if_false]
/-- the sum of a row's places -/
def sq (f : Int → Int) : Int → Nat → Int
  | _, 0 => 0
  | q, c + 1 => f q + sq f (q + 1) c
theorem sq_nn {f : Int → Int} : ∀ (c : Nat) (q : Int), (∀ z, q ≤ z → z < q + (c : Int) → 0 ≤ f z) → 0 ≤ sq f q c
  | 0, _, _ => by simp [sq]
  | c + 1, q, h => by
    have h1 := sq_nn c (q + 1) (fun z z1 z2 => h z (by omega) (by omega))
    have h2 := h q (by omega) (by omega)
    rw [sq]; omega
theorem sq_fu_out {f : Int → Int} {z x : Int} : ∀ (c : Nat) (q : Int), (z < q ∨ q + (c : Int) ≤ z) → sq (fu f z x) q c = sq f q c
  | 0, _, _ => rfl
  | c + 1, q, h => by rw [sq, sq, fu_n _ _ _ (by omega), sq_fu_out c (q + 1) (by omega)]
theorem sq_ad {f : Int → Int} {z x : Int} : ∀ (c : Nat) (q : Int), q ≤ z → z < q + (c : Int) → sq (ad f z x) q c = sq f q c + x
  | 0, q, h1, h2 => by omega
  | c + 1, q, h1, h2 => by
    unfold ad
    by_cases e : z = q
    · rw [sq, sq, e, fu_s, sq_fu_out c (q + 1) (by omega)]; omega
    · have := sq_ad (f := f) (z := z) (x := x) c (q + 1) (by omega) (by omega)
      unfold ad at this
      rw [sq, sq, fu_n _ _ _ (by omega), this]; omega
theorem sq_le {f : Int → Int} : ∀ (c d : Nat) (q : Int), c ≤ d → (∀ z, q ≤ z → z < q + (d : Int) → 0 ≤ f z) → sq f q c ≤ sq f q d
  | 0, d, q, _, h => by rw [sq]; exact sq_nn d q h
  | c + 1, 0, _, h, _ => by omega
  | c + 1, d + 1, q, h, hn => by
    have := sq_le c d (q + 1) (by omega) (fun z z1 z2 => hn z (by omega) (by omega))
    rw [sq, sq]; omega
theorem sq_one {f : Int → Int} : ∀ (c : Nat) (q z : Int), q ≤ z → z < q + (c : Int) → (∀ z, q ≤ z → z < q + (c : Int) → 0 ≤ f z) → f z ≤ sq f q c
  | 0, _, _, _, _, _ => by omega
  | c + 1, q, z, h1, h2, h => by
    have h3 := h q (by omega) (by omega)
    have h4 := sq_nn c (q + 1) (fun w w1 w2 => h w (by omega) (by omega))
    rw [sq]
    by_cases e : z = q
    · rw [e]; omega
    · have := sq_one c (q + 1) z (by omega) (by omega) (fun w w1 w2 => h w (by omega) (by omega))
      omega
theorem sq_congr {f g : Int → Int} : ∀ (c : Nat) (q : Int), (∀ z, q ≤ z → z < q + (c : Int) → f z = g z) → sq f q c = sq g q c
  | 0, _, _ => rfl
  | c + 1, q, h => by rw [sq, sq, h q (by omega) (by omega), sq_congr c (q + 1) (fun z z1 z2 => h z (by omega) (by omega))]
abbrev th_T : Type := (Int → Int) × Int
/-- a throw from each purse: the ways, the throws made -/
def th_in (s : Int → Int) (p : Int) (f : Int → Int) : Nat → Int → (Int → Int) → Int → th_T
  | 0, _, g, m => (g, m)
  | c + 1, q, g, m => if q = 0 ∨ q = s (18 + p) then th_in s p f c (q + 1) (ad g q (10 * f q)) m
    else th_in s p f c (q + 1) (ad (ad g (q + ms_stake s p q) (ms_odds s p q (ms_stake s p q) * f q)) (q - ms_stake s p q) ((10 - ms_odds s p q (ms_stake s p q)) * f q)) (m + 10 * f q)
def fz0 : Int → Int := fun _ => 0
def th_1 (s : Int → Int) (p : Int) (z : th_T) : th_T := th_in s p z.1 (s (18 + p) + 1).toNat 0 fz0 (z.2 * 10)
def th_n (s : Int → Int) (p : Int) : Nat → th_T → th_T
  | 0, z => z
  | c + 1, z => th_n s p c (th_1 s p z)
def th_0 (s : Int → Int) (p : Int) : Int → Int := fun q => if q = s (22 + p) then 1 else 0
def th_all (s : Int → Int) (p n : Int) : th_T := th_n s p n.toNat (th_0 s p, 0)
def th_ok (t : Nat) (z : th_T) : Prop := (∀ q, 0 ≤ q → q < 13 → 0 ≤ z.1 q) ∧ sq z.1 0 13 ≤ (10 : Int) ^ t ∧ 0 ≤ z.2 ∧ z.2 ≤ (t : Int) * (10 : Int) ^ t
theorem th_in_skip {s f : Int → Int} {p q m : Int} {c : Nat} {g : Int → Int} (h1 : ¬ (q = 0 ∨ q = s (18 + p))) (h : f q = 0) : th_in s p f (c + 1) q g m = th_in s p f c (q + 1) g m := by
  rw [th_in, if_neg h1, h, Int.mul_zero, Int.mul_zero, ad_0, ad_0, Int.mul_zero, Int.add_zero]
theorem th_in_ok {s f : Int → Int} (hW : ms_W s) {p : Int} (hp : 0 ≤ p ∧ p < s 0) (hf : ∀ q, 0 ≤ q → q < 13 → 0 ≤ f q) : ∀ (c : Nat) (q : Int) (g : Int → Int) (m : Int), q + (c : Int) = s (18 + p) + 1 → 0 ≤ q → (∀ q, 0 ≤ q → q < 13 → 0 ≤ g q) → 0 ≤ m →
    (∀ z, 0 ≤ z → z < 13 → 0 ≤ (th_in s p f c q g m).1 z) ∧ sq (th_in s p f c q g m).1 0 13 = sq g 0 13 + 10 * sq f q c ∧ 0 ≤ (th_in s p f c q g m).2 ∧ (th_in s p f c q g m).2 ≤ m + 10 * sq f q c
  | 0, q, g, m, hc, hq, hg, hm => by rw [th_in, show sq f q 0 = 0 from rfl]; exact ⟨hg, by show sq g 0 13 = _; omega, hm, by show m ≤ _; omega⟩
  | c + 1, q, g, m, hc, hq, hg, hm => by
    have hgo := (hW.2.2.2.2.2.2.2.2.1 p hp.1 hp.2).2.2.1
    have hfq := hf q hq (by omega)
    have had : ∀ (g : Int → Int) (z x : Int), (∀ q, 0 ≤ q → q < 13 → 0 ≤ g q) → 0 ≤ x → 0 ≤ z → z < 13 → (∀ q, 0 ≤ q → q < 13 → 0 ≤ ad g z x q) := by
      intro g z x h1 h2 h3 h4 q q1 q2
      unfold ad fu
      have := h1 z h3 h4
      have := h1 q q1 q2
      split <;> omega
    rw [th_in, show sq f q (c + 1) = f q + sq f (q + 1) c from rfl]
    split
    · next e =>
      obtain ⟨a1, a2, a3, a4⟩ := th_in_ok hW hp hf c (q + 1) (ad g q (10 * f q)) m (by omega) (by omega) (had g q _ hg (by omega) hq (by omega)) hm
      rw [sq_ad 13 0 hq (by omega)] at a2
      exact ⟨a1, by omega, a3, by omega⟩
    · next e =>
      have hs := ms_stake_r hW hp (q := q) (by omega)
      have ho : 1 ≤ ms_odds s p q (ms_stake s p q) ∧ ms_odds s p q (ms_stake s p q) ≤ 9 := mclamp_r _
      have e1 : 0 ≤ ms_odds s p q (ms_stake s p q) * f q := Int.mul_nonneg (by omega) hfq
      have e2 : 0 ≤ (10 - ms_odds s p q (ms_stake s p q)) * f q := Int.mul_nonneg (by omega) hfq
      have e3 : (10 - ms_odds s p q (ms_stake s p q)) * f q = 10 * f q - ms_odds s p q (ms_stake s p q) * f q := Int.sub_mul _ _ _
      obtain ⟨a1, a2, a3, a4⟩ := th_in_ok hW hp hf c (q + 1) _ (m + 10 * f q) (by omega) (by omega) (had _ (q - ms_stake s p q) _ (had g (q + ms_stake s p q) _ hg e1 (by omega) (by omega)) e2 (by omega) (by omega)) (by omega)
      rw [sq_ad 13 0 (by omega) (by omega), sq_ad 13 0 (by omega) (by omega)] at a2
      exact ⟨a1, by omega, a3, by omega⟩
theorem th_ok_1 {s : Int → Int} (hW : ms_W s) {p : Int} (hp : 0 ≤ p ∧ p < s 0) {t : Nat} {z : th_T} (h : th_ok t z) : th_ok (t + 1) (th_1 s p z) := by
  obtain ⟨h1, h2, h3, h4⟩ := h
  have hgo := (hW.2.2.2.2.2.2.2.2.1 p hp.1 hp.2).2.2.1
  obtain ⟨a1, a2, a3, a4⟩ := th_in_ok hW hp h1 (s (18 + p) + 1).toNat 0 fz0 (z.2 * 10) (by omega) (by omega) (fun _ _ _ => Int.le_refl 0) (by omega)
  have b1 := sq_le (f := z.1) (s (18 + p) + 1).toNat 13 0 (by omega) (fun w w1 w2 => h1 w w1 (by omega))
  have b2 : sq fz0 0 13 = 0 := by decide
  unfold th_1
  refine ⟨a1, ?_, a3, ?_⟩
  · rw [Int.pow_succ]; omega
  · rw [Int.pow_succ, ← Int.mul_assoc]
    have : ((t + 1 : Nat) : Int) * (10 : Int) ^ t = (t : Int) * (10 : Int) ^ t + (10 : Int) ^ t := by rw [Int.natCast_add, Int.add_mul]; simp
    omega
theorem sq_z {f : Int → Int} : ∀ (c : Nat) (q : Int), (∀ z, q ≤ z → z < q + (c : Int) → f z = 0) → sq f q c = 0
  | 0, _, _ => rfl
  | c + 1, q, h => by rw [sq, h q (by omega) (by omega), sq_z c (q + 1) (fun z z1 z2 => h z (by omega) (by omega))]; rfl
theorem th_ok_0 (s : Int → Int) (p : Int) : th_ok 0 (th_0 s p, 0) := by
  refine ⟨fun q _ _ => ?_, ?_, by show (0 : Int) ≤ 0; omega, by simp⟩
  · show 0 ≤ th_0 s p q
    unfold th_0; split <;> omega
  · show sq (th_0 s p) 0 13 ≤ 1
    have : ∀ (c : Nat) (q : Int), sq (th_0 s p) q c ≤ 1 := by
      intro c
      induction c with
      | zero => intro q; rw [sq]; omega
      | succ c ih =>
        intro q
        rw [sq]
        by_cases e : q = s (22 + p)
        · rw [sq_z c (q + 1) (fun z z1 z2 => by unfold th_0; rw [if_neg (by omega)])]; unfold th_0; split <;> omega
        · have := ih (q + 1); unfold th_0 at *; rw [if_neg e]; omega
    exact this 13 0
theorem th_ok_n {s : Int → Int} (hW : ms_W s) {p : Int} (hp : 0 ≤ p ∧ p < s 0) : ∀ (c t : Nat) (z : th_T), th_ok t z → th_ok (t + c) (th_n s p c z)
  | 0, t, z, h => h
  | c + 1, t, z, h => by
    have := th_ok_n hW hp c (t + 1) (th_1 s p z) (th_ok_1 hW hp h)
    rw [th_n, show t + (c + 1) = t + 1 + c by omega]; exact this
theorem ten_le : ∀ {t : Nat}, t ≤ 15 → 0 < (10 : Int) ^ t ∧ (10 : Int) ^ t ≤ 1000000000000000 := by decide
theorem th_ok_r {t : Nat} {z : th_T} (ht : t ≤ 15) (h : th_ok t z) : (∀ q, 0 ≤ q → q < 13 → 0 ≤ z.1 q ∧ z.1 q ≤ 1000000000000000) ∧ 0 ≤ z.2 ∧ z.2 ≤ 15000000000000000 := by
  obtain ⟨h1, h2, h3, h4⟩ := h
  have ht2 := ten_le ht
  refine ⟨fun q q1 q2 => ⟨h1 q q1 q2, ?_⟩, h3, ?_⟩
  · have := sq_one (f := z.1) 13 0 q q1 (by omega) (fun w w1 w2 => h1 w w1 (by omega))
    omega
  · have := Int.mul_le_mul (show (t : Int) ≤ 15 by omega) ht2.2 (by omega) (by omega)
    omega
set_option maxHeartbeats 4000000 in
set_option maxRecDepth 100000 in
theorem kX12_throwsOn (G : xg_T) (d : Nat) (n : Nat) (tau : Nat → Nat × Nat) (vi vl : Nat → Int → Int) (vr : Nat → Int → Option Nat) (hO : xo n tau vr) (s : Int → Int) (h32 : vi 32 = s) (hW : ms_W s) (p : Int) (hp : 0 ≤ p ∧ p < s 0) (nn : Int) (hnn : 0 ≤ nn ∧ nn ≤ 15)  : xm G yX12_throwsOn cX12_throwsOn 7 none (d + 4) 0 0 [xa_r 31, xa_i p, xa_i nn] n tau vi vl vr (xp_v (fun n1 t1 a1 b1 c1 => (ag 13 (b1 36) (th_all s p nn).1) ∧ (b1 31 13 = (th_all s p nn).2) ∧ (a1 31 = vi 31) ∧ xs_F (fun k => ¬ k = 31 ∧ ¬ k = 34 ∧ ¬ k = 35 ∧ ¬ k = 36 ∧ ¬ k = 37) n tau vi vl vr n1 t1 a1 b1 c1)) := by
  refine xm.of (lv := [(0, xa_r 31), (1, xa_i p), (2, xa_i nn)]) (by decide) (Nat.le_of_ble_eq_true rfl) rfl (fun K hC hM hRm => ?_)
  obtain ⟨hr, h0, h1, h2, h3, h4, h5, h6, hp0, hrow, hwon, htape, htab⟩ := id hW
  obtain ⟨g1, g2, g3, g4⟩ := hp0 p hp.1 hp.2
  refine vx_iconst hC eX12_throwsOn_0 ?_
  refine vx_istore_n hC (lv1 := [(3, xa_i 0), (0, xa_r 31), (1, xa_i p), (2, xa_i nn)]) (by decide) rfl eX12_throwsOn_1 ?_
  have LP2 : ∀ (j : Nat) (kk : Int) (m2 : Nat → Int → Int) (hkk : 0 ≤ kk ∧ kk ≤ 13) (ha : ag kk (m2 36) (th_0 s p)) (fl : ∀ k : Nat, (¬ k = 31 ∧ ¬ k = 34 ∧ ¬ k = 35 ∧ ¬ k = 36 ∧ ¬ k = 37) → m2 k = vl k) (hj : 13 - kk < (j : Int)), xv G K 7 (xk_Q G K (xp_v (fun n1 t1 a1 b1 c1 => (ag 13 (b1 36) (th_all s p nn).1) ∧ (b1 31 13 = (th_all s p nn).2) ∧ (a1 31 = vi 31) ∧ xs_F (fun k => ¬ k = 31 ∧ ¬ k = 34 ∧ ¬ k = 35 ∧ ¬ k = 36 ∧ ¬ k = 37) n tau vi vl vr n1 t1 a1 b1 c1)) 0 0) 0 0 n tau vi m2 vr 2 [(0, xa_r 31), (1, xa_i p), (2, xa_i nn), (3, xa_i kk)] [] := by
    intro j
    induction j with
    | zero => intro kk m2 hkk ha fl hj; exfalso; omega
    | succ j ih =>
      intro kk m2 hkk ha fl hj
      refine vx_iload_n hC 3 rfl eX12_throwsOn_2 ?_
      refine vx_bipush hC (by decide) eX12_throwsOn_3 ?_
      refine vx_icmp_ge hC (tgt := 38) (by omega) (by decide) eX12_throwsOn_5 (fun c1 => ?_) (fun c1 => ?_)
      · refine vx_aload_n hC 0 rfl eX12_throwsOn_38 ?_
        refine vx_lconst hC 0 (by decide) eX12_throwsOn_39 ?_
        refine vx_pl hC 13 (ot_31 hO) lp_X12_170 rfl (Or.inl rfl) rfl eX12_throwsOn_40 ?_
        refine vx_vl (fun v2 hv2 => ?_)
        have hv2_36 : v2 36 = m2 36 := by rw [hv2, xu_c _ _ _ _ (by decide)]
        have hv2_31_13 : v2 31 13 = 0 := by rw [hv2, xu_k, fu_s]
        have frv2 : ∀ k : Nat, (¬ k = 31 ∧ ¬ k = 34 ∧ ¬ k = 35 ∧ ¬ k = 36 ∧ ¬ k = 37) → v2 k = vl k := fun k hk => by rw [hv2, xu_c _ _ _ _ (by omega)]; exact fl k hk
        refine vx_iconst hC eX12_throwsOn_43 ?_
        refine vx_istore_n hC (lv1 := [(3, xa_i 0), (0, xa_r 31), (1, xa_i p), (2, xa_i nn)]) (by decide) rfl eX12_throwsOn_44 ?_
        have LP45 : ∀ (j : Nat) (cc : Nat) (tt : Nat) (F : Int → Int) (M : Int) (m1 : Nat → Int → Int) (m2 : Nat → Int → Int) (hcc : (tt : Int) + (cc : Int) = nn) (hrB : th_n s p cc (F, M) = th_all s p nn) (hok : th_ok tt (F, M)) (aF : ag 13 (m2 36) F) (eM : m2 31 13 = M) (e1 : m1 32 = s) (e31 : m1 31 = vi 31) (fi : ∀ k : Nat, (¬ k = 31 ∧ ¬ k = 34 ∧ ¬ k = 35 ∧ ¬ k = 36 ∧ ¬ k = 37) → m1 k = vi k) (fl : ∀ k : Nat, (¬ k = 31 ∧ ¬ k = 34 ∧ ¬ k = 35 ∧ ¬ k = 36 ∧ ¬ k = 37) → m2 k = vl k) (hj : (cc : Int) < (j : Int)), xv G K 7 (xk_Q G K (xp_v (fun n1 t1 a1 b1 c1 => (ag 13 (b1 36) (th_all s p nn).1) ∧ (b1 31 13 = (th_all s p nn).2) ∧ (a1 31 = vi 31) ∧ xs_F (fun k => ¬ k = 31 ∧ ¬ k = 34 ∧ ¬ k = 35 ∧ ¬ k = 36 ∧ ¬ k = 37) n tau vi vl vr n1 t1 a1 b1 c1)) 0 0) 0 0 n tau m1 m2 vr 45 [(0, xa_r 31), (1, xa_i p), (2, xa_i nn), (3, xa_i (tt : Int))] [] := by
          intro j
          induction j with
          | zero => intro cc tt F M m1 m2 hcc hrB hok aF eM e1 e31 fi fl hj; exfalso; omega
          | succ j ihB =>
            intro cc tt F M m1 m2 hcc hrB hok aF eM e1 e31 fi fl hj
            refine vx_iload_n hC 3 rfl eX12_throwsOn_45 ?_
            refine vx_iload_n hC 2 rfl eX12_throwsOn_46 ?_
            refine vx_icmp_ge hC (tgt := 291) (by omega) (by decide) eX12_throwsOn_47 (fun c3 => ?_) (fun c3 => ?_)
            · exact vx_vret hC hM eX12_throwsOn_291 (⟨rfl, (by rw [← hrB, show cc = 0 by omega, th_n]; exact aF), (by rw [← hrB, show cc = 0 by omega, th_n]; exact eM), e31, rfl, rfl, rfl, fun k hk => ⟨fi k hk, fl k hk⟩⟩)
            · obtain ⟨cc1, rfl⟩ : ∃ cc1, cc = cc1 + 1 := ⟨cc - 1, by omega⟩
              have hFr := th_ok_r (by omega) hok
              refine vx_aload_n hC 0 rfl eX12_throwsOn_50 ?_
              refine vx_dup hC rfl eX12_throwsOn_51 ?_
              refine vx_gl hC 13 (ot_31 hO) lf_X12_170 rfl eX12_throwsOn_52 ?_
              refine vx_eql eM ?_
              refine vx_ldc2 hC (10) wd_1172 eX12_throwsOn_55 ?_
              refine vx_lmul hC eX12_throwsOn_58 ?_
              refine vx_topl (fun x4 hx4 => ?_)
              refine vx_pl hC 13 (ot_31 hO) lp_X12_170 rfl (Or.inl rfl) rfl eX12_throwsOn_59 ?_
              refine vx_vl (fun v5 hv5 => ?_)
              have hv5_36 : ag 13 (v5 36) (F) := by rw [hv5, xu_c _ _ _ _ (by decide)]; exact aF
              have hv5_31_13 : v5 31 13 = x4 := by rw [hv5, xu_k, fu_s]
              have hv5_37 : v5 37 = m2 37 := by rw [hv5, xu_c _ _ _ _ (by decide)]
              have frv5 : ∀ k : Nat, (¬ k = 31 ∧ ¬ k = 34 ∧ ¬ k = 35 ∧ ¬ k = 36 ∧ ¬ k = 37) → v5 k = vl k := fun k hk => by rw [hv5, xu_c _ _ _ _ (by omega)]; exact fl k hk
              refine vx_iconst hC eX12_throwsOn_62 ?_
              refine vx_istore hC (lv1 := [(4, xa_i 0), (0, xa_r 31), (1, xa_i p), (2, xa_i nn), (3, xa_i (tt : Int))]) (by decide) rfl eX12_throwsOn_63 ?_
              have LP65 : ∀ (j : Nat) (kk : Int) (m3 : Nat → Int → Int) (hkk : 0 ≤ kk ∧ kk ≤ 13) (ha : ag kk (m3 37) fz0) (aF2 : ag 13 (m3 36) F) (eM2 : m3 31 13 = x4) (fl3 : ∀ k : Nat, (¬ k = 31 ∧ ¬ k = 34 ∧ ¬ k = 35 ∧ ¬ k = 36 ∧ ¬ k = 37) → m3 k = vl k) (hj : 13 - kk < (j : Int)), xv G K 7 (xk_Q G K (xp_v (fun n1 t1 a1 b1 c1 => (ag 13 (b1 36) (th_all s p nn).1) ∧ (b1 31 13 = (th_all s p nn).2) ∧ (a1 31 = vi 31) ∧ xs_F (fun k => ¬ k = 31 ∧ ¬ k = 34 ∧ ¬ k = 35 ∧ ¬ k = 36 ∧ ¬ k = 37) n tau vi vl vr n1 t1 a1 b1 c1)) 0 0) 0 0 n tau m1 m3 vr 65 [(0, xa_r 31), (1, xa_i p), (2, xa_i nn), (3, xa_i (tt : Int)), (4, xa_i kk)] [] := by
                intro j
                induction j with
                | zero => intro kk m3 hkk ha aF2 eM2 fl3 hj; exfalso; omega
                | succ j ihC =>
                  intro kk m3 hkk ha aF2 eM2 fl3 hj
                  refine vx_iload hC 4 rfl eX12_throwsOn_65 ?_
                  refine vx_bipush hC (by decide) eX12_throwsOn_67 ?_
                  refine vx_icmp_ge hC (tgt := 86) (by omega) (by decide) eX12_throwsOn_69 (fun c6 => ?_) (fun c6 => ?_)
                  · refine vx_iconst hC eX12_throwsOn_86 ?_
                    refine vx_istore hC (lv1 := [(4, xa_i 0), (0, xa_r 31), (1, xa_i p), (2, xa_i nn), (3, xa_i (tt : Int))]) (by decide) rfl eX12_throwsOn_87 ?_
                    have LP89 : ∀ (j : Nat) (cq : Nat) (q : Int) (g : Int → Int) (mm : Int) (m4 : Nat → Int → Int) (m5 : Nat → Int → Int) (hcq : q + (cq : Int) = s (18 + p) + 1 ∧ 0 ≤ q) (hin : th_in s p F cq q g mm = th_1 s p (F, M)) (aG : ag 13 (m5 37) g) (aF3 : ag 13 (m5 36) F) (eM3 : m5 31 13 = mm) (e4 : m4 32 = s) (e41 : m4 31 = vi 31) (fi4 : ∀ k : Nat, (¬ k = 31 ∧ ¬ k = 34 ∧ ¬ k = 35 ∧ ¬ k = 36 ∧ ¬ k = 37) → m4 k = vi k) (fl4 : ∀ k : Nat, (¬ k = 31 ∧ ¬ k = 34 ∧ ¬ k = 35 ∧ ¬ k = 36 ∧ ¬ k = 37) → m5 k = vl k) (hj : (cq : Int) < (j : Int)), xv G K 7 (xk_Q G K (xp_v (fun n1 t1 a1 b1 c1 => (ag 13 (b1 36) (th_all s p nn).1) ∧ (b1 31 13 = (th_all s p nn).2) ∧ (a1 31 = vi 31) ∧ xs_F (fun k => ¬ k = 31 ∧ ¬ k = 34 ∧ ¬ k = 35 ∧ ¬ k = 36 ∧ ¬ k = 37) n tau vi vl vr n1 t1 a1 b1 c1)) 0 0) 0 0 n tau m4 m5 vr 89 [(0, xa_r 31), (1, xa_i p), (2, xa_i nn), (3, xa_i (tt : Int)), (4, xa_i q)] [] := by
                      intro j
                      induction j with
                      | zero => intro cq q g mm m4 m5 hcq hin aG aF3 eM3 e4 e41 fi4 fl4 hj; exfalso; omega
                      | succ j ihD =>
                        intro cq q g mm m4 m5 hcq hin aG aF3 eM3 e4 e41 fi4 fl4 hj
                        refine vx_iload hC 4 rfl eX12_throwsOn_89 ?_
                        refine vx_aload_n hC 0 rfl eX12_throwsOn_91 ?_
                        refine vx_gr hC 1 (ot_31 hO) lf_X12_9 rfl (or_31_1 hO) eX12_throwsOn_92 ?_
                        refine vx_bipush hC (by decide) eX12_throwsOn_95 ?_
                        refine vx_iload_n hC 1 rfl eX12_throwsOn_97 ?_
                        refine vx_iadd hC eX12_throwsOn_98 ?_
                        refine vx_iaload hC (ot_32 hO) (by omega) (by omega) eX12_throwsOn_99 ?_
                        refine vx_eqi (congrFun e4 _) ?_
                        refine vx_icmp_gt hC (tgt := 255) (by omega) (by decide) eX12_throwsOn_100 (fun c7 => ?_) (fun c7 => ?_)
                        · have hin0 : (g, mm) = th_1 s p (F, M) := by rw [← hin, show cq = 0 by omega, th_in]
                          refine vx_iconst hC eX12_throwsOn_255 ?_
                          refine vx_istore hC (lv1 := [(4, xa_i 0), (0, xa_r 31), (1, xa_i p), (2, xa_i nn), (3, xa_i (tt : Int))]) (by decide) rfl eX12_throwsOn_256 ?_
                          have LP258 : ∀ (j : Nat) (q6 : Int) (m6 : Nat → Int → Int) (hkk6 : 0 ≤ q6 ∧ q6 ≤ 13) (aG : ag q6 (m6 36) g) (aT : ag 13 (m6 37) g) (eM6 : m6 31 13 = mm) (fl6 : ∀ k : Nat, (¬ k = 31 ∧ ¬ k = 34 ∧ ¬ k = 35 ∧ ¬ k = 36 ∧ ¬ k = 37) → m6 k = vl k) (hj : 13 - q6 < (j : Int)), xv G K 7 (xk_Q G K (xp_v (fun n1 t1 a1 b1 c1 => (ag 13 (b1 36) (th_all s p nn).1) ∧ (b1 31 13 = (th_all s p nn).2) ∧ (a1 31 = vi 31) ∧ xs_F (fun k => ¬ k = 31 ∧ ¬ k = 34 ∧ ¬ k = 35 ∧ ¬ k = 36 ∧ ¬ k = 37) n tau vi vl vr n1 t1 a1 b1 c1)) 0 0) 0 0 n tau m4 m6 vr 258 [(0, xa_r 31), (1, xa_i p), (2, xa_i nn), (3, xa_i (tt : Int)), (4, xa_i q6)] [] := by
                            intro j
                            induction j with
                            | zero => intro q6 m6 hkk6 aG aT eM6 fl6 hj; exfalso; omega
                            | succ j ihE =>
                              intro q6 m6 hkk6 aG aT eM6 fl6 hj
                              refine vx_iload hC 4 rfl eX12_throwsOn_258 ?_
                              refine vx_bipush hC (by decide) eX12_throwsOn_260 ?_
                              refine vx_icmp_ge hC (tgt := 285) (by omega) (by decide) eX12_throwsOn_262 (fun c8 => ?_) (fun c8 => ?_)
                              · refine vx_iinc hC (lv1 := [(3, xa_i ((tt : Int) + 1)), (0, xa_r 31), (1, xa_i p), (2, xa_i nn), (4, xa_i q6)]) 3 rfl (by decide) rfl eX12_throwsOn_285 ?_
                                refine vx_goto hC (tgt := 45) (by decide) eX12_throwsOn_288 ?_
                                refine vx_lv (lv1 := [(0, xa_r 31), (1, xa_i p), (2, xa_i nn), (3, xa_i ((tt : Int) + 1))]) [1, 2, 3, 0] rfl ?_
                                exact ihB cc1 (tt + 1) g mm m4 m6 (by omega) (by rw [← hrB, th_n, ← hin0]) (by rw [hin0]; exact th_ok_1 hW hp hok) (by rw [show (13 : Int) = q6 by omega]; exact aG) eM6 e4 e41 fi4 fl6 (by omega)
                              · refine vx_aload_n hC 0 rfl eX12_throwsOn_265 ?_
                                refine vx_gr hC 11 (ot_31 hO) lf_X12_25 rfl (or_31_11 hO) eX12_throwsOn_266 ?_
                                refine vx_iload hC 4 rfl eX12_throwsOn_269 ?_
                                refine vx_aload_n hC 0 rfl eX12_throwsOn_271 ?_
                                refine vx_gr hC 12 (ot_31 hO) lf_X12_29 rfl (or_31_12 hO) eX12_throwsOn_272 ?_
                                refine vx_iload hC 4 rfl eX12_throwsOn_275 ?_
                                refine vx_laload hC (ot_37 hO) (by omega) (by omega) eX12_throwsOn_277 ?_
                                refine vx_eql (aT _ (by omega) (by omega)) ?_
                                refine vx_topl (fun x9 hx9 => ?_)
                                refine vx_lastore hC (ot_36 hO) (by omega) (by omega) eX12_throwsOn_278 ?_
                                refine vx_vl (fun v10 hv10 => ?_)
                                obtain ⟨f11, hf11⟩ : ∃ f, f = fu (m6 36) q6 x9 := ⟨_, rfl⟩
                                have hv10_36 : v10 36 = f11 := by rw [hv10, hf11, xu_k]
                                have hv10_31_13 : v10 31 13 = mm := by rw [hv10, xu_c _ _ _ _ (by decide), eM6]
                                have hv10_37 : ag 13 (v10 37) (g) := by rw [hv10, xu_c _ _ _ _ (by decide)]; exact aT
                                have frv10 : ∀ k : Nat, (¬ k = 31 ∧ ¬ k = 34 ∧ ¬ k = 35 ∧ ¬ k = 36 ∧ ¬ k = 37) → v10 k = vl k := fun k hk => by rw [hv10, xu_c _ _ _ _ (by omega)]; exact fl6 k hk
                                refine vx_iinc hC (lv1 := [(4, xa_i (q6 + 1)), (0, xa_r 31), (1, xa_i p), (2, xa_i nn), (3, xa_i (tt : Int))]) 4 rfl (by decide) rfl eX12_throwsOn_279 ?_
                                refine vx_goto hC (tgt := 258) (by decide) eX12_throwsOn_282 ?_
                                refine vx_lv (lv1 := [(0, xa_r 31), (1, xa_i p), (2, xa_i nn), (3, xa_i (tt : Int)), (4, xa_i (q6 + 1))]) [1, 2, 3, 4, 0] rfl ?_
                                exact ihE (q6 + 1) v10 (by omega) (by rw [hv10_36, hf11]; exact ag_step aG rfl hx9) hv10_37 hv10_31_13 frv10 (by omega)
                          refine vx_lv (lv1 := [(0, xa_r 31), (1, xa_i p), (2, xa_i nn), (3, xa_i (tt : Int)), (4, xa_i 0)]) [1, 2, 3, 4, 0] rfl ?_
                          exact LP258 14 0 m5 (by omega) (ag_0 (by omega) _ _) aG eM3 fl4 (by omega)
                        · obtain ⟨cq1, rfl⟩ : ∃ cq1, cq = cq1 + 1 := ⟨cq - 1, by omega⟩
                          have hFq := hFr.1 q (by omega) (by omega)
                          dsimp only at hFq
                          refine vx_iload hC 4 rfl eX12_throwsOn_103 ?_
                          refine vx_if_eq hC (tgt := 122) (by omega) (by decide) eX12_throwsOn_105 (fun c12 => ?_) (fun c12 => ?_)
                          · refine vx_aload_n hC 0 rfl eX12_throwsOn_122 ?_
                            refine vx_gr hC 12 (ot_31 hO) lf_X12_29 rfl (or_31_12 hO) eX12_throwsOn_123 ?_
                            refine vx_iload hC 4 rfl eX12_throwsOn_126 ?_
                            refine vx_dup2 hC rfl rfl eX12_throwsOn_128 ?_
                            refine vx_laload hC (ot_37 hO) (by omega) (by omega) eX12_throwsOn_129 ?_
                            refine vx_eql (aG _ (by omega) (by omega)) ?_
                            refine vx_ldc2 hC (10) wd_1172 eX12_throwsOn_130 ?_
                            refine vx_aload_n hC 0 rfl eX12_throwsOn_133 ?_
                            refine vx_gr hC 11 (ot_31 hO) lf_X12_25 rfl (or_31_11 hO) eX12_throwsOn_134 ?_
                            refine vx_iload hC 4 rfl eX12_throwsOn_137 ?_
                            refine vx_laload hC (ot_36 hO) (by omega) (by omega) eX12_throwsOn_139 ?_
                            refine vx_eql (aF3 _ (by omega) (by omega)) ?_
                            refine vx_lmul hC eX12_throwsOn_140 ?_
                            refine vx_ladd hC eX12_throwsOn_141 ?_
                            refine vx_topl (fun x13 hx13 => ?_)
                            refine vx_lastore hC (ot_37 hO) (by omega) (by omega) eX12_throwsOn_142 ?_
                            refine vx_vl (fun v14 hv14 => ?_)
                            have hv14_36 : ag 13 (v14 36) (F) := by rw [hv14, xu_c _ _ _ _ (by decide)]; exact aF3
                            have hv14_31_13 : v14 31 13 = mm := by rw [hv14, xu_c _ _ _ _ (by decide), eM3]
                            obtain ⟨f15, hf15⟩ : ∃ f, f = fu (g) q x13 := ⟨_, rfl⟩
                            have hv14_37 : ag 13 (v14 37) f15 := by rw [hv14, xu_k, hf15]; exact ag_fu aG
                            have frv14 : ∀ k : Nat, (¬ k = 31 ∧ ¬ k = 34 ∧ ¬ k = 35 ∧ ¬ k = 36 ∧ ¬ k = 37) → v14 k = vl k := fun k hk => by rw [hv14, xu_c _ _ _ _ (by omega)]; exact fl4 k hk
                            have hG9 : f15 = ad g q (10 * F q) := by rw [hf15]; exact ad_eq rfl (by first | rfl | assumption)
                            refine vx_goto hC (tgt := 249) (by decide) eX12_throwsOn_143 ?_
                            refine vx_iinc hC (lv1 := [(4, xa_i (q + 1)), (0, xa_r 31), (1, xa_i p), (2, xa_i nn), (3, xa_i (tt : Int))]) 4 rfl (by decide) rfl eX12_throwsOn_249 ?_
                            refine vx_goto hC (tgt := 89) (by decide) eX12_throwsOn_252 ?_
                            refine vx_lv (lv1 := [(0, xa_r 31), (1, xa_i p), (2, xa_i nn), (3, xa_i (tt : Int)), (4, xa_i (q + 1))]) [1, 2, 3, 4, 0] rfl ?_
                            exact ihD cq1 (q + 1) f15 mm m4 v14 (by omega) (by rw [← hin, th_in, if_pos (by omega), hG9]) hv14_37 hv14_36 hv14_31_13 e4 e41 fi4 frv14 (by omega)
                          · refine vx_iload hC 4 rfl eX12_throwsOn_108 ?_
                            refine vx_aload_n hC 0 rfl eX12_throwsOn_110 ?_
                            refine vx_gr hC 1 (ot_31 hO) lf_X12_9 rfl (or_31_1 hO) eX12_throwsOn_111 ?_
                            refine vx_bipush hC (by decide) eX12_throwsOn_114 ?_
                            refine vx_iload_n hC 1 rfl eX12_throwsOn_116 ?_
                            refine vx_iadd hC eX12_throwsOn_117 ?_
                            refine vx_iaload hC (ot_32 hO) (by omega) (by omega) eX12_throwsOn_118 ?_
                            refine vx_eqi (congrFun e4 _) ?_
                            refine vx_icmp_ne hC (tgt := 146) (by omega) (by decide) eX12_throwsOn_119 (fun c16 => ?_) (fun c16 => ?_)
                            · refine vx_aload_n hC 0 rfl eX12_throwsOn_146 ?_
                              refine vx_gr hC 11 (ot_31 hO) lf_X12_25 rfl (or_31_11 hO) eX12_throwsOn_147 ?_
                              refine vx_iload hC 4 rfl eX12_throwsOn_150 ?_
                              refine vx_laload hC (ot_36 hO) (by omega) (by omega) eX12_throwsOn_152 ?_
                              refine vx_eql (aF3 _ (by omega) (by omega)) ?_
                              refine vx_lconst hC 0 (by decide) eX12_throwsOn_153 ?_
                              refine vx_lcmp hC (by omega) eX12_throwsOn_154 ?_
                              refine vx_if_le hC (tgt := 249) (by omega) (by decide) eX12_throwsOn_155 (fun c17 => ?_) (fun c17 => ?_)
                              · refine vx_iinc hC (lv1 := [(4, xa_i (q + 1)), (0, xa_r 31), (1, xa_i p), (2, xa_i nn), (3, xa_i (tt : Int))]) 4 rfl (by decide) rfl eX12_throwsOn_249 ?_
                                refine vx_goto hC (tgt := 89) (by decide) eX12_throwsOn_252 ?_
                                refine vx_lv (lv1 := [(0, xa_r 31), (1, xa_i p), (2, xa_i nn), (3, xa_i (tt : Int)), (4, xa_i (q + 1))]) [1, 2, 3, 4, 0] rfl ?_
                                exact ihD cq1 (q + 1) g mm m4 m5 (by omega) (by rw [← hin, th_in_skip (by omega) (by omega)]) aG aF3 eM3 e4 e41 fi4 fl4 (by omega)
                              · refine vx_aload_n hC 0 rfl eX12_throwsOn_158 ?_
                                refine vx_iload_n hC 1 rfl eX12_throwsOn_159 ?_
                                refine vx_iload hC 4 rfl eX12_throwsOn_160 ?_
                                refine vx_callV_i hC (kX12_stakeOf G d _ _ _ _ _ hO (s) e4 hW p (by omega) _ (by omega)) ly_X12_157 (ot_31 hO) rfl rfl rfl hRm (by omega) (Nat.le_of_ble_eq_true rfl) rfl eX12_throwsOn_162 (fun x18 n9 t9 a9 b9 c9 hx18 => ?_)
                                obtain ⟨hx18, rfl, rfl, rfl, rfl, rfl⟩ := hx18
                                refine vx_istore hC (lv1 := [(5, xa_i x18), (0, xa_r 31), (1, xa_i p), (2, xa_i nn), (3, xa_i (tt : Int)), (4, xa_i q)]) (by decide) rfl eX12_throwsOn_165 ?_
                                have hs9 := ms_stake_r hW hp (q := q) (by omega)
                                have ho9 : 1 ≤ ms_odds s p q (ms_stake s p q) ∧ ms_odds s p q (ms_stake s p q) ≤ 9 := mclamp_r _
                                refine vx_aload_n hC 1 rfl eX12_throwsOn_167 ?_
                                refine vx_iload_n hC 2 rfl eX12_throwsOn_168 ?_
                                refine vx_iload hC 5 rfl eX12_throwsOn_169 ?_
                                refine vx_iload hC 0 rfl eX12_throwsOn_171 ?_
                                refine vx_callV_i hC (kX12_oddsOf G (d + 2) _ _ _ _ _ hO (s) e4 hW p (by omega) q (by omega) x18 (by omega)) ly_X12_160 (ot_31 hO) rfl rfl rfl hRm (by omega) (Nat.le_of_ble_eq_true rfl) rfl eX12_throwsOn_173 (fun x19 ng20 tg20 ag20 bg20 cg20 hg20 => ?_)
                                obtain ⟨hx19, rfl, rfl, rfl, rfl, frg20⟩ := hg20
                                have hg20_32 : ag20 32 = s := (frg20 32 (by omega)).trans e4
                                have hg20_31 : ag20 31 = vi 31 := (frg20 31 (by omega)).trans e41
                                have frvig20 : ∀ k : Nat, (¬ k = 31 ∧ ¬ k = 34 ∧ ¬ k = 35 ∧ ¬ k = 36 ∧ ¬ k = 37) → ag20 k = vi k := fun k hk => (frg20 k (by omega)).trans (fi4 k hk)
                                have hob : 1 ≤ x19 ∧ x19 ≤ 9 := by rw [hx19]; exact mclamp_r _
                                refine vx_istore hC (lv1 := [(6, xa_i x19), (5, xa_i x18), (0, xa_r 31), (1, xa_i p), (2, xa_i nn), (3, xa_i (tt : Int)), (4, xa_i q)]) (by decide) rfl eX12_throwsOn_176 ?_
                                refine vx_aload_n hC 2 rfl eX12_throwsOn_178 ?_
                                refine vx_gr hC 12 (ot_31 hO) lf_X12_29 rfl (or_31_12 hO) eX12_throwsOn_179 ?_
                                refine vx_iload hC 6 rfl eX12_throwsOn_182 ?_
                                refine vx_iload hC 1 rfl eX12_throwsOn_184 ?_
                                refine vx_iadd hC eX12_throwsOn_186 ?_
                                refine vx_dup2 hC rfl rfl eX12_throwsOn_187 ?_
                                refine vx_laload hC (ot_37 hO) (by omega) (by omega) eX12_throwsOn_188 ?_
                                refine vx_eql (aG _ (by omega) (by omega)) ?_
                                refine vx_iload hC 0 rfl eX12_throwsOn_189 ?_
                                refine vx_i2l hC (by omega) eX12_throwsOn_191 ?_
                                refine vx_aload_n hC 2 rfl eX12_throwsOn_192 ?_
                                refine vx_gr hC 11 (ot_31 hO) lf_X12_25 rfl (or_31_11 hO) eX12_throwsOn_193 ?_
                                refine vx_iload hC 6 rfl eX12_throwsOn_196 ?_
                                refine vx_laload hC (ot_36 hO) (by omega) (by omega) eX12_throwsOn_198 ?_
                                refine vx_eql (aF3 _ (by omega) (by omega)) ?_
                                refine vx_lmul hC eX12_throwsOn_199 ?_
                                refine vx_ladd hC eX12_throwsOn_200 ?_
                                refine vx_topl (fun x21 hx21 => ?_)
                                refine vx_top2 (fun x22 hx22 => ?_)
                                refine vx_lastore hC (ot_37 hO) (by omega) (by omega) eX12_throwsOn_201 ?_
                                refine vx_vl (fun v23 hv23 => ?_)
                                have hv23_36 : ag 13 (v23 36) (F) := by rw [hv23, xu_c _ _ _ _ (by decide)]; exact aF3
                                have hv23_31_13 : v23 31 13 = mm := by rw [hv23, xu_c _ _ _ _ (by decide), eM3]
                                obtain ⟨f24, hf24⟩ : ∃ f, f = fu (g) x22 x21 := ⟨_, rfl⟩
                                have hv23_37 : ag 13 (v23 37) f24 := by rw [hv23, xu_k, hf24]; exact ag_fu aG
                                have frv23 : ∀ k : Nat, (¬ k = 31 ∧ ¬ k = 34 ∧ ¬ k = 35 ∧ ¬ k = 36 ∧ ¬ k = 37) → v23 k = vl k := fun k hk => by rw [hv23, xu_c _ _ _ _ (by omega)]; exact fl4 k hk
                                have hG1 : f24 = ad g (q + ms_stake s p q) (ms_odds s p q (ms_stake s p q) * F q) := by rw [hf24]; exact ad_eq (by simp only [hx4, hx18, hx19, hx21, hx22]) (by simp only [hx4, hx18, hx19, hx21, hx22])
                                refine vx_aload_n hC 2 rfl eX12_throwsOn_202 ?_
                                refine vx_gr hC 12 (ot_31 hO) lf_X12_29 rfl (or_31_12 hO) eX12_throwsOn_203 ?_
                                refine vx_iload hC 6 rfl eX12_throwsOn_206 ?_
                                refine vx_iload hC 1 rfl eX12_throwsOn_208 ?_
                                refine vx_isub hC eX12_throwsOn_210 ?_
                                refine vx_dup2 hC rfl rfl eX12_throwsOn_211 ?_
                                refine vx_laload hC (ot_37 hO) (by omega) (by omega) eX12_throwsOn_212 ?_
                                refine vx_eql (hv23_37 _ (by omega) (by omega)) ?_
                                refine vx_bipush hC (by decide) eX12_throwsOn_213 ?_
                                refine vx_iload hC 0 rfl eX12_throwsOn_215 ?_
                                refine vx_isub hC eX12_throwsOn_217 ?_
                                refine vx_i2l hC (by omega) eX12_throwsOn_218 ?_
                                refine vx_aload_n hC 2 rfl eX12_throwsOn_219 ?_
                                refine vx_gr hC 11 (ot_31 hO) lf_X12_25 rfl (or_31_11 hO) eX12_throwsOn_220 ?_
                                refine vx_iload hC 6 rfl eX12_throwsOn_223 ?_
                                refine vx_laload hC (ot_36 hO) (by omega) (by omega) eX12_throwsOn_225 ?_
                                refine vx_eql (hv23_36 _ (by omega) (by omega)) ?_
                                refine vx_lmul hC eX12_throwsOn_226 ?_
                                refine vx_ladd hC eX12_throwsOn_227 ?_
                                refine vx_topl (fun x25 hx25 => ?_)
                                refine vx_top2 (fun x26 hx26 => ?_)
                                refine vx_lastore hC (ot_37 hO) (by omega) (by omega) eX12_throwsOn_228 ?_
                                refine vx_vl (fun v27 hv27 => ?_)
                                have hv27_36 : ag 13 (v27 36) (F) := by rw [hv27, xu_c _ _ _ _ (by decide)]; exact hv23_36
                                have hv27_31_13 : v27 31 13 = mm := by rw [hv27, xu_c _ _ _ _ (by decide), hv23_31_13]
                                obtain ⟨f28, hf28⟩ : ∃ f, f = fu (f24) x26 x25 := ⟨_, rfl⟩
                                have hv27_37 : ag 13 (v27 37) f28 := by rw [hv27, xu_k, hf28]; exact ag_fu hv23_37
                                have frv27 : ∀ k : Nat, (¬ k = 31 ∧ ¬ k = 34 ∧ ¬ k = 35 ∧ ¬ k = 36 ∧ ¬ k = 37) → v27 k = vl k := fun k hk => by rw [hv27, xu_c _ _ _ _ (by omega)]; exact frv23 k hk
                                have hG2 : f28 = ad (ad g (q + ms_stake s p q) (ms_odds s p q (ms_stake s p q) * F q)) (q - ms_stake s p q) ((10 - ms_odds s p q (ms_stake s p q)) * F q) := by rw [hf28, ← hG1]; exact ad_eq (by simp only [hx4, hx18, hx19, hx21, hx22, hx25, hx26]) (by simp only [hx4, hx18, hx19, hx21, hx22, hx25, hx26])
                                refine vx_aload_n hC 2 rfl eX12_throwsOn_229 ?_
                                refine vx_dup hC rfl eX12_throwsOn_230 ?_
                                refine vx_gl hC 13 (ot_31 hO) lf_X12_170 rfl eX12_throwsOn_231 ?_
                                refine vx_eql hv27_31_13 ?_
                                refine vx_ldc2 hC (10) wd_1172 eX12_throwsOn_234 ?_
                                refine vx_aload_n hC 2 rfl eX12_throwsOn_237 ?_
                                refine vx_gr hC 11 (ot_31 hO) lf_X12_25 rfl (or_31_11 hO) eX12_throwsOn_238 ?_
                                refine vx_iload hC 6 rfl eX12_throwsOn_241 ?_
                                refine vx_laload hC (ot_36 hO) (by omega) (by omega) eX12_throwsOn_243 ?_
                                refine vx_eql (hv27_36 _ (by omega) (by omega)) ?_
                                refine vx_lmul hC eX12_throwsOn_244 ?_
                                refine vx_ladd hC eX12_throwsOn_245 ?_
                                refine vx_topl (fun x29 hx29 => ?_)
                                refine vx_pl hC 13 (ot_31 hO) lp_X12_170 rfl (Or.inl rfl) rfl eX12_throwsOn_246 ?_
                                refine vx_vl (fun v30 hv30 => ?_)
                                have hv30_36 : ag 13 (v30 36) (F) := by rw [hv30, xu_c _ _ _ _ (by decide)]; exact hv27_36
                                have hv30_31_13 : v30 31 13 = x29 := by rw [hv30, xu_k, fu_s]
                                have hv30_37 : ag 13 (v30 37) (f28) := by rw [hv30, xu_c _ _ _ _ (by decide)]; exact hv27_37
                                have frv30 : ∀ k : Nat, (¬ k = 31 ∧ ¬ k = 34 ∧ ¬ k = 35 ∧ ¬ k = 36 ∧ ¬ k = 37) → v30 k = vl k := fun k hk => by rw [hv30, xu_c _ _ _ _ (by omega)]; exact frv27 k hk
                                refine vx_iinc hC (lv1 := [(4, xa_i (q + 1)), (6, xa_i x19), (5, xa_i x18), (0, xa_r 31), (1, xa_i p), (2, xa_i nn), (3, xa_i (tt : Int))]) 6 rfl (by decide) rfl eX12_throwsOn_249 ?_
                                refine vx_goto hC (tgt := 89) (by decide) eX12_throwsOn_252 ?_
                                refine vx_lv (lv1 := [(0, xa_r 31), (1, xa_i p), (2, xa_i nn), (3, xa_i (tt : Int)), (4, xa_i (q + 1))]) [3, 4, 5, 6, 0] rfl ?_
                                exact ihD cq1 (q + 1) f28 x29 ag20 v30 (by omega) (by rw [← hin, th_in, if_neg (by omega), hG2, hx29]) hv30_37 hv30_36 hv30_31_13 hg20_32 hg20_31 frvig20 frv30 (by omega)
                            · refine vx_aload_n hC 0 rfl eX12_throwsOn_122 ?_
                              refine vx_gr hC 12 (ot_31 hO) lf_X12_29 rfl (or_31_12 hO) eX12_throwsOn_123 ?_
                              refine vx_iload hC 4 rfl eX12_throwsOn_126 ?_
                              refine vx_dup2 hC rfl rfl eX12_throwsOn_128 ?_
                              refine vx_laload hC (ot_37 hO) (by omega) (by omega) eX12_throwsOn_129 ?_
                              refine vx_eql (aG _ (by omega) (by omega)) ?_
                              refine vx_ldc2 hC (10) wd_1172 eX12_throwsOn_130 ?_
                              refine vx_aload_n hC 0 rfl eX12_throwsOn_133 ?_
                              refine vx_gr hC 11 (ot_31 hO) lf_X12_25 rfl (or_31_11 hO) eX12_throwsOn_134 ?_
                              refine vx_iload hC 4 rfl eX12_throwsOn_137 ?_
                              refine vx_laload hC (ot_36 hO) (by omega) (by omega) eX12_throwsOn_139 ?_
                              refine vx_eql (aF3 _ (by omega) (by omega)) ?_
                              refine vx_lmul hC eX12_throwsOn_140 ?_
                              refine vx_ladd hC eX12_throwsOn_141 ?_
                              refine vx_topl (fun x31 hx31 => ?_)
                              refine vx_lastore hC (ot_37 hO) (by omega) (by omega) eX12_throwsOn_142 ?_
                              refine vx_vl (fun v32 hv32 => ?_)
                              have hv32_36 : ag 13 (v32 36) (F) := by rw [hv32, xu_c _ _ _ _ (by decide)]; exact aF3
                              have hv32_31_13 : v32 31 13 = mm := by rw [hv32, xu_c _ _ _ _ (by decide), eM3]
                              obtain ⟨f33, hf33⟩ : ∃ f, f = fu (g) q x31 := ⟨_, rfl⟩
                              have hv32_37 : ag 13 (v32 37) f33 := by rw [hv32, xu_k, hf33]; exact ag_fu aG
                              have frv32 : ∀ k : Nat, (¬ k = 31 ∧ ¬ k = 34 ∧ ¬ k = 35 ∧ ¬ k = 36 ∧ ¬ k = 37) → v32 k = vl k := fun k hk => by rw [hv32, xu_c _ _ _ _ (by omega)]; exact fl4 k hk
                              have hG9 : f33 = ad g q (10 * F q) := by rw [hf33]; exact ad_eq rfl (by first | rfl | assumption)
                              refine vx_goto hC (tgt := 249) (by decide) eX12_throwsOn_143 ?_
                              refine vx_iinc hC (lv1 := [(4, xa_i (q + 1)), (0, xa_r 31), (1, xa_i p), (2, xa_i nn), (3, xa_i (tt : Int))]) 4 rfl (by decide) rfl eX12_throwsOn_249 ?_
                              refine vx_goto hC (tgt := 89) (by decide) eX12_throwsOn_252 ?_
                              refine vx_lv (lv1 := [(0, xa_r 31), (1, xa_i p), (2, xa_i nn), (3, xa_i (tt : Int)), (4, xa_i (q + 1))]) [1, 2, 3, 4, 0] rfl ?_
                              exact ihD cq1 (q + 1) f33 mm m4 v32 (by omega) (by rw [← hin, th_in, if_pos (by omega), hG9]) hv32_37 hv32_36 hv32_31_13 e4 e41 fi4 frv32 (by omega)
                    refine vx_lv (lv1 := [(0, xa_r 31), (1, xa_i p), (2, xa_i nn), (3, xa_i (tt : Int)), (4, xa_i 0)]) [1, 2, 3, 4, 0] rfl ?_
                    exact LP89 14 (s (18 + p) + 1).toNat 0 fz0 x4 m1 m3 (by omega) (by unfold th_1; rw [hx4]) (by rw [show (13 : Int) = kk by omega]; exact ha) aF2 eM2 e1 e31 fi fl3 (by omega)
                  · refine vx_aload_n hC 0 rfl eX12_throwsOn_72 ?_
                    refine vx_gr hC 12 (ot_31 hO) lf_X12_29 rfl (or_31_12 hO) eX12_throwsOn_73 ?_
                    refine vx_iload hC 4 rfl eX12_throwsOn_76 ?_
                    refine vx_lconst hC 0 (by decide) eX12_throwsOn_78 ?_
                    refine vx_lastore hC (ot_37 hO) (by omega) (by omega) eX12_throwsOn_79 ?_
                    refine vx_vl (fun v34 hv34 => ?_)
                    have hv34_36 : ag 13 (v34 36) (F) := by rw [hv34, xu_c _ _ _ _ (by decide)]; exact aF2
                    have hv34_31_13 : v34 31 13 = x4 := by rw [hv34, xu_c _ _ _ _ (by decide), eM2]
                    obtain ⟨f35, hf35⟩ : ∃ f, f = fu (m3 37) kk 0 := ⟨_, rfl⟩
                    have hv34_37 : v34 37 = f35 := by rw [hv34, hf35, xu_k]
                    have frv34 : ∀ k : Nat, (¬ k = 31 ∧ ¬ k = 34 ∧ ¬ k = 35 ∧ ¬ k = 36 ∧ ¬ k = 37) → v34 k = vl k := fun k hk => by rw [hv34, xu_c _ _ _ _ (by omega)]; exact fl3 k hk
                    refine vx_iinc hC (lv1 := [(4, xa_i (kk + 1)), (0, xa_r 31), (1, xa_i p), (2, xa_i nn), (3, xa_i (tt : Int))]) 4 rfl (by decide) rfl eX12_throwsOn_80 ?_
                    refine vx_goto hC (tgt := 65) (by decide) eX12_throwsOn_83 ?_
                    refine vx_lv (lv1 := [(0, xa_r 31), (1, xa_i p), (2, xa_i nn), (3, xa_i (tt : Int)), (4, xa_i (kk + 1))]) [1, 2, 3, 4, 0] rfl ?_
                    exact ihC (kk + 1) v34 (by omega) (by rw [hv34_37, hf35]; exact ag_step ha rfl rfl) hv34_36 hv34_31_13 frv34 (by omega)
              refine vx_lv (lv1 := [(0, xa_r 31), (1, xa_i p), (2, xa_i nn), (3, xa_i (tt : Int)), (4, xa_i 0)]) [1, 2, 3, 4, 0] rfl ?_
              exact LP65 14 0 v5 (by omega) (ag_0 (by omega) _ _) hv5_36 hv5_31_13 frv5 (by omega)
        refine vx_lv (lv1 := [(0, xa_r 31), (1, xa_i p), (2, xa_i nn), (3, xa_i 0)]) [1, 2, 3, 0] rfl ?_
        exact LP45 16 nn.toNat 0 (th_0 s p) 0 vi v2 (by omega) rfl (th_ok_0 s p) (by rw [hv2_36, show (13 : Int) = kk by omega]; exact ha) hv2_31_13 h32 rfl (fun _ _ => rfl) frv2 (by omega)
      · refine vx_aload_n hC 0 rfl eX12_throwsOn_8 ?_
        refine vx_gr hC 11 (ot_31 hO) lf_X12_25 rfl (or_31_11 hO) eX12_throwsOn_9 ?_
        refine vx_iload_n hC 3 rfl eX12_throwsOn_12 ?_
        refine vx_iload_n hC 3 rfl eX12_throwsOn_13 ?_
        refine vx_aload_n hC 0 rfl eX12_throwsOn_14 ?_
        refine vx_gr hC 1 (ot_31 hO) lf_X12_9 rfl (or_31_1 hO) eX12_throwsOn_15 ?_
        refine vx_bipush hC (by decide) eX12_throwsOn_18 ?_
        refine vx_iload_n hC 1 rfl eX12_throwsOn_20 ?_
        refine vx_iadd hC eX12_throwsOn_21 ?_
        refine vx_iaload hC (ot_32 hO) (by omega) (by omega) eX12_throwsOn_22 ?_
        refine vx_eqi (congrFun h32 _) ?_
        have J31_z36 : ∀ z36 : Int, ((kk = s (22 + p) ∧ z36 = 1) ∨ (¬ kk = s (22 + p) ∧ z36 = 0)) → xv G K 7 (xk_Q G K (xp_v (fun n1 t1 a1 b1 c1 => (ag 13 (b1 36) (th_all s p nn).1) ∧ (b1 31 13 = (th_all s p nn).2) ∧ (a1 31 = vi 31) ∧ xs_F (fun k => ¬ k = 31 ∧ ¬ k = 34 ∧ ¬ k = 35 ∧ ¬ k = 36 ∧ ¬ k = 37) n tau vi vl vr n1 t1 a1 b1 c1)) 0 0) 0 0 n tau vi m2 vr 31 [(0, xa_r 31), (1, xa_i p), (2, xa_i nn), (3, xa_i kk)] [xa_l z36, xa_i kk, xa_r 36] := by
          intro z36 hz36
          refine vx_lastore hC (ot_36 hO) (by omega) (by omega) eX12_throwsOn_31 ?_
          refine vx_vl (fun v37 hv37 => ?_)
          obtain ⟨f38, hf38⟩ : ∃ f, f = fu (m2 36) kk z36 := ⟨_, rfl⟩
          have hv37_36 : v37 36 = f38 := by rw [hv37, hf38, xu_k]
          have hv37_31_13 : v37 31 13 = m2 31 13 := by rw [hv37, xu_c _ _ _ _ (by decide)]
          have frv37 : ∀ k : Nat, (¬ k = 31 ∧ ¬ k = 34 ∧ ¬ k = 35 ∧ ¬ k = 36 ∧ ¬ k = 37) → v37 k = vl k := fun k hk => by rw [hv37, xu_c _ _ _ _ (by omega)]; exact fl k hk
          refine vx_iinc hC (lv1 := [(3, xa_i (kk + 1)), (0, xa_r 31), (1, xa_i p), (2, xa_i nn)]) 3 rfl (by decide) rfl eX12_throwsOn_32 ?_
          refine vx_goto hC (tgt := 2) (by decide) eX12_throwsOn_35 ?_
          refine vx_lv (lv1 := [(0, xa_r 31), (1, xa_i p), (2, xa_i nn), (3, xa_i (kk + 1))]) [1, 2, 3, 0] rfl ?_
          exact ih (kk + 1) v37 (by omega) (by rw [hv37_36, hf38]; exact ag_step ha rfl (by unfold th_0; split <;> omega)) frv37 (by omega)
        refine vx_icmp_ne hC (tgt := 30) (by omega) (by decide) eX12_throwsOn_23 (fun c39 => ?_) (fun c39 => ?_)
        · refine vx_lconst hC 0 (by decide) eX12_throwsOn_30 ?_
          exact J31_z36 _ (by omega)
        · refine vx_lconst hC 1 (by decide) eX12_throwsOn_26 ?_
          refine vx_goto hC (tgt := 31) (by decide) eX12_throwsOn_27 ?_
          exact J31_z36 _ (by omega)
  refine vx_lv (lv1 := [(0, xa_r 31), (1, xa_i p), (2, xa_i nn), (3, xa_i 0)]) [1, 2, 3, 0] rfl ?_
  exact LP2 14 0 vl (by omega) (ag_0 (by omega) _ _) (fun _ _ => rfl) (by omega)
set_option maxHeartbeats 4000000 in
set_option maxRecDepth 100000 in
theorem kX12_isAsked (G : xg_T) (d : Nat) (n : Nat) (tau : Nat → Nat × Nat) (vi vl : Nat → Int → Int) (vr : Nat → Int → Option Nat) (hO : xo n tau vr) (s : Int → Int) (h32 : vi 32 = s) (h0 : 0 ≤ s 0 ∧ s 0 ≤ 4) (q m pt : Int) (hq : -2147483648 ≤ q ∧ q < 2147483648) (hm : -2147483648 ≤ m ∧ m < 2147483648) (hpt : -2147483648 ≤ pt ∧ pt < 2147483648) : xm G yX12_isAsked cX12_isAsked 4 (some .boolean) (d + 3) 0 0 [xa_r 31, xa_i q, xa_i m, xa_i pt] n tau vi vl vr (xp_i (fun z9 n1 t1 a1 b1 c1 => ((z9 = 1 ∧ 0 ≤ q ∧ q < s 0 ∧ 0 ≤ m ∧ m ≤ 15 ∧ 0 ≤ pt ∧ pt ≤ 1) ∨ (z9 = 0 ∧ (q < 0 ∨ s 0 ≤ q ∨ m < 0 ∨ 15 < m ∨ pt < 0 ∨ 1 < pt))) ∧ xs_0 n tau vi vl vr n1 t1 a1 b1 c1)) := by
  refine xm.of (lv := [(0, xa_r 31), (1, xa_i q), (2, xa_i m), (3, xa_i pt)]) (by decide) (Nat.le_of_ble_eq_true rfl) rfl (fun K hC hM hRm => ?_)
  refine vx_aload_n hC 0 rfl eX12_isAsked_0 ?_
  refine vx_iload_n hC 1 rfl eX12_isAsked_1 ?_
  refine vx_callV_i hC (kX12_isPlayer G d _ _ _ _ _ hO (s) h32 _ (by omega) (by omega)) ly_X12_140 (ot_31 hO) rfl rfl rfl hRm (by omega) (Nat.le_of_ble_eq_true rfl) rfl eX12_isAsked_2 (fun x1 n9 t9 a9 b9 c9 hx1 => ?_)
  obtain ⟨hx1, rfl, rfl, rfl, rfl, rfl⟩ := hx1
  refine vx_if_eq hC (tgt := 31) (by omega) (by decide) eX12_isAsked_5 (fun c2 => ?_) (fun c2 => ?_)
  · refine vx_iconst hC eX12_isAsked_31 ?_
    exact vx_iret hC hM (by decide) eX12_isAsked_32 (⟨_, rfl, by omega, xs_0.rf _ _ _ _ _⟩)
  · refine vx_iload_n hC 2 rfl eX12_isAsked_8 ?_
    refine vx_iconst hC eX12_isAsked_9 ?_
    refine vx_bipush hC (by decide) eX12_isAsked_10 ?_
    refine vx_callS_i hC (kX12_in G (d + 1) _ _ _ _ _ _ _ _ (by omega) (by omega) (by omega)) ly_X12_57 rfl hRm (by omega) (Nat.le_of_ble_eq_true rfl) rfl eX12_isAsked_12 (fun x3 n9 t9 a9 b9 c9 hx3 => ?_)
    obtain ⟨hx3, rfl, rfl, rfl, rfl, rfl⟩ := hx3
    refine vx_if_eq hC (tgt := 31) (by omega) (by decide) eX12_isAsked_15 (fun c4 => ?_) (fun c4 => ?_)
    · refine vx_iconst hC eX12_isAsked_31 ?_
      exact vx_iret hC hM (by decide) eX12_isAsked_32 (⟨_, rfl, by omega, xs_0.rf _ _ _ _ _⟩)
    · refine vx_iload_n hC 3 rfl eX12_isAsked_18 ?_
      refine vx_iconst hC eX12_isAsked_19 ?_
      refine vx_iconst hC eX12_isAsked_20 ?_
      refine vx_callS_i hC (kX12_in G (d + 1) _ _ _ _ _ _ _ _ (by omega) (by omega) (by omega)) ly_X12_57 rfl hRm (by omega) (Nat.le_of_ble_eq_true rfl) rfl eX12_isAsked_21 (fun x5 n9 t9 a9 b9 c9 hx5 => ?_)
      obtain ⟨hx5, rfl, rfl, rfl, rfl, rfl⟩ := hx5
      refine vx_if_eq hC (tgt := 31) (by omega) (by decide) eX12_isAsked_24 (fun c6 => ?_) (fun c6 => ?_)
      · refine vx_iconst hC eX12_isAsked_31 ?_
        exact vx_iret hC hM (by decide) eX12_isAsked_32 (⟨_, rfl, by omega, xs_0.rf _ _ _ _ _⟩)
      · refine vx_iconst hC eX12_isAsked_27 ?_
        refine vx_goto hC (tgt := 32) (by decide) eX12_isAsked_28 ?_
        exact vx_iret hC hM (by decide) eX12_isAsked_32 (⟨_, rfl, by omega, xs_0.rf _ _ _ _ _⟩)
def mNO : Int := -9223372036854775808
abbrev ask (s : Int → Int) (q m pt : Int) : Prop := 0 ≤ q ∧ q < s 0 ∧ 0 ≤ m ∧ m ≤ 15 ∧ 0 ≤ pt ∧ pt ≤ 1
def sp_within (s : Int → Int) (q m x pt : Int) : Int := if ask s q m pt ∧ 0 ≤ x ∧ x ≤ s (18 + q) then mz_low ((th_all s q m).1 x) ((10 : Int) ^ m.toNat) pt else mNO
def sp_lasts (s : Int → Int) (q m pt : Int) : Int := if ask s q m pt then mz_low (th_all s q m).2 ((10 : Int) ^ m.toNat) pt else mNO
def mn_sum (f : Int → Int) : Int → Nat → Int
  | _, 0 => 0
  | q, c + 1 => q * f q + mn_sum f (q + 1) c
def sp_mean (s : Int → Int) (q m pt : Int) : Int := if ask s q m pt then mz_low (mn_sum (th_all s q m).1 0 13) ((10 : Int) ^ m.toNat) pt else mNO
theorem mn_r {f : Int → Int} : ∀ (c : Nat) (q : Int), 0 ≤ q → q + (c : Int) ≤ 13 → (∀ z, 0 ≤ z → z < 13 → 0 ≤ f z) → 0 ≤ mn_sum f q c ∧ mn_sum f q c ≤ 12 * sq f q c
  | 0, q, _, _, _ => by simp [mn_sum, sq]
  | c + 1, q, h1, h2, h => by
    have ih := mn_r (f := f) c (q + 1) (by omega) (by omega) h
    have h3 := h q h1 (by omega)
    have h4 : 0 ≤ q * f q := Int.mul_nonneg h1 h3
    have h5 : q * f q ≤ 12 * f q := Int.mul_le_mul_of_nonneg_right (by omega) h3
    rw [mn_sum, sq]
    omega
set_option maxHeartbeats 4000000 in
set_option maxRecDepth 100000 in
theorem kX12_within (G : xg_T) (d : Nat) (n : Nat) (tau : Nat → Nat × Nat) (vi vl : Nat → Int → Int) (vr : Nat → Int → Option Nat) (hI : MI n tau vi vr) (q m x pt : Int) (hq : -2147483648 ≤ q ∧ q < 2147483648) (hm : -2147483648 ≤ m ∧ m < 2147483648) (hx : -2147483648 ≤ x ∧ x < 2147483648) (hpt : -2147483648 ≤ pt ∧ pt < 2147483648) : xm G yX12_within cX12_within 5 (some .long) (d + 5) 0 0 [xa_r 31, xa_i q, xa_i m, xa_i x, xa_i pt] n tau vi vl vr (xp_l (fun z9 n1 t1 a1 b1 c1 => z9 = sp_within (vi 32) q m x pt ∧ mq (vi 32) (vi 33) (vi 31 3) (vi 31 22) (vi 44) n tau vi vl vr n1 t1 a1 b1 c1)) := by
  refine xm.of (lv := [(0, xa_r 31), (1, xa_i q), (2, xa_i m), (3, xa_i x), (4, xa_i pt)]) (by decide) (Nat.le_of_ble_eq_true rfl) rfl (fun K hC hM hRm => ?_)
  obtain ⟨hO, ⟨⟨hr, h0, h1, h2, h3, h4, h5, h6, hp0, hrow, hwon, htape, htab⟩, h60⟩, him, hran, hz1, hz2⟩ := hI
  have hW : ms_W (vi 32) := ⟨hr, h0, h1, h2, h3, h4, h5, h6, hp0, hrow, hwon, htape, htab⟩
  have gq := hr (18 + q)
  refine vx_aload_n hC 0 rfl eX12_within_0 ?_
  refine vx_iload_n hC 1 rfl eX12_within_1 ?_
  refine vx_iload_n hC 2 rfl eX12_within_2 ?_
  refine vx_iload hC 4 rfl eX12_within_3 ?_
  refine vx_callV_i hC (kX12_isAsked G (d + 1) _ _ _ _ _ hO (vi 32) rfl (by omega) _ _ _ (by omega) (by omega) (by omega)) ly_X12_174 (ot_31 hO) rfl rfl rfl hRm (by omega) (Nat.le_of_ble_eq_true rfl) rfl eX12_within_5 (fun x1 n9 t9 a9 b9 c9 hx1 => ?_)
  obtain ⟨hx1, rfl, rfl, rfl, rfl, rfl⟩ := hx1
  refine vx_if_eq hC (tgt := 28) (by omega) (by decide) eX12_within_8 (fun c2 => ?_) (fun c2 => ?_)
  · refine vx_ldc2 hC (-9223372036854775808) wd_1167 eX12_within_28 ?_
    exact vx_lret hC hM eX12_within_31 (⟨_, rfl, by unfold sp_within; first | (rw [if_pos (by unfold ask; omega)]; simp only []; done) | (rw [if_neg (by unfold ask; omega)]; rfl), rfl, rfl, rfl, rfl, rfl, rfl, rfl, rfl, fun k hk => ⟨rfl, rfl⟩⟩)
  · refine vx_iload_n hC 3 rfl eX12_within_11 ?_
    refine vx_iconst hC eX12_within_12 ?_
    refine vx_aload_n hC 0 rfl eX12_within_13 ?_
    refine vx_gr hC 1 (ot_31 hO) lf_X12_9 rfl (or_31_1 hO) eX12_within_14 ?_
    refine vx_bipush hC (by decide) eX12_within_17 ?_
    refine vx_iload_n hC 1 rfl eX12_within_19 ?_
    refine vx_iadd hC eX12_within_20 ?_
    refine vx_iaload hC (ot_32 hO) (by omega) (by omega) eX12_within_21 ?_
    refine vx_callS_i hC (kX12_in G (d + 3) _ _ _ _ _ _ _ _ (by omega) (by omega) (by omega)) ly_X12_57 rfl hRm (by omega) (Nat.le_of_ble_eq_true rfl) rfl eX12_within_22 (fun x3 n9 t9 a9 b9 c9 hx3 => ?_)
    obtain ⟨hx3, rfl, rfl, rfl, rfl, rfl⟩ := hx3
    refine vx_if_ne hC (tgt := 32) (by omega) (by decide) eX12_within_25 (fun c4 => ?_) (fun c4 => ?_)
    · obtain ⟨g1, g2, g3, g4⟩ := hp0 q (by omega) (by omega)
      refine vx_aload_n hC 0 rfl eX12_within_32 ?_
      refine vx_iload_n hC 1 rfl eX12_within_33 ?_
      refine vx_iload_n hC 2 rfl eX12_within_34 ?_
      refine vx_callV_v hC (kX12_throwsOn G d _ _ _ _ _ hO (vi 32) rfl hW q (by omega) m (by omega)) ly_X12_179 (ot_31 hO) rfl rfl rfl hRm (by omega) (Nat.le_of_ble_eq_true rfl) rfl eX12_within_35 (fun ng6 tg6 ag6 bg6 cg6 hg6 => ?_)
      obtain ⟨qg6_0, qg6_1, qg6_2, rfl, rfl, rfl, frg6⟩ := hg6
      have hg6_32 : ag6 32 = vi 32 := (frg6 32 (by omega)).1
      have hg6_33 : ag6 33 = vi 33 := (frg6 33 (by omega)).1
      have hg6_31_3 : ag6 31 3 = vi 31 3 := (congrFun qg6_2 _)
      have hg6_31_22 : ag6 31 22 = vi 31 22 := (congrFun qg6_2 _)
      have hg6_44 : ag6 44 = vi 44 := (frg6 44 (by omega)).1
      have frvig6 : ∀ k : Nat, (k < 31 ∨ 44 < k) → ag6 k = vi k := fun k hk => (frg6 k (by omega)).1
      have frvlg6 : ∀ k : Nat, (k < 31 ∨ 44 < k) → bg6 k = vl k := fun k hk => (frg6 k (by omega)).2
      have hth : th_ok (m).toNat (th_all (vi 32) q m) := by have := th_ok_n hW (p := q) (by omega) (m).toNat 0 _ (th_ok_0 (vi 32) q); rwa [Nat.zero_add] at this
      have htr := th_ok_r (by omega) hth
      have ht10 := ten_le (t := (m).toNat) (by omega)
      refine vx_aload_n hC 0 rfl eX12_within_38 ?_
      refine vx_gr hC 11 (ot_31 hO) lf_X12_25 rfl (or_31_11 hO) eX12_within_39 ?_
      refine vx_iload_n hC 3 rfl eX12_within_42 ?_
      refine vx_laload hC (ot_36 hO) (by omega) (by omega) eX12_within_43 ?_
      refine vx_eql (qg6_0 _ (by omega) (by omega)) ?_
      have hx9 := htr.1 x (by omega) (by omega)
      refine vx_iload_n hC 2 rfl eX12_within_44 ?_
      refine vx_callS_l hC (kX12_tens G (d + 3) _ _ _ _ _ m (by omega)) ly_X12_183 rfl hRm (by omega) (Nat.le_of_ble_eq_true rfl) rfl eX12_within_45 (fun x7 n9 t9 a9 b9 c9 hx7 => ?_)
      obtain ⟨hx7, rfl, rfl, rfl, rfl, rfl⟩ := hx7
      refine vx_iload hC 4 rfl eX12_within_48 ?_
      refine vx_callS_l hC (kX12_lowest G (d + 3) _ _ _ _ _ _ _ _ (by omega) (by omega) (by omega)) ly_X12_187 rfl hRm (by omega) (Nat.le_of_ble_eq_true rfl) rfl eX12_within_50 (fun x8 n9 t9 a9 b9 c9 hx8 => ?_)
      obtain ⟨hx8, rfl, rfl, rfl, rfl, rfl⟩ := hx8
      exact vx_lret hC hM eX12_within_53 (⟨_, rfl, by unfold sp_within; first | (rw [if_pos (by unfold ask; omega)]; simp only [hx7, hx8]; done) | (rw [if_neg (by unfold ask; omega)]; rfl), rfl, rfl, rfl, hg6_32, hg6_33, hg6_31_3, hg6_31_22, hg6_44, fun k hk => ⟨frvig6 k hk, frvlg6 k hk⟩⟩)
    · refine vx_ldc2 hC (-9223372036854775808) wd_1167 eX12_within_28 ?_
      exact vx_lret hC hM eX12_within_31 (⟨_, rfl, by unfold sp_within; first | (rw [if_pos (by unfold ask; omega)]; simp only []; done) | (rw [if_neg (by unfold ask; omega)]; rfl), rfl, rfl, rfl, rfl, rfl, rfl, rfl, rfl, fun k hk => ⟨rfl, rfl⟩⟩)
set_option maxHeartbeats 4000000 in
set_option maxRecDepth 100000 in
theorem kX12_lasts (G : xg_T) (d : Nat) (n : Nat) (tau : Nat → Nat × Nat) (vi vl : Nat → Int → Int) (vr : Nat → Int → Option Nat) (hI : MI n tau vi vr) (q m pt : Int) (hq : -2147483648 ≤ q ∧ q < 2147483648) (hm : -2147483648 ≤ m ∧ m < 2147483648) (hpt : -2147483648 ≤ pt ∧ pt < 2147483648) : xm G yX12_lasts cX12_lasts 4 (some .long) (d + 5) 0 0 [xa_r 31, xa_i q, xa_i m, xa_i pt] n tau vi vl vr (xp_l (fun z9 n1 t1 a1 b1 c1 => z9 = sp_lasts (vi 32) q m pt ∧ mq (vi 32) (vi 33) (vi 31 3) (vi 31 22) (vi 44) n tau vi vl vr n1 t1 a1 b1 c1)) := by
  refine xm.of (lv := [(0, xa_r 31), (1, xa_i q), (2, xa_i m), (3, xa_i pt)]) (by decide) (Nat.le_of_ble_eq_true rfl) rfl (fun K hC hM hRm => ?_)
  obtain ⟨hO, ⟨⟨hr, h0, h1, h2, h3, h4, h5, h6, hp0, hrow, hwon, htape, htab⟩, h60⟩, him, hran, hz1, hz2⟩ := hI
  have hW : ms_W (vi 32) := ⟨hr, h0, h1, h2, h3, h4, h5, h6, hp0, hrow, hwon, htape, htab⟩
  refine vx_aload_n hC 0 rfl eX12_lasts_0 ?_
  refine vx_iload_n hC 1 rfl eX12_lasts_1 ?_
  refine vx_iload_n hC 2 rfl eX12_lasts_2 ?_
  refine vx_iload_n hC 3 rfl eX12_lasts_3 ?_
  refine vx_callV_i hC (kX12_isAsked G (d + 1) _ _ _ _ _ hO (vi 32) rfl (by omega) _ _ _ (by omega) (by omega) (by omega)) ly_X12_174 (ot_31 hO) rfl rfl rfl hRm (by omega) (Nat.le_of_ble_eq_true rfl) rfl eX12_lasts_4 (fun x1 n9 t9 a9 b9 c9 hx1 => ?_)
  obtain ⟨hx1, rfl, rfl, rfl, rfl, rfl⟩ := hx1
  refine vx_if_ne hC (tgt := 14) (by omega) (by decide) eX12_lasts_7 (fun c2 => ?_) (fun c2 => ?_)
  · refine vx_aload_n hC 0 rfl eX12_lasts_14 ?_
    refine vx_iload_n hC 1 rfl eX12_lasts_15 ?_
    refine vx_iload_n hC 2 rfl eX12_lasts_16 ?_
    refine vx_callV_v hC (kX12_throwsOn G d _ _ _ _ _ hO (vi 32) rfl hW q (by omega) m (by omega)) ly_X12_179 (ot_31 hO) rfl rfl rfl hRm (by omega) (Nat.le_of_ble_eq_true rfl) rfl eX12_lasts_17 (fun ng4 tg4 ag4 bg4 cg4 hg4 => ?_)
    obtain ⟨qg4_0, qg4_1, qg4_2, rfl, rfl, rfl, frg4⟩ := hg4
    have hg4_32 : ag4 32 = vi 32 := (frg4 32 (by omega)).1
    have hg4_33 : ag4 33 = vi 33 := (frg4 33 (by omega)).1
    have hg4_31_3 : ag4 31 3 = vi 31 3 := (congrFun qg4_2 _)
    have hg4_31_22 : ag4 31 22 = vi 31 22 := (congrFun qg4_2 _)
    have hg4_44 : ag4 44 = vi 44 := (frg4 44 (by omega)).1
    have frvig4 : ∀ k : Nat, (k < 31 ∨ 44 < k) → ag4 k = vi k := fun k hk => (frg4 k (by omega)).1
    have frvlg4 : ∀ k : Nat, (k < 31 ∨ 44 < k) → bg4 k = vl k := fun k hk => (frg4 k (by omega)).2
    have hth : th_ok (m).toNat (th_all (vi 32) q m) := by have := th_ok_n hW (p := q) (by omega) (m).toNat 0 _ (th_ok_0 (vi 32) q); rwa [Nat.zero_add] at this
    have htr := th_ok_r (by omega) hth
    have ht10 := ten_le (t := (m).toNat) (by omega)
    refine vx_aload_n hC 0 rfl eX12_lasts_20 ?_
    refine vx_gl hC 13 (ot_31 hO) lf_X12_170 rfl eX12_lasts_21 ?_
    refine vx_eql qg4_1 ?_
    refine vx_iload_n hC 2 rfl eX12_lasts_24 ?_
    refine vx_callS_l hC (kX12_tens G (d + 3) _ _ _ _ _ m (by omega)) ly_X12_183 rfl hRm (by omega) (Nat.le_of_ble_eq_true rfl) rfl eX12_lasts_25 (fun x5 n9 t9 a9 b9 c9 hx5 => ?_)
    obtain ⟨hx5, rfl, rfl, rfl, rfl, rfl⟩ := hx5
    refine vx_iload_n hC 3 rfl eX12_lasts_28 ?_
    refine vx_callS_l hC (kX12_lowest G (d + 3) _ _ _ _ _ _ _ _ (by omega) (by omega) (by omega)) ly_X12_187 rfl hRm (by omega) (Nat.le_of_ble_eq_true rfl) rfl eX12_lasts_29 (fun x6 n9 t9 a9 b9 c9 hx6 => ?_)
    obtain ⟨hx6, rfl, rfl, rfl, rfl, rfl⟩ := hx6
    exact vx_lret hC hM eX12_lasts_32 (⟨_, rfl, by unfold sp_lasts; first | (rw [if_pos (by unfold ask; omega)]; simp only [hx5, hx6]; done) | (rw [if_neg (by unfold ask; omega)]; rfl), rfl, rfl, rfl, hg4_32, hg4_33, hg4_31_3, hg4_31_22, hg4_44, fun k hk => ⟨frvig4 k hk, frvlg4 k hk⟩⟩)
  · refine vx_ldc2 hC (-9223372036854775808) wd_1167 eX12_lasts_10 ?_
    exact vx_lret hC hM eX12_lasts_13 (⟨_, rfl, by unfold sp_lasts; first | (rw [if_pos (by unfold ask; omega)]; simp only []; done) | (rw [if_neg (by unfold ask; omega)]; rfl), rfl, rfl, rfl, rfl, rfl, rfl, rfl, rfl, fun k hk => ⟨rfl, rfl⟩⟩)
set_option maxHeartbeats 4000000 in
set_option maxRecDepth 100000 in
theorem kX12_mean (G : xg_T) (d : Nat) (n : Nat) (tau : Nat → Nat × Nat) (vi vl : Nat → Int → Int) (vr : Nat → Int → Option Nat) (hI : MI n tau vi vr) (q m pt : Int) (hq : -2147483648 ≤ q ∧ q < 2147483648) (hm : -2147483648 ≤ m ∧ m < 2147483648) (hpt : -2147483648 ≤ pt ∧ pt < 2147483648) : xm G yX12_mean cX12_mean 7 (some .long) (d + 5) 0 0 [xa_r 31, xa_i q, xa_i m, xa_i pt] n tau vi vl vr (xp_l (fun z9 n1 t1 a1 b1 c1 => z9 = sp_mean (vi 32) q m pt ∧ mq (vi 32) (vi 33) (vi 31 3) (vi 31 22) (vi 44) n tau vi vl vr n1 t1 a1 b1 c1)) := by
  refine xm.of (lv := [(0, xa_r 31), (1, xa_i q), (2, xa_i m), (3, xa_i pt)]) (by decide) (Nat.le_of_ble_eq_true rfl) rfl (fun K hC hM hRm => ?_)
  obtain ⟨hO, ⟨⟨hr, h0, h1, h2, h3, h4, h5, h6, hp0, hrow, hwon, htape, htab⟩, h60⟩, him, hran, hz1, hz2⟩ := hI
  have hW : ms_W (vi 32) := ⟨hr, h0, h1, h2, h3, h4, h5, h6, hp0, hrow, hwon, htape, htab⟩
  refine vx_aload_n hC 0 rfl eX12_mean_0 ?_
  refine vx_iload_n hC 1 rfl eX12_mean_1 ?_
  refine vx_iload_n hC 2 rfl eX12_mean_2 ?_
  refine vx_iload_n hC 3 rfl eX12_mean_3 ?_
  refine vx_callV_i hC (kX12_isAsked G (d + 1) _ _ _ _ _ hO (vi 32) rfl (by omega) _ _ _ (by omega) (by omega) (by omega)) ly_X12_174 (ot_31 hO) rfl rfl rfl hRm (by omega) (Nat.le_of_ble_eq_true rfl) rfl eX12_mean_4 (fun x1 n9 t9 a9 b9 c9 hx1 => ?_)
  obtain ⟨hx1, rfl, rfl, rfl, rfl, rfl⟩ := hx1
  refine vx_if_ne hC (tgt := 14) (by omega) (by decide) eX12_mean_7 (fun c2 => ?_) (fun c2 => ?_)
  · refine vx_aload_n hC 0 rfl eX12_mean_14 ?_
    refine vx_iload_n hC 1 rfl eX12_mean_15 ?_
    refine vx_iload_n hC 2 rfl eX12_mean_16 ?_
    refine vx_callV_v hC (kX12_throwsOn G d _ _ _ _ _ hO (vi 32) rfl hW q (by omega) m (by omega)) ly_X12_179 (ot_31 hO) rfl rfl rfl hRm (by omega) (Nat.le_of_ble_eq_true rfl) rfl eX12_mean_17 (fun ng4 tg4 ag4 bg4 cg4 hg4 => ?_)
    obtain ⟨qg4_0, qg4_1, qg4_2, rfl, rfl, rfl, frg4⟩ := hg4
    have hg4_32 : ag4 32 = vi 32 := (frg4 32 (by omega)).1
    have hg4_33 : ag4 33 = vi 33 := (frg4 33 (by omega)).1
    have hg4_31_3 : ag4 31 3 = vi 31 3 := (congrFun qg4_2 _)
    have hg4_31_22 : ag4 31 22 = vi 31 22 := (congrFun qg4_2 _)
    have hg4_44 : ag4 44 = vi 44 := (frg4 44 (by omega)).1
    have frvig4 : ∀ k : Nat, (k < 31 ∨ 44 < k) → ag4 k = vi k := fun k hk => (frg4 k (by omega)).1
    have frvlg4 : ∀ k : Nat, (k < 31 ∨ 44 < k) → bg4 k = vl k := fun k hk => (frg4 k (by omega)).2
    have hth : th_ok (m).toNat (th_all (vi 32) q m) := by have := th_ok_n hW (p := q) (by omega) (m).toNat 0 _ (th_ok_0 (vi 32) q); rwa [Nat.zero_add] at this
    have htr := th_ok_r (by omega) hth
    have ht10 := ten_le (t := (m).toNat) (by omega)
    refine vx_lconst hC 0 (by decide) eX12_mean_20 ?_
    refine vx_lstore hC (lv1 := [(4, xa_l 0), (0, xa_r 31), (1, xa_i q), (2, xa_i m), (3, xa_i pt)]) (by decide) rfl eX12_mean_21 ?_
    refine vx_iconst hC eX12_mean_23 ?_
    refine vx_istore hC (lv1 := [(6, xa_i 0), (4, xa_l 0), (0, xa_r 31), (1, xa_i q), (2, xa_i m), (3, xa_i pt)]) (by decide) rfl eX12_mean_24 ?_
    have LP26 : ∀ (j : Nat) (cq : Nat) (kk : Int) (su : Int) (hcq : kk + (cq : Int) = 13 ∧ 0 ≤ kk) (hres : su + mn_sum (th_all (vi 32) q m).1 kk cq = mn_sum (th_all (vi 32) q m).1 0 13) (hj : (cq : Int) < (j : Int)), xv G K 7 (xk_Q G K (xp_l (fun z9 n1 t1 a1 b1 c1 => z9 = sp_mean (vi 32) q m pt ∧ mq (vi 32) (vi 33) (vi 31 3) (vi 31 22) (vi 44) n tau vi vl vr n1 t1 a1 b1 c1)) 0 0) 0 0 n tau ag4 bg4 vr 26 [(6, xa_i kk), (4, xa_l su), (0, xa_r 31), (1, xa_i q), (2, xa_i m), (3, xa_i pt)] [] := by
      intro j
      induction j with
      | zero => intro cq kk su hcq hres hj; exfalso; omega
      | succ j ih =>
        intro cq kk su hcq hres hj
        refine vx_iload hC 0 rfl eX12_mean_26 ?_
        refine vx_bipush hC (by decide) eX12_mean_28 ?_
        refine vx_icmp_ge hC (tgt := 55) (by omega) (by decide) eX12_mean_30 (fun c5 => ?_) (fun c5 => ?_)
        · have hsu : su = mn_sum (th_all (vi 32) q m).1 0 13 := by rw [← hres, show cq = 0 by omega]; exact (Int.add_zero _).symm
          have hmr := mn_r (f := (th_all (vi 32) q m).1) 13 0 (by omega) (by omega) hth.1
          have hsq := hth.2.1
          refine vx_lload hC 1 rfl eX12_mean_55 ?_
          refine vx_iload_n hC 4 rfl eX12_mean_57 ?_
          refine vx_callS_l hC (kX12_tens G (d + 3) _ _ _ _ _ m (by omega)) ly_X12_183 rfl hRm (by omega) (Nat.le_of_ble_eq_true rfl) rfl eX12_mean_58 (fun x6 n9 t9 a9 b9 c9 hx6 => ?_)
          obtain ⟨hx6, rfl, rfl, rfl, rfl, rfl⟩ := hx6
          refine vx_iload_n hC 5 rfl eX12_mean_61 ?_
          refine vx_callS_l hC (kX12_lowest G (d + 3) _ _ _ _ _ _ _ _ (by omega) (by omega) (by omega)) ly_X12_187 rfl hRm (by omega) (Nat.le_of_ble_eq_true rfl) rfl eX12_mean_62 (fun x7 n9 t9 a9 b9 c9 hx7 => ?_)
          obtain ⟨hx7, rfl, rfl, rfl, rfl, rfl⟩ := hx7
          exact vx_lret hC hM eX12_mean_65 (⟨_, rfl, by unfold sp_mean; first | (rw [if_pos (by unfold ask; omega), ← hsu]; simp only [hx6, hx7]; done) | (rw [if_neg (by unfold ask; omega)]; rfl), rfl, rfl, rfl, hg4_32, hg4_33, hg4_31_3, hg4_31_22, hg4_44, fun k hk => ⟨frvig4 k hk, frvlg4 k hk⟩⟩)
        · obtain ⟨cq1, rfl⟩ : ∃ cq1, cq = cq1 + 1 := ⟨cq - 1, by omega⟩
          refine vx_lload hC 1 rfl eX12_mean_33 ?_
          refine vx_iload hC 0 rfl eX12_mean_35 ?_
          refine vx_i2l hC (by omega) eX12_mean_37 ?_
          refine vx_aload_n hC 2 rfl eX12_mean_38 ?_
          refine vx_gr hC 11 (ot_31 hO) lf_X12_25 rfl (or_31_11 hO) eX12_mean_39 ?_
          refine vx_iload hC 0 rfl eX12_mean_42 ?_
          refine vx_laload hC (ot_36 hO) (by omega) (by omega) eX12_mean_44 ?_
          refine vx_eql (qg4_0 _ (by omega) (by omega)) ?_
          refine vx_lmul hC eX12_mean_45 ?_
          refine vx_ladd hC eX12_mean_46 ?_
          refine vx_topl (fun x8 hx8 => ?_)
          refine vx_lstore hC (lv1 := [(4, xa_l x8), (6, xa_i kk), (0, xa_r 31), (1, xa_i q), (2, xa_i m), (3, xa_i pt)]) (by decide) rfl eX12_mean_47 ?_
          refine vx_iinc hC (lv1 := [(6, xa_i (kk + 1)), (4, xa_l x8), (0, xa_r 31), (1, xa_i q), (2, xa_i m), (3, xa_i pt)]) 1 rfl (by decide) rfl eX12_mean_49 ?_
          refine vx_goto hC (tgt := 26) (by decide) eX12_mean_52 ?_
          exact ih cq1 (kk + 1) x8 (by omega) (by rw [← hres, mn_sum, hx8]; omega) (by omega)
    exact LP26 14 13 0 0 (by omega) (Int.zero_add _) (by omega)
  · refine vx_ldc2 hC (-9223372036854775808) wd_1167 eX12_mean_10 ?_
    exact vx_lret hC hM eX12_mean_13 (⟨_, rfl, by unfold sp_mean; first | (rw [if_pos (by unfold ask; omega), ← hsu]; simp only []; done) | (rw [if_neg (by unfold ask; omega)]; rfl), rfl, rfl, rfl, rfl, rfl, rfl, rfl, rfl, fun k hk => ⟨rfl, rfl⟩⟩)
