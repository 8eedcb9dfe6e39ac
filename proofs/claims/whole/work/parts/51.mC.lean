/-- a kind's own way of staking, backwards: never better than the best -/
def vw_1 (s : Int → Int) (p : Int) (h : Int → Int) : Int → Int := fun q => if s (18 + p) < q then 0 else if q = 0 ∨ q = s (18 + p) then 10 * h q else bs_v (ms_odds s p q) h q (ms_stake s p q)
def vw_n (s : Int → Int) (p : Int) : Nat → (Int → Int) → Int → Int
  | 0, h => h
  | c + 1, h => vw_1 s p (vw_n s p c h)
def dt (f h : Int → Int) : Int := sq (fun q => f q * h q) 0 13
theorem dt_ad {f h : Int → Int} {z x : Int} (h1 : 0 ≤ z) (h2 : z < 13) : dt (ad f z x) h = dt f h + x * h z := by
  have e : (fun q => ad f z x q * h q) = ad (fun q => f q * h q) z (x * h z) := by
    funext q
    unfold ad fu
    by_cases e : q = z
    · rw [if_pos e, if_pos e, e, Int.add_mul]
    · rw [if_neg e, if_neg e]
  unfold dt
  rw [e, sq_ad 13 0 h1 (by omega)]
theorem th_in_dt {s f h : Int → Int} (hW : ms_W s) {p : Int} (hp : 0 ≤ p ∧ p < s 0) : ∀ (c : Nat) (q : Int) (g : Int → Int) (m : Int), q + (c : Int) = s (18 + p) + 1 → 0 ≤ q → dt (th_in s p f c q g m).1 h = dt g h + sq (fun q => f q * vw_1 s p h q) q c
  | 0, q, g, m, hc, hq => by rw [th_in, sq]; exact (Int.add_zero _).symm
  | c + 1, q, g, m, hc, hq => by
    have hgo := (hW.2.2.2.2.2.2.2.2.1 p hp.1 hp.2).2.2.1
    rw [th_in, sq]
    split
    · next e =>
      rw [th_in_dt hW hp c (q + 1) _ m (by omega) (by omega), dt_ad (by omega) (by omega)]
      have e2 : vw_1 s p h q = 10 * h q := by unfold vw_1; rw [if_neg (by omega), if_pos e]
      rw [e2, Int.mul_comm 10 (f q), Int.mul_assoc]
      omega
    · next e =>
      have hs := ms_stake_r hW hp (q := q) (by omega)
      rw [th_in_dt hW hp c (q + 1) _ _ (by omega) (by omega), dt_ad (by omega) (by omega), dt_ad (by omega) (by omega)]
      have e2 : vw_1 s p h q = bs_v (ms_odds s p q) h q (ms_stake s p q) := by unfold vw_1; rw [if_neg (by omega), if_neg e]
      rw [e2]
      unfold bs_v
      generalize h (q + ms_stake s p q) = y1
      generalize h (q - ms_stake s p q) = y2
      generalize ms_odds s p q (ms_stake s p q) = o
      generalize f q = x
      have r1 : o * x * y1 = x * (o * y1) := by rw [Int.mul_comm o x, Int.mul_assoc]
      have r2 : (10 - o) * x * y2 = x * ((10 - o) * y2) := by rw [Int.mul_comm (10 - o) x, Int.mul_assoc]
      rw [r1, r2, Int.mul_add]
      omega
theorem sq_split {f : Int → Int} : ∀ (c d : Nat) (q : Int), sq f q (c + d) = sq f q c + sq f (q + (c : Int)) d
  | 0, d, q => by rw [Nat.zero_add, sq, show q + ((0 : Nat) : Int) = q by omega]; omega
  | c + 1, d, q => by
    rw [show c + 1 + d = (c + d) + 1 by omega, sq, sq, sq_split c d (q + 1), show q + 1 + (c : Int) = q + ((c + 1 : Nat) : Int) by omega]
    omega
theorem th_1_dt {s h : Int → Int} (hW : ms_W s) {p : Int} (hp : 0 ≤ p ∧ p < s 0) (z : th_T) : dt (th_1 s p z).1 h = dt z.1 (vw_1 s p h) := by
  have hgo := (hW.2.2.2.2.2.2.2.2.1 p hp.1 hp.2).2.2.1
  unfold th_1
  rw [th_in_dt hW hp (s (18 + p) + 1).toNat 0 fz0 (z.2 * 10) (by omega) (by omega)]
  have e1 : dt fz0 h = 0 := sq_z 13 0 (fun q _ _ => by show 0 * h q = 0; exact Int.zero_mul _)
  have e2 := sq_split (f := fun q => z.1 q * vw_1 s p h q) (s (18 + p) + 1).toNat (13 - (s (18 + p) + 1).toNat) 0
  rw [show (s (18 + p) + 1).toNat + (13 - (s (18 + p) + 1).toNat) = 13 by omega] at e2
  have e3 : sq (fun q => z.1 q * vw_1 s p h q) (0 + ((s (18 + p) + 1).toNat : Int)) (13 - (s (18 + p) + 1).toNat) = 0 := sq_z _ _ (fun q q1 q2 => by show z.1 q * vw_1 s p h q = 0; unfold vw_1; rw [if_pos (by omega), Int.mul_zero])
  unfold dt at e1 ⊢
  omega
theorem th_n_dt {s : Int → Int} (hW : ms_W s) {p : Int} (hp : 0 ≤ p ∧ p < s 0) (h : Int → Int) : ∀ (c : Nat) (z : th_T), dt (th_n s p c z).1 h = dt z.1 (vw_n s p c h)
  | 0, z => rfl
  | c + 1, z => by rw [th_n, th_n_dt hW hp h c (th_1 s p z), th_1_dt hW hp, vw_n]
theorem sq_ind {h : Int → Int} {u : Int} : ∀ (c : Nat) (q : Int), q ≤ u → u < q + (c : Int) → sq (fun z => (if z = u then 1 else 0) * h z) q c = h u
  | 0, q, _, _ => by omega
  | c + 1, q, h1, h2 => by
    rw [sq]
    by_cases e : q = u
    · rw [sq_z c (q + 1) (fun z z1 z2 => by rw [if_neg (by omega), Int.zero_mul]), if_pos e, e]; omega
    · rw [sq_ind c (q + 1) (by omega) (by omega), if_neg e, Int.zero_mul]; omega
theorem bs_vw {s : Int → Int} (hW : ms_W s) {p : Int} (hp : 0 ≤ p ∧ p < s 0) : ∀ (c : Nat) (q : Int), 0 ≤ q → q ≤ s (18 + p) → vw_n s p c (bs_0 (s (18 + p))) q ≤ bs_n (ms_odds s p) (s (18 + p)) (ms_lim s) c (bs_0 (s (18 + p))) q
  | 0, q, _, _ => Int.le_refl _
  | c + 1, q, q1, q2 => by
    have ih := bs_vw hW hp c
    have hl := ms_lim_r hW
    have hok := bs_ok_n (od := ms_odds s p) (g := s (18 + p)) (lim := ms_lim s) (ms_od_r s p) hl.1 c
    rw [bs_n_s, vw_n]
    generalize bs_n (ms_odds s p) (s (18 + p)) (ms_lim s) c (bs_0 (s (18 + p))) = F at ih hok
    generalize vw_n s p c (bs_0 (s (18 + p))) = h at ih
    have hm := bs_m_r (lim := ms_lim s) hl.1 q1 q2
    have hF := hok q q1 q2
    have hrun := bs_run_r (q := q) (ms_od_r s p q) hok (bs_m (s (18 + p)) (ms_lim s) q).toNat 1 (if q = 0 ∨ q = s (18 + p) then 10 * F q else -1) 0 (by omega) (by omega) (by split <;> omega)
    unfold vw_1 bs_1
    rw [if_neg (by omega), if_pos q2]
    unfold bs_q
    by_cases e : q = 0 ∨ q = s (18 + p)
    · have := ih q q1 q2
      rw [if_pos e] at hrun ⊢
      rw [if_pos e]
      omega
    · have hs := ms_stake_r hW hp (q := q) (by omega)
      have hst : ms_stake s p q ≤ bs_m (s (18 + p)) (ms_lim s) q := by
        have := mz_le_r (ms_wish s p q) (ms_most s p q)
        rw [← bs_m_ms]
        unfold ms_stake
        omega
      have hb := hrun.2.2 (ms_stake s p q) (by omega) (by omega)
      rw [if_neg e]
      refine Int.le_trans ?_ hb
      have i1 := ih (q + ms_stake s p q) (by omega) (by omega)
      have i2 := ih (q - ms_stake s p q) (by omega) (by omega)
      have ho := ms_od_r s p q (ms_stake s p q)
      unfold bs_v
      exact Int.add_le_add (Int.mul_le_mul_of_nonneg_left i1 (by omega)) (Int.mul_le_mul_of_nonneg_left i2 (by omega))
theorem th_le_bs {s : Int → Int} (hW : ms_W s) {p : Int} (hp : 0 ≤ p ∧ p < s 0) (n : Int) : (th_all s p n).1 (s (18 + p)) ≤ bs_f (ms_odds s p) (s (18 + p)) (ms_lim s) n (s (22 + p)) := by
  obtain ⟨g1, g2, g3, g4⟩ := hW.2.2.2.2.2.2.2.2.1 p hp.1 hp.2
  have e1 := th_n_dt hW hp (bs_0 (s (18 + p))) n.toNat (th_0 s p, 0)
  have e2 : dt (th_n s p n.toNat (th_0 s p, 0)).1 (bs_0 (s (18 + p))) = (th_n s p n.toNat (th_0 s p, 0)).1 (s (18 + p)) := by
    have := sq_ind (h := (th_n s p n.toNat (th_0 s p, 0)).1) (u := s (18 + p)) 13 0 (by omega) (by omega)
    rw [← this]
    unfold dt bs_0
    exact sq_congr 13 0 (fun z _ _ => Int.mul_comm _ _)
  have e3 : dt (th_0 s p) (vw_n s p n.toNat (bs_0 (s (18 + p)))) = vw_n s p n.toNat (bs_0 (s (18 + p))) (s (22 + p)) := sq_ind 13 0 (by omega) (by omega)
  have h := bs_vw hW hp n.toNat (s (22 + p)) (by omega) (by omega)
  unfold th_all bs_f
  rw [← e2, e1, e3]
  exact h
theorem bs_f_r {s : Int → Int} (hW : ms_W s) {p : Int} (hp : 0 ≤ p ∧ p < s 0) {n : Int} (hn : n ≤ 15) : 0 ≤ bs_f (ms_odds s p) (s (18 + p)) (ms_lim s) n (s (22 + p)) ∧ bs_f (ms_odds s p) (s (18 + p)) (ms_lim s) n (s (22 + p)) ≤ 1000000000000000 := by
  obtain ⟨g1, g2, g3, g4⟩ := hW.2.2.2.2.2.2.2.2.1 p hp.1 hp.2
  have := bs_ok_n (od := ms_odds s p) (g := s (18 + p)) (lim := ms_lim s) (ms_od_r s p) (ms_lim_r hW).1 n.toNat (s (22 + p)) (by omega) (by omega)
  have h2 := ten_le (t := n.toNat) (by omega)
  unfold bs_f
  omega
def sp_best (s : Int → Int) (q n : Int) : Int := if q < 0 ∨ s 0 ≤ q then -1 else if n < 0 ∨ 15 < n then -2 else bs_s (ms_odds s q) (s (18 + q)) (ms_lim s) n (s (22 + q))
def sp_bestC (s : Int → Int) (q m pt : Int) : Int := if ask s q m pt then mz_low (bs_f (ms_odds s q) (s (18 + q)) (ms_lim s) m (s (22 + q))) ((10 : Int) ^ m.toNat) pt else mNO
def sp_loses (s : Int → Int) (q m pt : Int) : Int := if ask s q m pt then mz_low (bs_f (ms_odds s q) (s (18 + q)) (ms_lim s) m (s (22 + q)) - (th_all s q m).1 (s (18 + q))) ((10 : Int) ^ m.toNat) pt else mNO
def rm_run (V : Int → Int) (b : Int) : Nat → Int → Int
  | 0, _ => 0
  | c + 1, k => if V k = b then k else rm_run V b c (k + 1)
def rm_V (s : Int → Int) (q n lim : Int) : Int := bs_f (ms_odds s q) (s (18 + q)) lim n (s (22 + q))
def sp_room (s : Int → Int) (q n : Int) : Int := if q < 0 ∨ s 0 ≤ q then -1 else if n < 0 ∨ 15 < n then -2 else rm_run (rm_V s q n) (rm_V s q n 99) 6 1
theorem ms_W_lim {s : Int → Int} (h : ms_W s) {x : Int} (hx : 0 ≤ x ∧ x ≤ 99) : ms_W (fu s 6 x) := by
  obtain ⟨hr, h0, h1, h2, h3, h4, h5, h6, hp0, hrow, hwon, htape, htab⟩ := h
  have e : ∀ z, ¬ z = 6 → fu s 6 x z = s z := fun z hz => fu_n _ _ _ hz
  refine ⟨fun z => ?_, ?_, ?_, ?_, ?_, ?_, ?_, ?_, fun q q1 q2 => ?_, fun z z1 z2 => ?_, fun z z1 z2 => ?_, fun z z1 z2 => ?_, ?_⟩
  · unfold fu; split; omega; exact hr z
  · rw [e 0 (by omega)]; exact h0
  · rw [e 1 (by omega)]; exact h1
  · rw [e 2 (by omega)]; exact h2
  · rw [e 3 (by omega)]; exact h3
  · rw [e 4 (by omega), e 1 (by omega)]; exact h4
  · rw [e 5 (by omega)]; exact h5
  · rw [fu_s]; exact hx
  · rw [e 0 (by omega)] at q2
    rw [e (10 + q) (by omega), e (14 + q) (by omega), e (18 + q) (by omega), e (22 + q) (by omega)]
    exact hp0 q q1 q2
  · rw [e z (by omega)]; exact hrow z z1 z2
  · rw [e z (by omega)]; exact hwon z z1 z2
  · rw [e z (by omega)]; exact htape z z1 z2
  · exact ms_tab (e 1 (by omega)) (fun z z1 => e z (by omega)) h1.2 htab
theorem ms_odds_lim (s : Int → Int) (x p : Int) (hp : 0 ≤ p) (h4 : s 4 = -1 ∨ 0 ≤ s 4) : ms_odds (fu s 6 x) p = ms_odds s p := by
  have e : ∀ z, ¬ z = 6 → fu s 6 x z = s z := fun z hz => fu_n _ _ _ hz
  funext q st
  have e1 : mb (fu s 6 x) p q st = mb s p q st := by
    funext j
    unfold mb
    rw [e (10 + p) (by omega), e (18 + p) (by omega), e 5 (by omega)]
  have e2 : ms_hold (fu s 6 x) = ms_hold s := by
    unfold ms_hold ms_steps
    rw [e 4 (by omega)]
    split
    · rfl
    · rw [e (171 + s 4) (by omega)]
      exact msl_congr _ _ (fun z z1 z2 => e z (by omega))
  unfold ms_odds
  rw [e1, e2]
theorem rm_V_lim {s : Int → Int} (hW : ms_W s) {q n x : Int} (hq : 0 ≤ q ∧ q < s 0) (hx : 1 ≤ x) : bs_f (ms_odds (fu s 6 x) q) (fu s 6 x (18 + q)) (ms_lim (fu s 6 x)) n (fu s 6 x (22 + q)) = rm_V s q n x := by
  have h1 := hW.2.2.1
  have h4 := hW.2.2.2.2.2.1
  unfold rm_V
  rw [ms_odds_lim s x q (by omega) (by omega), fu_n _ _ _ (by omega), fu_n _ _ _ (by omega), show ms_lim (fu s 6 x) = x by unfold ms_lim; rw [fu_s, if_pos (by omega)]]
set_option maxHeartbeats 4000000 in
set_option maxRecDepth 100000 in
theorem kX12_best (G : xg_T) (d : Nat) (n : Nat) (tau : Nat → Nat × Nat) (vi vl : Nat → Int → Int) (vr : Nat → Int → Option Nat) (hI : MI n tau vi vr) (q m : Int) (hq : -2147483648 ≤ q ∧ q < 2147483648) (hm : -2147483648 ≤ m ∧ m < 2147483648) : xm G yX12_best cX12_best 3 (some .int) (d + 5) 0 0 [xa_r 31, xa_i q, xa_i m] n tau vi vl vr (xp_i (fun z9 n1 t1 a1 b1 c1 => z9 = sp_best (vi 32) q m ∧ mq (vi 32) (vi 33) (vi 31 3) (vi 31 22) (vi 44) n tau vi vl vr n1 t1 a1 b1 c1)) := by
  refine xm.of (lv := [(0, xa_r 31), (1, xa_i q), (2, xa_i m)]) (by decide) (Nat.le_of_ble_eq_true rfl) rfl (fun K hC hM hRm => ?_)
  obtain ⟨hO, ⟨⟨hr, h0, h1, h2, h3, h4, h5, h6, hp0, hrow, hwon, htape, htab⟩, h60⟩, him, hran, hz1, hz2⟩ := hI
  have hW : ms_W (vi 32) := ⟨hr, h0, h1, h2, h3, h4, h5, h6, hp0, hrow, hwon, htape, htab⟩
  refine vx_aload_n hC 0 rfl eX12_best_0 ?_
  refine vx_iload_n hC 1 rfl eX12_best_1 ?_
  refine vx_callV_i hC (kX12_isPlayer G (d + 2) _ _ _ _ _ hO (vi 32) rfl _ (by omega) (by omega)) ly_X12_140 (ot_31 hO) rfl rfl rfl hRm (by omega) (Nat.le_of_ble_eq_true rfl) rfl eX12_best_2 (fun x1 n9 t9 a9 b9 c9 hx1 => ?_)
  obtain ⟨hx1, rfl, rfl, rfl, rfl, rfl⟩ := hx1
  refine vx_if_ne hC (tgt := 10) (by omega) (by decide) eX12_best_5 (fun c2 => ?_) (fun c2 => ?_)
  · refine vx_iload_n hC 2 rfl eX12_best_10 ?_
    refine vx_iconst hC eX12_best_11 ?_
    refine vx_bipush hC (by decide) eX12_best_12 ?_
    refine vx_callS_i hC (kX12_in G (d + 3) _ _ _ _ _ _ _ _ (by omega) (by omega) (by omega)) ly_X12_57 rfl hRm (by omega) (Nat.le_of_ble_eq_true rfl) rfl eX12_best_14 (fun x3 n9 t9 a9 b9 c9 hx3 => ?_)
    obtain ⟨hx3, rfl, rfl, rfl, rfl, rfl⟩ := hx3
    refine vx_if_ne hC (tgt := 23) (by omega) (by decide) eX12_best_17 (fun c4 => ?_) (fun c4 => ?_)
    · refine vx_aload_n hC 0 rfl eX12_best_23 ?_
      refine vx_iload_n hC 1 rfl eX12_best_24 ?_
      refine vx_iload_n hC 2 rfl eX12_best_25 ?_
      have hbf := bs_f_r hW (p := q) (by omega) (n := m) (by omega)
      have ht10 := ten_le (t := (m).toNat) (by omega)
      refine vx_callV_l hC (kX12_bestOf G d _ _ _ _ _ hO (vi 32) rfl hW q (by omega) m (by omega)) ly_X12_200 (ot_31 hO) rfl rfl rfl hRm (by omega) (Nat.le_of_ble_eq_true rfl) rfl eX12_best_26 (fun x5 ng6 tg6 ag6 bg6 cg6 hg6 => ?_)
      obtain ⟨hx5, qg6_0, qg6_1, qg6_2, rfl, rfl, rfl, frg6⟩ := hg6
      have hg6_32 : ag6 32 = vi 32 := (frg6 32 (by omega)).1
      have hg6_33 : ag6 33 = vi 33 := (frg6 33 (by omega)).1
      have hg6_44 : ag6 44 = vi 44 := (frg6 44 (by omega)).1
      have frvig6 : ∀ k : Nat, (k < 31 ∨ 44 < k) → ag6 k = vi k := fun k hk => (frg6 k (by omega)).1
      have frvlg6 : ∀ k : Nat, (k < 31 ∨ 44 < k) → bg6 k = vl k := fun k hk => (frg6 k (by omega)).2
      refine vx_pop2 hC rfl eX12_best_29 ?_
      refine vx_aload_n hC 0 rfl eX12_best_30 ?_
      refine vx_gi hC 16 (ot_31 hO) lf_X12_191 rfl eX12_best_31 ?_
      refine vx_eqi qg6_0 ?_
      exact vx_iret hC hM rfl eX12_best_34 (⟨_, rfl, by unfold sp_best; (repeat (first | rw [if_pos (by omega)] | rw [if_neg (by omega)])); all_goals (first | rfl | omega), rfl, rfl, rfl, hg6_32, hg6_33, qg6_1, qg6_2, hg6_44, fun k hk => ⟨frvig6 k hk, frvlg6 k hk⟩⟩)
    · refine vx_bipush hC (by decide) eX12_best_20 ?_
      exact vx_iret hC hM rfl eX12_best_22 (⟨_, rfl, by unfold sp_best; (repeat (first | rw [if_pos (by omega)] | rw [if_neg (by omega)])); all_goals (first | rfl | omega), rfl, rfl, rfl, rfl, rfl, rfl, rfl, rfl, fun k hk => ⟨rfl, rfl⟩⟩)
  · refine vx_iconst hC eX12_best_8 ?_
    exact vx_iret hC hM rfl eX12_best_9 (⟨_, rfl, by unfold sp_best; (repeat (first | rw [if_pos (by omega)] | rw [if_neg (by omega)])); all_goals (first | rfl | omega), rfl, rfl, rfl, rfl, rfl, rfl, rfl, rfl, fun k hk => ⟨rfl, rfl⟩⟩)
set_option maxHeartbeats 4000000 in
set_option maxRecDepth 100000 in
theorem kX12_bestChance (G : xg_T) (d : Nat) (n : Nat) (tau : Nat → Nat × Nat) (vi vl : Nat → Int → Int) (vr : Nat → Int → Option Nat) (hI : MI n tau vi vr) (q m pt : Int) (hq : -2147483648 ≤ q ∧ q < 2147483648) (hm : -2147483648 ≤ m ∧ m < 2147483648) (hpt : -2147483648 ≤ pt ∧ pt < 2147483648) : xm G yX12_bestChance cX12_bestChance 4 (some .long) (d + 5) 0 0 [xa_r 31, xa_i q, xa_i m, xa_i pt] n tau vi vl vr (xp_l (fun z9 n1 t1 a1 b1 c1 => z9 = sp_bestC (vi 32) q m pt ∧ mq (vi 32) (vi 33) (vi 31 3) (vi 31 22) (vi 44) n tau vi vl vr n1 t1 a1 b1 c1)) := by
  refine xm.of (lv := [(0, xa_r 31), (1, xa_i q), (2, xa_i m), (3, xa_i pt)]) (by decide) (Nat.le_of_ble_eq_true rfl) rfl (fun K hC hM hRm => ?_)
  obtain ⟨hO, ⟨⟨hr, h0, h1, h2, h3, h4, h5, h6, hp0, hrow, hwon, htape, htab⟩, h60⟩, him, hran, hz1, hz2⟩ := hI
  have hW : ms_W (vi 32) := ⟨hr, h0, h1, h2, h3, h4, h5, h6, hp0, hrow, hwon, htape, htab⟩
  refine vx_aload_n hC 0 rfl eX12_bestChance_0 ?_
  refine vx_iload_n hC 1 rfl eX12_bestChance_1 ?_
  refine vx_iload_n hC 2 rfl eX12_bestChance_2 ?_
  refine vx_iload_n hC 3 rfl eX12_bestChance_3 ?_
  refine vx_callV_i hC (kX12_isAsked G (d + 1) _ _ _ _ _ hO (vi 32) rfl (by omega) _ _ _ (by omega) (by omega) (by omega)) ly_X12_174 (ot_31 hO) rfl rfl rfl hRm (by omega) (Nat.le_of_ble_eq_true rfl) rfl eX12_bestChance_4 (fun x1 n9 t9 a9 b9 c9 hx1 => ?_)
  obtain ⟨hx1, rfl, rfl, rfl, rfl, rfl⟩ := hx1
  refine vx_if_eq hC (tgt := 27) (by omega) (by decide) eX12_bestChance_7 (fun c2 => ?_) (fun c2 => ?_)
  · refine vx_ldc2 hC (-9223372036854775808) wd_1167 eX12_bestChance_27 ?_
    exact vx_lret hC hM eX12_bestChance_30 (⟨_, rfl, by unfold sp_bestC; first | (rw [if_pos (by unfold ask; omega)]; simp only []; done) | (rw [if_neg (by unfold ask; omega)]; rfl), rfl, rfl, rfl, rfl, rfl, rfl, rfl, rfl, fun k hk => ⟨rfl, rfl⟩⟩)
  · refine vx_aload_n hC 0 rfl eX12_bestChance_10 ?_
    refine vx_iload_n hC 1 rfl eX12_bestChance_11 ?_
    refine vx_iload_n hC 2 rfl eX12_bestChance_12 ?_
    have hbf := bs_f_r hW (p := q) (by omega) (n := m) (by omega)
    have ht10 := ten_le (t := (m).toNat) (by omega)
    refine vx_callV_l hC (kX12_bestOf G d _ _ _ _ _ hO (vi 32) rfl hW q (by omega) m (by omega)) ly_X12_200 (ot_31 hO) rfl rfl rfl hRm (by omega) (Nat.le_of_ble_eq_true rfl) rfl eX12_bestChance_13 (fun x3 ng4 tg4 ag4 bg4 cg4 hg4 => ?_)
    obtain ⟨hx3, qg4_0, qg4_1, qg4_2, rfl, rfl, rfl, frg4⟩ := hg4
    have hg4_32 : ag4 32 = vi 32 := (frg4 32 (by omega)).1
    have hg4_33 : ag4 33 = vi 33 := (frg4 33 (by omega)).1
    have hg4_44 : ag4 44 = vi 44 := (frg4 44 (by omega)).1
    have frvig4 : ∀ k : Nat, (k < 31 ∨ 44 < k) → ag4 k = vi k := fun k hk => (frg4 k (by omega)).1
    have frvlg4 : ∀ k : Nat, (k < 31 ∨ 44 < k) → bg4 k = vl k := fun k hk => (frg4 k (by omega)).2
    refine vx_iload_n hC 2 rfl eX12_bestChance_16 ?_
    refine vx_callS_l hC (kX12_tens G (d + 3) _ _ _ _ _ m (by omega)) ly_X12_183 rfl hRm (by omega) (Nat.le_of_ble_eq_true rfl) rfl eX12_bestChance_17 (fun x5 n9 t9 a9 b9 c9 hx5 => ?_)
    obtain ⟨hx5, rfl, rfl, rfl, rfl, rfl⟩ := hx5
    refine vx_iload_n hC 3 rfl eX12_bestChance_20 ?_
    refine vx_callS_l hC (kX12_lowest G (d + 3) _ _ _ _ _ _ _ _ (by omega) (by omega) (by omega)) ly_X12_187 rfl hRm (by omega) (Nat.le_of_ble_eq_true rfl) rfl eX12_bestChance_21 (fun x6 n9 t9 a9 b9 c9 hx6 => ?_)
    obtain ⟨hx6, rfl, rfl, rfl, rfl, rfl⟩ := hx6
    refine vx_goto hC (tgt := 30) (by decide) eX12_bestChance_24 ?_
    exact vx_lret hC hM eX12_bestChance_30 (⟨_, rfl, by unfold sp_bestC; first | (rw [if_pos (by unfold ask; omega)]; simp only [hx3, hx5, hx6]; done) | (rw [if_neg (by unfold ask; omega)]; rfl), rfl, rfl, rfl, hg4_32, hg4_33, qg4_1, qg4_2, hg4_44, fun k hk => ⟨frvig4 k hk, frvlg4 k hk⟩⟩)
set_option maxHeartbeats 4000000 in
set_option maxRecDepth 100000 in
theorem kX12_loses (G : xg_T) (d : Nat) (n : Nat) (tau : Nat → Nat × Nat) (vi vl : Nat → Int → Int) (vr : Nat → Int → Option Nat) (hI : MI n tau vi vr) (q m pt : Int) (hq : -2147483648 ≤ q ∧ q < 2147483648) (hm : -2147483648 ≤ m ∧ m < 2147483648) (hpt : -2147483648 ≤ pt ∧ pt < 2147483648) : xm G yX12_loses cX12_loses 4 (some .long) (d + 5) 0 0 [xa_r 31, xa_i q, xa_i m, xa_i pt] n tau vi vl vr (xp_l (fun z9 n1 t1 a1 b1 c1 => z9 = sp_loses (vi 32) q m pt ∧ mq (vi 32) (vi 33) (vi 31 3) (vi 31 22) (vi 44) n tau vi vl vr n1 t1 a1 b1 c1)) := by
  refine xm.of (lv := [(0, xa_r 31), (1, xa_i q), (2, xa_i m), (3, xa_i pt)]) (by decide) (Nat.le_of_ble_eq_true rfl) rfl (fun K hC hM hRm => ?_)
  obtain ⟨hO, ⟨⟨hr, h0, h1, h2, h3, h4, h5, h6, hp0, hrow, hwon, htape, htab⟩, h60⟩, him, hran, hz1, hz2⟩ := hI
  have hW : ms_W (vi 32) := ⟨hr, h0, h1, h2, h3, h4, h5, h6, hp0, hrow, hwon, htape, htab⟩
  refine vx_aload_n hC 0 rfl eX12_loses_0 ?_
  refine vx_iload_n hC 1 rfl eX12_loses_1 ?_
  refine vx_iload_n hC 2 rfl eX12_loses_2 ?_
  refine vx_iload_n hC 3 rfl eX12_loses_3 ?_
  refine vx_callV_i hC (kX12_isAsked G (d + 1) _ _ _ _ _ hO (vi 32) rfl (by omega) _ _ _ (by omega) (by omega) (by omega)) ly_X12_174 (ot_31 hO) rfl rfl rfl hRm (by omega) (Nat.le_of_ble_eq_true rfl) rfl eX12_loses_4 (fun x1 n9 t9 a9 b9 c9 hx1 => ?_)
  obtain ⟨hx1, rfl, rfl, rfl, rfl, rfl⟩ := hx1
  refine vx_if_ne hC (tgt := 14) (by omega) (by decide) eX12_loses_7 (fun c2 => ?_) (fun c2 => ?_)
  · obtain ⟨g1, g2, g3, g4⟩ := hp0 q (by omega) (by omega)
    refine vx_aload_n hC 0 rfl eX12_loses_14 ?_
    refine vx_iload_n hC 1 rfl eX12_loses_15 ?_
    refine vx_iload_n hC 2 rfl eX12_loses_16 ?_
    refine vx_callV_v hC (kX12_throwsOn G d _ _ _ _ _ hO (vi 32) rfl hW q (by omega) m (by omega)) ly_X12_179 (ot_31 hO) rfl rfl rfl hRm (by omega) (Nat.le_of_ble_eq_true rfl) rfl eX12_loses_17 (fun ng4 tg4 ag4 bg4 cg4 hg4 => ?_)
    obtain ⟨qg4_0, qg4_1, qg4_2, rfl, rfl, rfl, frg4⟩ := hg4
    have hg4_32 : ag4 32 = vi 32 := (frg4 32 (by omega)).1
    have hg4_33 : ag4 33 = vi 33 := (frg4 33 (by omega)).1
    have hg4_31_3 : ag4 31 3 = vi 31 3 := (congrFun qg4_2 _)
    have hg4_31_22 : ag4 31 22 = vi 31 22 := (congrFun qg4_2 _)
    have hg4_44 : ag4 44 = vi 44 := (frg4 44 (by omega)).1
    have frvig4 : ∀ k : Nat, (k < 31 ∨ 44 < k) → ag4 k = vi k := fun k hk => (frg4 k (by omega)).1
    have frvlg4 : ∀ k : Nat, (k < 31 ∨ 44 < k) → bg4 k = vl k := fun k hk => (frg4 k (by omega)).2
    have hth : th_ok (m).toNat (th_all (vi 32) q m) := by have := th_ok_n hW (p := q) (by omega) (m).toNat 0 _ (th_ok_0 (vi 32) q); rwa [Nat.zero_add] at this
    have htr := th_ok_r (by omega) hth
    have ht10 := ten_le (t := (m).toNat) (by omega)
    refine vx_aload_n hC 0 rfl eX12_loses_20 ?_
    refine vx_iload_n hC 1 rfl eX12_loses_21 ?_
    refine vx_iload_n hC 2 rfl eX12_loses_22 ?_
    have hbf := bs_f_r hW (p := q) (by omega) (n := m) (by omega)
    have ht10 := ten_le (t := (m).toNat) (by omega)
    refine vx_callV_l hC (kX12_bestOf G d _ _ _ _ _ hO (vi 32) hg4_32 hW q (by omega) m (by omega)) ly_X12_200 (ot_31 hO) rfl rfl rfl hRm (by omega) (Nat.le_of_ble_eq_true rfl) rfl eX12_loses_23 (fun x5 ng6 tg6 ag6 bg6 cg6 hg6 => ?_)
    obtain ⟨hx5, qg6_0, qg6_1, qg6_2, rfl, rfl, rfl, frg6⟩ := hg6
    have hg6_32 : ag6 32 = vi 32 := (frg6 32 (by omega)).1.trans hg4_32
    have hg6_33 : ag6 33 = vi 33 := (frg6 33 (by omega)).1.trans hg4_33
    have qg6_1b : ag6 31 3 = vi 31 3 := by first | exact qg6_1 | rw [qg6_1, hg4_31_3] | (rw [qg6_1]; exact hg4_31_3)
    have qg6_2b : ag6 31 22 = vi 31 22 := by first | exact qg6_2 | rw [qg6_2, hg4_31_22] | (rw [qg6_2]; exact hg4_31_22)
    have hg6_44 : ag6 44 = vi 44 := (frg6 44 (by omega)).1.trans hg4_44
    have hg6_36 : ag 13 (bg6 36) ((th_all (vi 32) q m).1) := by rw [(frg6 36 (by omega)).2]; exact qg4_0
    have frvig6 : ∀ k : Nat, (k < 31 ∨ 44 < k) → ag6 k = vi k := fun k hk => (frg6 k (by omega)).1.trans (frvig4 k hk)
    have frvlg6 : ∀ k : Nat, (k < 31 ∨ 44 < k) → bg6 k = vl k := fun k hk => (frg6 k (by omega)).2.trans (frvlg4 k hk)
    refine vx_aload_n hC 0 rfl eX12_loses_26 ?_
    refine vx_gr hC 11 (ot_31 hO) lf_X12_25 rfl (or_31_11 hO) eX12_loses_27 ?_
    refine vx_aload_n hC 0 rfl eX12_loses_30 ?_
    refine vx_gr hC 1 (ot_31 hO) lf_X12_9 rfl (or_31_1 hO) eX12_loses_31 ?_
    refine vx_bipush hC (by decide) eX12_loses_34 ?_
    refine vx_iload_n hC 1 rfl eX12_loses_36 ?_
    refine vx_iadd hC eX12_loses_37 ?_
    refine vx_iaload hC (ot_32 hO) (by omega) (by omega) eX12_loses_38 ?_
    refine vx_eqi (congrFun hg6_32 _) ?_
    refine vx_laload hC (ot_36 hO) (by omega) (by omega) eX12_loses_39 ?_
    refine vx_eql (hg6_36 _ (by omega) (by omega)) ?_
    refine vx_lsub hC eX12_loses_40 ?_
    have hle := th_le_bs hW (p := q) (by omega) m
    have hg9 := htr.1 (vi 32 (18 + q)) (by omega) (by omega)
    refine vx_iload_n hC 2 rfl eX12_loses_41 ?_
    refine vx_callS_l hC (kX12_tens G (d + 3) _ _ _ _ _ m (by omega)) ly_X12_183 rfl hRm (by omega) (Nat.le_of_ble_eq_true rfl) rfl eX12_loses_42 (fun x7 n9 t9 a9 b9 c9 hx7 => ?_)
    obtain ⟨hx7, rfl, rfl, rfl, rfl, rfl⟩ := hx7
    refine vx_iload_n hC 3 rfl eX12_loses_45 ?_
    refine vx_callS_l hC (kX12_lowest G (d + 3) _ _ _ _ _ _ _ _ (by omega) (by omega) (by omega)) ly_X12_187 rfl hRm (by omega) (Nat.le_of_ble_eq_true rfl) rfl eX12_loses_46 (fun x8 n9 t9 a9 b9 c9 hx8 => ?_)
    obtain ⟨hx8, rfl, rfl, rfl, rfl, rfl⟩ := hx8
    exact vx_lret hC hM eX12_loses_49 (⟨_, rfl, by unfold sp_loses; first | (rw [if_pos (by unfold ask; omega)]; simp only [hx5, hx7, hx8]; done) | (rw [if_neg (by unfold ask; omega)]; rfl), rfl, rfl, rfl, hg6_32, hg6_33, qg6_1b, qg6_2b, hg6_44, fun k hk => ⟨frvig6 k hk, frvlg6 k hk⟩⟩)
  · refine vx_ldc2 hC (-9223372036854775808) wd_1167 eX12_loses_10 ?_
    exact vx_lret hC hM eX12_loses_13 (⟨_, rfl, by unfold sp_loses; first | (rw [if_pos (by unfold ask; omega)]; simp only []; done) | (rw [if_neg (by unfold ask; omega)]; rfl), rfl, rfl, rfl, rfl, rfl, rfl, rfl, rfl, fun k hk => ⟨rfl, rfl⟩⟩)
set_option maxHeartbeats 4000000 in
set_option maxRecDepth 100000 in
theorem kX12_room (G : xg_T) (d : Nat) (n : Nat) (tau : Nat → Nat × Nat) (vi vl : Nat → Int → Int) (vr : Nat → Int → Option Nat) (hI : MI n tau vi vr) (q m : Int) (hq : -2147483648 ≤ q ∧ q < 2147483648) (hm : -2147483648 ≤ m ∧ m < 2147483648) : xm G yX12_room cX12_room 7 (some .int) (d + 5) 0 0 [xa_r 31, xa_i q, xa_i m] n tau vi vl vr (xp_i (fun z9 n1 t1 a1 b1 c1 => z9 = sp_room (vi 32) q m ∧ mq (vi 32) (vi 33) (vi 31 3) (vi 31 22) (vi 44) n tau vi vl vr n1 t1 a1 b1 c1)) := by
  refine xm.of (lv := [(0, xa_r 31), (1, xa_i q), (2, xa_i m)]) (by decide) (Nat.le_of_ble_eq_true rfl) rfl (fun K hC hM hRm => ?_)
  obtain ⟨hO, ⟨⟨hr, h0, h1, h2, h3, h4, h5, h6, hp0, hrow, hwon, htape, htab⟩, h60⟩, him, hran, hz1, hz2⟩ := hI
  have hW : ms_W (vi 32) := ⟨hr, h0, h1, h2, h3, h4, h5, h6, hp0, hrow, hwon, htape, htab⟩
  refine vx_aload_n hC 0 rfl eX12_room_0 ?_
  refine vx_iload_n hC 1 rfl eX12_room_1 ?_
  refine vx_callV_i hC (kX12_isPlayer G (d + 2) _ _ _ _ _ hO (vi 32) rfl _ (by omega) (by omega)) ly_X12_140 (ot_31 hO) rfl rfl rfl hRm (by omega) (Nat.le_of_ble_eq_true rfl) rfl eX12_room_2 (fun x1 n9 t9 a9 b9 c9 hx1 => ?_)
  obtain ⟨hx1, rfl, rfl, rfl, rfl, rfl⟩ := hx1
  refine vx_if_ne hC (tgt := 10) (by omega) (by decide) eX12_room_5 (fun c2 => ?_) (fun c2 => ?_)
  · refine vx_iload_n hC 2 rfl eX12_room_10 ?_
    refine vx_iconst hC eX12_room_11 ?_
    refine vx_bipush hC (by decide) eX12_room_12 ?_
    refine vx_callS_i hC (kX12_in G (d + 3) _ _ _ _ _ _ _ _ (by omega) (by omega) (by omega)) ly_X12_57 rfl hRm (by omega) (Nat.le_of_ble_eq_true rfl) rfl eX12_room_14 (fun x3 n9 t9 a9 b9 c9 hx3 => ?_)
    obtain ⟨hx3, rfl, rfl, rfl, rfl, rfl⟩ := hx3
    refine vx_if_ne hC (tgt := 23) (by omega) (by decide) eX12_room_17 (fun c4 => ?_) (fun c4 => ?_)
    · refine vx_aload_n hC 0 rfl eX12_room_23 ?_
      refine vx_gr hC 1 (ot_31 hO) lf_X12_9 rfl (or_31_1 hO) eX12_room_24 ?_
      refine vx_bipush hC (by decide) eX12_room_27 ?_
      refine vx_bipush hC (by decide) eX12_room_29 ?_
      refine vx_iastore hC (ot_32 hO) (by omega) (by omega) eX12_room_31 ?_
      refine vx_vi (fun v5 hv5 => ?_)
      obtain ⟨f6, hf6⟩ : ∃ f, f = fu (vi 32) 6 99 := ⟨_, rfl⟩
      have hv5_32 : v5 32 = f6 := by rw [hv5, hf6, xu_k]
      have hv5_33 : v5 33 = vi 33 := by rw [hv5, xu_c _ _ _ _ (by decide)]
      have hv5_31_3 : v5 31 3 = vi 31 3 := by rw [hv5, xu_c _ _ _ _ (by decide)]
      have hv5_31_22 : v5 31 22 = vi 31 22 := by rw [hv5, xu_c _ _ _ _ (by decide)]
      have hv5_44 : v5 44 = vi 44 := by rw [hv5, xu_c _ _ _ _ (by decide)]
      have hv5_31_16 : v5 31 16 = vi 31 16 := by rw [hv5, xu_c _ _ _ _ (by decide)]
      have frv5 : ∀ k : Nat, (k < 31 ∨ 44 < k) → v5 k = vi k := fun k hk => by rw [hv5, xu_c _ _ _ _ (by omega)]
      have e32 : v5 32 = fu (vi 32) 6 99 := by rw [hv5_32, hf6]
      have hWl := ms_W_lim hW (x := 99) (by omega)
      have es0 : fu (vi 32) 6 99 0 = vi 32 0 := fu_n _ _ _ (by omega)
      refine vx_aload_n hC 0 rfl eX12_room_32 ?_
      refine vx_iload_n hC 1 rfl eX12_room_33 ?_
      refine vx_iload_n hC 2 rfl eX12_room_34 ?_
      have hbf := bs_f_r hWl (p := q) (by omega) (n := m) (by omega)
      have ht10 := ten_le (t := (m).toNat) (by omega)
      refine vx_callV_l hC (kX12_bestOf G d _ _ _ _ _ hO (fu (vi 32) 6 99) e32 hWl q (by omega) m (by omega)) ly_X12_200 (ot_31 hO) rfl rfl rfl hRm (by omega) (Nat.le_of_ble_eq_true rfl) rfl eX12_room_35 (fun x7 ng8 tg8 ag8 bg8 cg8 hg8 => ?_)
      obtain ⟨hx7, qg8_0, qg8_1, qg8_2, rfl, rfl, rfl, frg8⟩ := hg8
      have hg8_32 : ag8 32 = fu (vi 32) 6 99 := (frg8 32 (by omega)).1.trans e32
      have hg8_33 : ag8 33 = vi 33 := (frg8 33 (by omega)).1.trans hv5_33
      have qg8_1b : ag8 31 3 = vi 31 3 := by first | exact qg8_1 | rw [qg8_1, hv5_31_3] | (rw [qg8_1]; exact hv5_31_3)
      have qg8_2b : ag8 31 22 = vi 31 22 := by first | exact qg8_2 | rw [qg8_2, hv5_31_22] | (rw [qg8_2]; exact hv5_31_22)
      have hg8_44 : ag8 44 = vi 44 := (frg8 44 (by omega)).1.trans hv5_44
      have qg8_0b : ag8 31 16 = bs_s (ms_odds (fu (vi 32) 6 99) q) ((fu (vi 32) 6 99) (18 + q)) (ms_lim (fu (vi 32) 6 99)) m ((fu (vi 32) 6 99) (22 + q)) := by first | exact qg8_0 | rw [qg8_0, hv5_31_16] | (rw [qg8_0]; exact hv5_31_16)
      have frvig8 : ∀ k : Nat, (k < 31 ∨ 44 < k) → ag8 k = vi k := fun k hk => (frg8 k (by omega)).1.trans (frv5 k hk)
      have frvlg8 : ∀ k : Nat, (k < 31 ∨ 44 < k) → bg8 k = vl k := fun k hk => (frg8 k (by omega)).2
      rw [rm_V_lim hW (by omega) (by omega)] at hx7 hbf
      have hbe := hbf
      refine vx_lstore_n hC (lv1 := [(3, xa_l x7), (0, xa_r 31), (1, xa_i q), (2, xa_i m)]) (by decide) rfl eX12_room_38 ?_
      refine vx_iconst hC eX12_room_39 ?_
      refine vx_istore hC (lv1 := [(5, xa_i 0), (3, xa_l x7), (0, xa_r 31), (1, xa_i q), (2, xa_i m)]) (by decide) rfl eX12_room_40 ?_
      refine vx_iconst hC eX12_room_42 ?_
      refine vx_istore hC (lv1 := [(6, xa_i 1), (5, xa_i 0), (3, xa_l x7), (0, xa_r 31), (1, xa_i q), (2, xa_i m)]) (by decide) rfl eX12_room_43 ?_
      have LP45 : ∀ (j : Nat) (cq : Nat) (kk : Int) (ro : Int) (lm : Int) (m1 : Nat → Int → Int) (m2 : Nat → Int → Int) (hcq : kk + (cq : Int) = 7 ∧ 1 ≤ kk) (hro : (ro = 0 ∧ rm_run (rm_V (vi 32) q m) x7 cq kk = rm_run (rm_V (vi 32) q m) x7 6 1) ∨ (1 ≤ ro ∧ ro ≤ 6 ∧ ro = rm_run (rm_V (vi 32) q m) x7 6 1)) (eoa0 : m1 32 = fu (vi 32) 6 lm) (eoa1 : m1 33 = vi 33) (eoa2 : m1 31 3 = vi 31 3) (eoa3 : m1 31 22 = vi 31 22) (eoa4 : m1 44 = vi 44) (foa : ∀ k : Nat, (k < 31 ∨ 44 < k) → m1 k = vi k) (fol : ∀ k : Nat, (k < 31 ∨ 44 < k) → m2 k = vl k) (hj : (cq : Int) < (j : Int)), xv G K 7 (xk_Q G K (xp_i (fun z9 n1 t1 a1 b1 c1 => z9 = sp_room (vi 32) q m ∧ mq (vi 32) (vi 33) (vi 31 3) (vi 31 22) (vi 44) n tau vi vl vr n1 t1 a1 b1 c1)) 0 0) 0 0 n tau m1 m2 vr 45 [(6, xa_i kk), (5, xa_i ro), (3, xa_l x7), (0, xa_r 31), (1, xa_i q), (2, xa_i m)] [] := by
        intro j
        induction j with
        | zero => intro cq kk ro lm m1 m2 hcq hro eoa0 eoa1 eoa2 eoa3 eoa4 foa fol hj; exfalso; omega
        | succ j ih =>
          intro cq kk ro lm m1 m2 hcq hro eoa0 eoa1 eoa2 eoa3 eoa4 foa fol hj
          refine vx_iload hC 0 rfl eX12_room_45 ?_
          refine vx_bipush hC (by decide) eX12_room_47 ?_
          refine vx_icmp_ge hC (tgt := 91) (by omega) (by decide) eX12_room_49 (fun c9 => ?_) (fun c9 => ?_)
          · refine vx_aload_n hC 3 rfl eX12_room_91 ?_
            refine vx_gr hC 1 (ot_31 hO) lf_X12_9 rfl (or_31_1 hO) eX12_room_92 ?_
            refine vx_bipush hC (by decide) eX12_room_95 ?_
            refine vx_iconst hC eX12_room_97 ?_
            refine vx_iastore hC (ot_32 hO) (by omega) (by omega) eX12_room_98 ?_
            refine vx_vi (fun v10 hv10 => ?_)
            obtain ⟨f11, hf11⟩ : ∃ f, f = fu (fu (vi 32) 6 lm) 6 0 := ⟨_, rfl⟩
            have hv10_32 : v10 32 = f11 := by rw [hv10, hf11, xu_k, eoa0]
            have hv10_33 : v10 33 = vi 33 := by rw [hv10, xu_c _ _ _ _ (by decide), eoa1]
            have hv10_31_3 : v10 31 3 = vi 31 3 := by rw [hv10, xu_c _ _ _ _ (by decide), eoa2]
            have hv10_31_22 : v10 31 22 = vi 31 22 := by rw [hv10, xu_c _ _ _ _ (by decide), eoa3]
            have hv10_44 : v10 44 = vi 44 := by rw [hv10, xu_c _ _ _ _ (by decide), eoa4]
            have hv10_31_16 : v10 31 16 = m1 31 16 := by rw [hv10, xu_c _ _ _ _ (by decide)]
            have frv10 : ∀ k : Nat, (k < 31 ∨ 44 < k) → v10 k = vi k := fun k hk => by rw [hv10, xu_c _ _ _ _ (by omega)]; exact foa k hk
            refine vx_iload hC 1 rfl eX12_room_99 ?_
            exact vx_iret hC hM rfl eX12_room_101 (⟨_, rfl, by unfold sp_room; first | (rw [if_pos (by omega)]) | (rw [if_neg (by omega), if_pos (by omega)]) | (rw [if_neg (by omega), if_neg (by omega)]; simp only [hx7, hf11, hf6] at hro; rcases hro with ⟨h8, h9⟩ | ⟨h8, h9, h10⟩; (rw [← h9, h8, show cq = 0 by omega, rm_run]); exact h10), rfl, rfl, rfl, (by (first | exact hv10_32 | (rw [hv10_32]; rw [hf11, fu_fu, fu_self _ h60]))), hv10_33, hv10_31_3, hv10_31_22, hv10_44, fun k hk => ⟨frv10 k hk, fol k hk⟩⟩)
          · refine vx_iload hC 1 rfl eX12_room_52 ?_
            refine vx_if_ne hC (tgt := 91) (by omega) (by decide) eX12_room_54 (fun c12 => ?_) (fun c12 => ?_)
            · refine vx_aload_n hC 3 rfl eX12_room_91 ?_
              refine vx_gr hC 1 (ot_31 hO) lf_X12_9 rfl (or_31_1 hO) eX12_room_92 ?_
              refine vx_bipush hC (by decide) eX12_room_95 ?_
              refine vx_iconst hC eX12_room_97 ?_
              refine vx_iastore hC (ot_32 hO) (by omega) (by omega) eX12_room_98 ?_
              refine vx_vi (fun v13 hv13 => ?_)
              obtain ⟨f14, hf14⟩ : ∃ f, f = fu (fu (vi 32) 6 lm) 6 0 := ⟨_, rfl⟩
              have hv13_32 : v13 32 = f14 := by rw [hv13, hf14, xu_k, eoa0]
              have hv13_33 : v13 33 = vi 33 := by rw [hv13, xu_c _ _ _ _ (by decide), eoa1]
              have hv13_31_3 : v13 31 3 = vi 31 3 := by rw [hv13, xu_c _ _ _ _ (by decide), eoa2]
              have hv13_31_22 : v13 31 22 = vi 31 22 := by rw [hv13, xu_c _ _ _ _ (by decide), eoa3]
              have hv13_44 : v13 44 = vi 44 := by rw [hv13, xu_c _ _ _ _ (by decide), eoa4]
              have hv13_31_16 : v13 31 16 = m1 31 16 := by rw [hv13, xu_c _ _ _ _ (by decide)]
              have frv13 : ∀ k : Nat, (k < 31 ∨ 44 < k) → v13 k = vi k := fun k hk => by rw [hv13, xu_c _ _ _ _ (by omega)]; exact foa k hk
              refine vx_iload hC 1 rfl eX12_room_99 ?_
              exact vx_iret hC hM rfl eX12_room_101 (⟨_, rfl, by unfold sp_room; first | (rw [if_pos (by omega)]) | (rw [if_neg (by omega), if_pos (by omega)]) | (rw [if_neg (by omega), if_neg (by omega)]; simp only [hx7, hf14, hf6] at hro; rcases hro with ⟨h8, h9⟩ | ⟨h8, h9, h10⟩; (rw [← h9, h8, show cq = 0 by omega, rm_run]); exact h10), rfl, rfl, rfl, (by (first | exact hv13_32 | (rw [hv13_32]; rw [hf14, fu_fu, fu_self _ h60]))), hv13_33, hv13_31_3, hv13_31_22, hv13_44, fun k hk => ⟨frv13 k hk, fol k hk⟩⟩)
            · obtain ⟨cq1, rfl⟩ : ∃ cq1, cq = cq1 + 1 := ⟨cq - 1, by omega⟩
              refine vx_aload_n hC 3 rfl eX12_room_57 ?_
              refine vx_gr hC 1 (ot_31 hO) lf_X12_9 rfl (or_31_1 hO) eX12_room_58 ?_
              refine vx_bipush hC (by decide) eX12_room_61 ?_
              refine vx_iload hC 0 rfl eX12_room_63 ?_
              refine vx_iastore hC (ot_32 hO) (by omega) (by omega) eX12_room_65 ?_
              refine vx_vi (fun v15 hv15 => ?_)
              obtain ⟨f16, hf16⟩ : ∃ f, f = fu (fu (vi 32) 6 lm) 6 kk := ⟨_, rfl⟩
              have hv15_32 : v15 32 = f16 := by rw [hv15, hf16, xu_k, eoa0]
              have hv15_33 : v15 33 = vi 33 := by rw [hv15, xu_c _ _ _ _ (by decide), eoa1]
              have hv15_31_3 : v15 31 3 = vi 31 3 := by rw [hv15, xu_c _ _ _ _ (by decide), eoa2]
              have hv15_31_22 : v15 31 22 = vi 31 22 := by rw [hv15, xu_c _ _ _ _ (by decide), eoa3]
              have hv15_44 : v15 44 = vi 44 := by rw [hv15, xu_c _ _ _ _ (by decide), eoa4]
              have hv15_31_16 : v15 31 16 = m1 31 16 := by rw [hv15, xu_c _ _ _ _ (by decide)]
              have frv15 : ∀ k : Nat, (k < 31 ∨ 44 < k) → v15 k = vi k := fun k hk => by rw [hv15, xu_c _ _ _ _ (by omega)]; exact foa k hk
              have e32 : v15 32 = fu (vi 32) 6 kk := by rw [hv15_32, hf16]; exact fu_fu _ _ _ _
              have hWl := ms_W_lim hW (x := kk) (by omega)
              have es0 : fu (vi 32) 6 kk 0 = vi 32 0 := fu_n _ _ _ (by omega)
              refine vx_aload_n hC 3 rfl eX12_room_66 ?_
              refine vx_iload_n hC 4 rfl eX12_room_67 ?_
              refine vx_iload_n hC 5 rfl eX12_room_68 ?_
              have hbf := bs_f_r hWl (p := q) (by omega) (n := m) (by omega)
              have ht10 := ten_le (t := (m).toNat) (by omega)
              refine vx_callV_l hC (kX12_bestOf G d _ _ _ _ _ hO (fu (vi 32) 6 kk) e32 hWl q (by omega) m (by omega)) ly_X12_200 (ot_31 hO) rfl rfl rfl hRm (by omega) (Nat.le_of_ble_eq_true rfl) rfl eX12_room_69 (fun x17 ng18 tg18 ag18 bg18 cg18 hg18 => ?_)
              obtain ⟨hx17, qg18_0, qg18_1, qg18_2, rfl, rfl, rfl, frg18⟩ := hg18
              have hg18_32 : ag18 32 = fu (vi 32) 6 kk := (frg18 32 (by omega)).1.trans e32
              have hg18_33 : ag18 33 = vi 33 := (frg18 33 (by omega)).1.trans hv15_33
              have qg18_1b : ag18 31 3 = vi 31 3 := by first | exact qg18_1 | rw [qg18_1, hv15_31_3] | (rw [qg18_1]; exact hv15_31_3)
              have qg18_2b : ag18 31 22 = vi 31 22 := by first | exact qg18_2 | rw [qg18_2, hv15_31_22] | (rw [qg18_2]; exact hv15_31_22)
              have hg18_44 : ag18 44 = vi 44 := (frg18 44 (by omega)).1.trans hv15_44
              have qg18_0b : ag18 31 16 = bs_s (ms_odds (fu (vi 32) 6 kk) q) ((fu (vi 32) 6 kk) (18 + q)) (ms_lim (fu (vi 32) 6 kk)) m ((fu (vi 32) 6 kk) (22 + q)) := by first | exact qg18_0 | rw [qg18_0, hv15_31_16] | (rw [qg18_0]; exact hv15_31_16)
              have frvig18 : ∀ k : Nat, (k < 31 ∨ 44 < k) → ag18 k = vi k := fun k hk => (frg18 k (by omega)).1.trans (frv15 k hk)
              have frvlg18 : ∀ k : Nat, (k < 31 ∨ 44 < k) → bg18 k = vl k := fun k hk => (frg18 k (by omega)).2.trans (fol k hk)
              rw [rm_V_lim hW (by omega) (by omega)] at hx17 hbf
              refine vx_lload_n hC 2 rfl eX12_room_72 ?_
              refine vx_lcmp hC (by omega) eX12_room_73 ?_
              have J83_z19 : ∀ z19 : Int, ((z19 = kk ∧ x17 = x7) ∨ (z19 = 0 ∧ ¬ x17 = x7)) → xv G K 7 (xk_Q G K (xp_i (fun z9 n1 t1 a1 b1 c1 => z9 = sp_room (vi 32) q m ∧ mq (vi 32) (vi 33) (vi 31 3) (vi 31 22) (vi 44) n tau vi vl vr n1 t1 a1 b1 c1)) 0 0) 0 0 n tau ag18 bg18 vr 83 [(6, xa_i kk), (5, xa_i ro), (3, xa_l x7), (0, xa_r 31), (1, xa_i q), (2, xa_i m)] [xa_i z19] := by
                intro z19 hz19
                refine vx_istore hC (lv1 := [(5, xa_i z19), (6, xa_i kk), (3, xa_l x7), (0, xa_r 31), (1, xa_i q), (2, xa_i m)]) (by decide) rfl eX12_room_83 ?_
                have hro9 : (z19 = 0 ∧ rm_run (rm_V (vi 32) q m) x7 cq1 (kk + 1) = rm_run (rm_V (vi 32) q m) x7 6 1) ∨ (1 ≤ z19 ∧ z19 ≤ 6 ∧ z19 = rm_run (rm_V (vi 32) q m) x7 6 1) := by
                  rcases hro with ⟨h8, h9⟩ | ⟨h8, h9⟩
                  · rw [← h9, rm_run, ← hx17]; split <;> omega
                  · omega
                refine vx_iinc hC (lv1 := [(6, xa_i (kk + 1)), (5, xa_i z19), (3, xa_l x7), (0, xa_r 31), (1, xa_i q), (2, xa_i m)]) 1 rfl (by decide) rfl eX12_room_85 ?_
                refine vx_goto hC (tgt := 45) (by decide) eX12_room_88 ?_
                exact ih cq1 (kk + 1) z19 kk ag18 bg18 (by omega) hro9 hg18_32 hg18_33 qg18_1b qg18_2b hg18_44 frvig18 frvlg18 (by omega)
              refine vx_if_ne hC (tgt := 82) (by omega) (by decide) eX12_room_74 (fun c20 => ?_) (fun c20 => ?_)
              · refine vx_iconst hC eX12_room_82 ?_
                exact J83_z19 _ (by omega)
              · refine vx_iload hC 0 rfl eX12_room_77 ?_
                refine vx_goto hC (tgt := 83) (by decide) eX12_room_79 ?_
                exact J83_z19 _ (by omega)
      exact LP45 8 6 1 0 99 ag8 bg8 (by omega) (Or.inl ⟨rfl, rfl⟩) hg8_32 hg8_33 qg8_1b qg8_2b hg8_44 frvig8 frvlg8 (by omega)
    · refine vx_bipush hC (by decide) eX12_room_20 ?_
      exact vx_iret hC hM rfl eX12_room_22 (⟨_, rfl, by unfold sp_room; first | (rw [if_pos (by omega)]) | (rw [if_neg (by omega), if_pos (by omega)]) | (rw [if_neg (by omega), if_neg (by omega)]; simp only [] at hro; rcases hro with ⟨h8, h9⟩ | ⟨h8, h9, h10⟩; (rw [← h9, h8, show cq = 0 by omega, rm_run]); exact h10), rfl, rfl, rfl, (by (first | exact rfl | (rw [rfl]; rw [fu_fu, fu_fu, fu_self _ h60]))), rfl, rfl, rfl, rfl, fun k hk => ⟨rfl, rfl⟩⟩)
  · refine vx_iconst hC eX12_room_8 ?_
    exact vx_iret hC hM rfl eX12_room_9 (⟨_, rfl, by unfold sp_room; first | (rw [if_pos (by omega)]) | (rw [if_neg (by omega), if_pos (by omega)]) | (rw [if_neg (by omega), if_neg (by omega)]; simp only [] at hro; rcases hro with ⟨h8, h9⟩ | ⟨h8, h9, h10⟩; (rw [← h9, h8, show cq = 0 by omega, rm_run]); exact h10), rfl, rfl, rfl, (by (first | exact rfl | (rw [rfl]; rw [fu_fu, fu_fu, fu_self _ h60]))), rfl, rfl, rfl, rfl, fun k hk => ⟨rfl, rfl⟩⟩)
