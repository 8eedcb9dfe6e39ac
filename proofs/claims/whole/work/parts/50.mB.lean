/-- the best of the stakes from st on: its ways, the first that has so many -/
def bs_v (od f : Int → Int) (q st : Int) : Int := od st * f (q + st) + (10 - od st) * f (q - st)
def bs_run (od f : Int → Int) (q : Int) : Nat → Int → Int → Int → Int × Int
  | 0, _, b, z => (b, z)
  | c + 1, st, b, z => if b < bs_v od f q st then bs_run od f q c (st + 1) (bs_v od f q st) st else bs_run od f q c (st + 1) b z
def bs_m (g lim q : Int) : Int := mz_le (mz_le q (g - q)) lim
def bs_q (od : Int → Int → Int) (g lim : Int) (f : Int → Int) (q : Int) : Int × Int := bs_run (od q) f q (bs_m g lim q).toNat 1 (if q = 0 ∨ q = g then 10 * f q else -1) 0
def bs_1 (od : Int → Int → Int) (g lim : Int) (f : Int → Int) : Int → Int := fun q => if q ≤ g then (bs_q od g lim f q).1 else 0
def bs_n (od : Int → Int → Int) (g lim : Int) : Nat → (Int → Int) → Int → Int
  | 0, f => f
  | c + 1, f => bs_n od g lim c (bs_1 od g lim f)
def bs_0 (g : Int) : Int → Int := fun q => if q = g then 1 else 0
def bs_f (od : Int → Int → Int) (g lim n : Int) : Int → Int := bs_n od g lim n.toNat (bs_0 g)
def bs_s (od : Int → Int → Int) (g lim n u : Int) : Int := if n ≤ 0 then 0 else (bs_q od g lim (bs_n od g lim (n - 1).toNat (bs_0 g)) u).2
theorem bs_n_s (od : Int → Int → Int) (g lim : Int) : ∀ (c : Nat) (f : Int → Int), bs_n od g lim (c + 1) f = bs_1 od g lim (bs_n od g lim c f)
  | 0, _ => rfl
  | c + 1, f => by rw [bs_n, bs_n_s od g lim c, ← bs_n]
def bs_ok (g : Int) (t : Nat) (f : Int → Int) : Prop := ∀ q, 0 ≤ q → q ≤ g → 0 ≤ f q ∧ f q ≤ (10 : Int) ^ t
theorem bs_v_r {od f : Int → Int} {g q st b : Int} (ho : 1 ≤ od st ∧ od st ≤ 9) (hf : ∀ q, 0 ≤ q → q ≤ g → 0 ≤ f q ∧ f q ≤ b) (h1 : 0 ≤ q - st) (h2 : q + st ≤ g) (h3 : 0 ≤ st) : 0 ≤ bs_v od f q st ∧ bs_v od f q st ≤ 10 * b := by
  have a1 := hf (q + st) (by omega) h2
  have a2 := hf (q - st) h1 (by omega)
  unfold bs_v
  generalize f (q + st) = x at *
  generalize f (q - st) = y at *
  generalize od st = o at *
  have e1 : 0 ≤ o * x := Int.mul_nonneg (by omega) a1.1
  have e2 : 0 ≤ (10 - o) * y := Int.mul_nonneg (by omega) a2.1
  have e3 : o * x ≤ o * b := Int.mul_le_mul_of_nonneg_left a1.2 (by omega)
  have e4 : (10 - o) * y ≤ (10 - o) * b := Int.mul_le_mul_of_nonneg_left a2.2 (by omega)
  have e5 : (10 - o) * b = 10 * b - o * b := Int.sub_mul _ _ _
  omega
theorem bs_run_r {od f : Int → Int} {g q b : Int} (ho : ∀ st, 1 ≤ od st ∧ od st ≤ 9) (hf : ∀ q, 0 ≤ q → q ≤ g → 0 ≤ f q ∧ f q ≤ b) : ∀ (c : Nat) (st v z : Int), 0 ≤ st → (c = 0 ∨ (st + (c : Int) - 1 ≤ q ∧ q + (st + (c : Int) - 1) ≤ g)) → v ≤ 10 * b →
    v ≤ (bs_run od f q c st v z).1 ∧ (bs_run od f q c st v z).1 ≤ 10 * b ∧ (∀ x, st ≤ x → x < st + (c : Int) → bs_v od f q x ≤ (bs_run od f q c st v z).1)
  | 0, st, v, z, h0, hc, hv => by rw [bs_run]; exact ⟨Int.le_refl _, hv, fun x x1 x2 => by omega⟩
  | c + 1, st, v, z, h0, hc, hv => by
    have hb := bs_v_r (q := q) (ho st) hf (by omega) (by omega) h0
    rw [bs_run]
    split
    · next e =>
      obtain ⟨a1, a2, a3⟩ := bs_run_r (q := q) ho hf c (st + 1) (bs_v od f q st) st (by omega) (by omega) hb.2
      refine ⟨by omega, a2, fun x x1 x2 => ?_⟩
      by_cases ex : x = st
      · rw [ex]; exact a1
      · exact a3 x (by omega) (by omega)
    · next e =>
      obtain ⟨a1, a2, a3⟩ := bs_run_r (q := q) ho hf c (st + 1) v z (by omega) (by omega) hv
      refine ⟨a1, a2, fun x x1 x2 => ?_⟩
      by_cases ex : x = st
      · rw [ex]; omega
      · exact a3 x (by omega) (by omega)
theorem bs_m_r {g lim q : Int} (hl : 1 ≤ lim) (h1 : 0 ≤ q) (h2 : q ≤ g) : 0 ≤ bs_m g lim q ∧ bs_m g lim q ≤ q ∧ bs_m g lim q ≤ g - q ∧ bs_m g lim q ≤ lim ∧ (0 < q → q < g → 1 ≤ bs_m g lim q) := by
  have g8 := mz_le_r q (g - q)
  have g9 := mz_le_r (mz_le q (g - q)) lim
  unfold bs_m
  omega
theorem bs_ok_1 {od : Int → Int → Int} {g lim : Int} (ho : ∀ q st, 1 ≤ od q st ∧ od q st ≤ 9) (hl : 1 ≤ lim) {t : Nat} {f : Int → Int} (h : bs_ok g t f) : bs_ok g (t + 1) (bs_1 od g lim f) := by
  intro q q1 q2
  have hm := bs_m_r hl q1 q2
  have hq := h q q1 q2
  have := bs_run_r (q := q) (ho q) h (bs_m g lim q).toNat 1 (if q = 0 ∨ q = g then 10 * f q else -1) 0 (by omega) (by omega) (by split <;> omega)
  unfold bs_1
  rw [if_pos q2, Int.pow_succ]
  unfold bs_q
  refine ⟨?_, by omega⟩
  by_cases e : q = 0 ∨ q = g
  · rw [if_pos e] at this ⊢; omega
  · have h3 := this.2.2 1 (by omega) (by omega)
    have h4 := bs_v_r (q := q) (st := 1) (ho q 1) h (by omega) (by omega) (by omega)
    omega
theorem bs_ok_0 (g : Int) : bs_ok g 0 (bs_0 g) := by
  intro q q1 q2
  unfold bs_0
  split <;> simp
theorem bs_ok_n {od : Int → Int → Int} {g lim : Int} (ho : ∀ q st, 1 ≤ od q st ∧ od q st ≤ 9) (hl : 1 ≤ lim) : ∀ (c : Nat), bs_ok g c (bs_n od g lim c (bs_0 g))
  | 0 => bs_ok_0 g
  | c + 1 => by rw [bs_n_s]; exact bs_ok_1 ho hl (bs_ok_n ho hl c)
theorem ms_od_r (s : Int → Int) (p : Int) : ∀ q st, 1 ≤ ms_odds s p q st ∧ ms_odds s p q st ≤ 9 := fun _ _ => mclamp_r _
theorem bs_m_ms (s : Int → Int) (p q : Int) : ms_most s p q = bs_m (s (18 + p)) (ms_lim s) q := rfl
set_option maxHeartbeats 4000000 in
set_option maxRecDepth 100000 in
theorem kX12_chanceBy (G : xg_T) (d : Nat) (n : Nat) (tau : Nat → Nat × Nat) (vi vl : Nat → Int → Int) (vr : Nat → Int → Option Nat) (hO : xo n tau vr) (s : Int → Int) (h32 : vi 32 = s) (hW : ms_W s) (p : Int) (hp : 0 ≤ p ∧ p < s 0) (q : Int) (hq : 0 ≤ q ∧ q ≤ s (18 + p)) (st : Int) (hst : 0 ≤ st ∧ st ≤ q ∧ q + st ≤ s (18 + p)) (F : Int → Int) (hF : ag 13 (vl 38) F)  : xm G yX12_chanceBy cX12_chanceBy 5 (some .long) (d + 2) 0 0 [xa_r 31, xa_i p, xa_i q, xa_i st] n tau vi vl vr (xp_l (fun z9 n1 t1 a1 b1 c1 => (z9 = bs_v (ms_odds s p q) F q st) ∧ xs_I (fun k => ¬ k = 34 ∧ ¬ k = 35) n tau vi vl vr n1 t1 a1 b1 c1)) := by
  refine xm.of (lv := [(0, xa_r 31), (1, xa_i p), (2, xa_i q), (3, xa_i st)]) (by decide) (Nat.le_of_ble_eq_true rfl) rfl (fun K hC hM hRm => ?_)
  obtain ⟨hr, h0, h1, h2, h3, h4, h5, h6, hp0, hrow, hwon, htape, htab⟩ := id hW
  obtain ⟨g1, g2, g3, g4⟩ := hp0 p hp.1 hp.2
  refine vx_aload_n hC 0 rfl eX12_chanceBy_0 ?_
  refine vx_iload_n hC 1 rfl eX12_chanceBy_1 ?_
  refine vx_iload_n hC 2 rfl eX12_chanceBy_2 ?_
  refine vx_iload_n hC 3 rfl eX12_chanceBy_3 ?_
  refine vx_callV_i hC (kX12_oddsOf G d _ _ _ _ _ hO (s) h32 hW p (by omega) q (by omega) st (by omega)) ly_X12_160 (ot_31 hO) rfl rfl rfl hRm (by omega) (Nat.le_of_ble_eq_true rfl) rfl eX12_chanceBy_4 (fun x1 ng2 tg2 ag2 bg2 cg2 hg2 => ?_)
  obtain ⟨hx1, rfl, rfl, rfl, rfl, frg2⟩ := hg2
  have hg2_32 : ag2 32 = s := (frg2 32 (by omega)).trans h32
  have frvig2 : ∀ k : Nat, (¬ k = 34 ∧ ¬ k = 35) → ag2 k = vi k := fun k hk => (frg2 k (by omega))
  have hob : 1 ≤ x1 ∧ x1 ≤ 9 := by rw [hx1]; exact mclamp_r _
  refine vx_istore hC (lv1 := [(4, xa_i x1), (0, xa_r 31), (1, xa_i p), (2, xa_i q), (3, xa_i st)]) (by decide) rfl eX12_chanceBy_7 ?_
  refine vx_iload hC 0 rfl eX12_chanceBy_9 ?_
  refine vx_i2l hC (by omega) eX12_chanceBy_11 ?_
  refine vx_aload_n hC 1 rfl eX12_chanceBy_12 ?_
  refine vx_gr hC 14 (ot_31 hO) lf_X12_32 rfl (or_31_14 hO) eX12_chanceBy_13 ?_
  refine vx_iload_n hC 3 rfl eX12_chanceBy_16 ?_
  refine vx_iload_n hC 4 rfl eX12_chanceBy_17 ?_
  refine vx_iadd hC eX12_chanceBy_18 ?_
  refine vx_laload hC (ot_38 hO) (by omega) (by omega) eX12_chanceBy_19 ?_
  refine vx_eql (hF _ (by omega) (by omega)) ?_
  refine vx_lmul hC eX12_chanceBy_20 ?_
  refine vx_bipush hC (by decide) eX12_chanceBy_21 ?_
  refine vx_iload hC 0 rfl eX12_chanceBy_23 ?_
  refine vx_isub hC eX12_chanceBy_25 ?_
  refine vx_i2l hC (by omega) eX12_chanceBy_26 ?_
  refine vx_aload_n hC 1 rfl eX12_chanceBy_27 ?_
  refine vx_gr hC 14 (ot_31 hO) lf_X12_32 rfl (or_31_14 hO) eX12_chanceBy_28 ?_
  refine vx_iload_n hC 3 rfl eX12_chanceBy_31 ?_
  refine vx_iload_n hC 4 rfl eX12_chanceBy_32 ?_
  refine vx_isub hC eX12_chanceBy_33 ?_
  refine vx_laload hC (ot_38 hO) (by omega) (by omega) eX12_chanceBy_34 ?_
  refine vx_eql (hF _ (by omega) (by omega)) ?_
  refine vx_lmul hC eX12_chanceBy_35 ?_
  refine vx_ladd hC eX12_chanceBy_36 ?_
  exact vx_lret hC hM eX12_chanceBy_37 (⟨_, rfl, (by unfold bs_v; simp only [hx1]), rfl, rfl, rfl, rfl, fun k hk => frvig2 k hk⟩)
set_option maxHeartbeats 4000000 in
set_option maxRecDepth 100000 in
theorem kX12_bestOf (G : xg_T) (d : Nat) (n : Nat) (tau : Nat → Nat × Nat) (vi vl : Nat → Int → Int) (vr : Nat → Int → Option Nat) (hO : xo n tau vr) (s : Int → Int) (h32 : vi 32 = s) (hW : ms_W s) (p : Int) (hp : 0 ≤ p ∧ p < s 0) (nn : Int) (hnn : 0 ≤ nn ∧ nn ≤ 15)  : xm G yX12_bestOf cX12_bestOf 11 (some .long) (d + 4) 0 0 [xa_r 31, xa_i p, xa_i nn] n tau vi vl vr (xp_l (fun z9 n1 t1 a1 b1 c1 => (z9 = bs_f (ms_odds s p) (s (18 + p)) (ms_lim s) nn (s (22 + p))) ∧ (a1 31 16 = bs_s (ms_odds s p) (s (18 + p)) (ms_lim s) nn (s (22 + p))) ∧ (a1 31 3 = vi 31 3) ∧ (a1 31 22 = vi 31 22) ∧ xs_F (fun k => ¬ k = 31 ∧ ¬ k = 34 ∧ ¬ k = 35 ∧ ¬ k = 38 ∧ ¬ k = 39) n tau vi vl vr n1 t1 a1 b1 c1)) := by
  refine xm.of (lv := [(0, xa_r 31), (1, xa_i p), (2, xa_i nn)]) (by decide) (Nat.le_of_ble_eq_true rfl) rfl (fun K hC hM hRm => ?_)
  obtain ⟨hr, h0, h1, h2, h3, h4, h5, h6, hp0, hrow, hwon, htape, htab⟩ := id hW
  obtain ⟨g1, g2, g3, g4⟩ := hp0 p hp.1 hp.2
  refine vx_aload_n hC 0 rfl eX12_bestOf_0 ?_
  refine vx_gr hC 1 (ot_31 hO) lf_X12_9 rfl (or_31_1 hO) eX12_bestOf_1 ?_
  refine vx_bipush hC (by decide) eX12_bestOf_4 ?_
  refine vx_iload_n hC 1 rfl eX12_bestOf_6 ?_
  refine vx_iadd hC eX12_bestOf_7 ?_
  refine vx_iaload hC (ot_32 hO) (by omega) (by omega) eX12_bestOf_8 ?_
  refine vx_eqi (congrFun h32 _) ?_
  refine vx_top (fun x1 hx1 => ?_)
  refine vx_istore_n hC (lv1 := [(3, xa_i x1), (0, xa_r 31), (1, xa_i p), (2, xa_i nn)]) (by decide) rfl eX12_bestOf_9 ?_
  refine vx_iconst hC eX12_bestOf_10 ?_
  refine vx_istore hC (lv1 := [(4, xa_i 0), (3, xa_i x1), (0, xa_r 31), (1, xa_i p), (2, xa_i nn)]) (by decide) rfl eX12_bestOf_11 ?_
  have LP13 : ∀ (j : Nat) (kk : Int) (m2 : Nat → Int → Int) (hkk : 0 ≤ kk ∧ kk ≤ 13) (ha : ag kk (m2 38) (bs_0 (s (18 + p)))) (fl : ∀ k : Nat, (¬ k = 31 ∧ ¬ k = 34 ∧ ¬ k = 35 ∧ ¬ k = 38 ∧ ¬ k = 39) → m2 k = vl k) (hj : 13 - kk < (j : Int)), xv G K 11 (xk_Q G K (xp_l (fun z9 n1 t1 a1 b1 c1 => (z9 = bs_f (ms_odds s p) (s (18 + p)) (ms_lim s) nn (s (22 + p))) ∧ (a1 31 16 = bs_s (ms_odds s p) (s (18 + p)) (ms_lim s) nn (s (22 + p))) ∧ (a1 31 3 = vi 31 3) ∧ (a1 31 22 = vi 31 22) ∧ xs_F (fun k => ¬ k = 31 ∧ ¬ k = 34 ∧ ¬ k = 35 ∧ ¬ k = 38 ∧ ¬ k = 39) n tau vi vl vr n1 t1 a1 b1 c1)) 0 0) 0 0 n tau vi m2 vr 13 [(4, xa_i kk), (3, xa_i x1), (0, xa_r 31), (1, xa_i p), (2, xa_i nn)] [] := by
    intro j
    induction j with
    | zero => intro kk m2 hkk ha fl hj; exfalso; omega
    | succ j ih =>
      intro kk m2 hkk ha fl hj
      refine vx_iload hC 0 rfl eX12_bestOf_13 ?_
      refine vx_bipush hC (by decide) eX12_bestOf_15 ?_
      refine vx_icmp_ge hC (tgt := 44) (by omega) (by decide) eX12_bestOf_17 (fun c2 => ?_) (fun c2 => ?_)
      · refine vx_aload_n hC 2 rfl eX12_bestOf_44 ?_
        refine vx_iconst hC eX12_bestOf_45 ?_
        refine vx_pi hC 16 (ot_31 hO) lp_X12_191 rfl (Or.inl rfl) (Or.inl rfl) eX12_bestOf_46 ?_
        refine vx_vi (fun v3 hv3 => ?_)
        have hv3_32 : v3 32 = s := by rw [hv3, xu_c _ _ _ _ (by decide), h32]
        have hv3_31_16 : v3 31 16 = 0 := by rw [hv3, xu_k, fu_s]
        have hv3_31_3 : v3 31 3 = vi 31 3 := by rw [hv3, xu_k, fu_n _ _ _ (by decide)]
        have hv3_31_22 : v3 31 22 = vi 31 22 := by rw [hv3, xu_k, fu_n _ _ _ (by decide)]
        have frv3 : ∀ k : Nat, (¬ k = 31 ∧ ¬ k = 34 ∧ ¬ k = 35 ∧ ¬ k = 38 ∧ ¬ k = 39) → v3 k = vi k := fun k hk => by rw [hv3, xu_c _ _ _ _ (by omega)]
        refine vx_iconst hC eX12_bestOf_49 ?_
        refine vx_istore hC (lv1 := [(4, xa_i 1), (3, xa_i x1), (0, xa_r 31), (1, xa_i p), (2, xa_i nn)]) (by decide) rfl eX12_bestOf_50 ?_
        have LP52 : ∀ (j : Nat) (cc : Nat) (t0 : Nat) (tt : Int) (F : Int → Int) (fs : Int) (m1 : Nat → Int → Int) (m2 : Nat → Int → Int) (hcc : tt + (cc : Int) = nn + 1 ∧ tt = (t0 : Int) + 1) (hF : F = bs_n (ms_odds s p) (s (18 + p)) (ms_lim s) t0 (bs_0 (s (18 + p)))) (aF : ag 13 (m2 38) F) (hfs : (tt ≤ nn ∧ fs = 0) ∨ (nn < tt ∧ fs = bs_s (ms_odds s p) (s (18 + p)) (ms_lim s) nn (s (22 + p)))) (ef : m1 31 16 = fs) (e1 : m1 32 = s) (e2 : m1 31 3 = vi 31 3) (e3 : m1 31 22 = vi 31 22) (fi : ∀ k : Nat, (¬ k = 31 ∧ ¬ k = 34 ∧ ¬ k = 35 ∧ ¬ k = 38 ∧ ¬ k = 39) → m1 k = vi k) (fl : ∀ k : Nat, (¬ k = 31 ∧ ¬ k = 34 ∧ ¬ k = 35 ∧ ¬ k = 38 ∧ ¬ k = 39) → m2 k = vl k) (hj : (cc : Int) < (j : Int)), xv G K 11 (xk_Q G K (xp_l (fun z9 n1 t1 a1 b1 c1 => (z9 = bs_f (ms_odds s p) (s (18 + p)) (ms_lim s) nn (s (22 + p))) ∧ (a1 31 16 = bs_s (ms_odds s p) (s (18 + p)) (ms_lim s) nn (s (22 + p))) ∧ (a1 31 3 = vi 31 3) ∧ (a1 31 22 = vi 31 22) ∧ xs_F (fun k => ¬ k = 31 ∧ ¬ k = 34 ∧ ¬ k = 35 ∧ ¬ k = 38 ∧ ¬ k = 39) n tau vi vl vr n1 t1 a1 b1 c1)) 0 0) 0 0 n tau m1 m2 vr 52 [(4, xa_i tt), (3, xa_i x1), (0, xa_r 31), (1, xa_i p), (2, xa_i nn)] [] := by
          intro j
          induction j with
          | zero => intro cc t0 tt F fs m1 m2 hcc hF aF hfs ef e1 e2 e3 fi fl hj; exfalso; omega
          | succ j ihB =>
            intro cc t0 tt F fs m1 m2 hcc hF aF hfs ef e1 e2 e3 fi fl hj
            refine vx_iload hC 0 rfl eX12_bestOf_52 ?_
            refine vx_iload_n hC 4 rfl eX12_bestOf_54 ?_
            refine vx_icmp_gt hC (tgt := 240) (by omega) (by decide) eX12_bestOf_55 (fun c4 => ?_) (fun c4 => ?_)
            · refine vx_aload_n hC 2 rfl eX12_bestOf_240 ?_
              refine vx_gr hC 14 (ot_31 hO) lf_X12_32 rfl (or_31_14 hO) eX12_bestOf_241 ?_
              refine vx_aload_n hC 2 rfl eX12_bestOf_244 ?_
              refine vx_gr hC 1 (ot_31 hO) lf_X12_9 rfl (or_31_1 hO) eX12_bestOf_245 ?_
              refine vx_bipush hC (by decide) eX12_bestOf_248 ?_
              refine vx_iload_n hC 3 rfl eX12_bestOf_250 ?_
              refine vx_iadd hC eX12_bestOf_251 ?_
              refine vx_iaload hC (ot_32 hO) (by omega) (by omega) eX12_bestOf_252 ?_
              refine vx_eqi (congrFun e1 _) ?_
              refine vx_laload hC (ot_38 hO) (by omega) (by omega) eX12_bestOf_253 ?_
              refine vx_eql (aF _ (by omega) (by omega)) ?_
              exact vx_lret hC hM eX12_bestOf_254 (⟨_, rfl, (by unfold bs_f; rw [hF, show t0 = nn.toNat by omega]), (by rw [ef]; omega), e2, e3, rfl, rfl, rfl, fun k hk => ⟨fi k hk, fl k hk⟩⟩)
            · obtain ⟨cc1, rfl⟩ : ∃ cc1, cc = cc1 + 1 := ⟨cc - 1, by omega⟩
              have hok : bs_ok (s (18 + p)) t0 F := by rw [hF]; exact bs_ok_n (ms_od_r s p) (ms_lim_r hW).1 t0
              have ht10 := ten_le (t := t0) (by omega)
              refine vx_iconst hC eX12_bestOf_58 ?_
              refine vx_istore hC (lv1 := [(5, xa_i 0), (4, xa_i tt), (3, xa_i x1), (0, xa_r 31), (1, xa_i p), (2, xa_i nn)]) (by decide) rfl eX12_bestOf_59 ?_
              have LP61 : ∀ (j : Nat) (q : Int) (fs5 : Int) (m3 : Nat → Int → Int) (m4 : Nat → Int → Int) (hq : 0 ≤ q ∧ q ≤ s (18 + p) + 1) (aN : ag q (m4 39) (bs_1 (ms_odds s p) (s (18 + p)) (ms_lim s) F)) (aF3 : ag 13 (m4 38) F) (hf5 : fs5 = if tt = nn ∧ s (22 + p) < q then bs_s (ms_odds s p) (s (18 + p)) (ms_lim s) nn (s (22 + p)) else 0) (ef5 : m3 31 16 = fs5) (e1c : m3 32 = s) (e2c : m3 31 3 = vi 31 3) (e3c : m3 31 22 = vi 31 22) (fi3 : ∀ k : Nat, (¬ k = 31 ∧ ¬ k = 34 ∧ ¬ k = 35 ∧ ¬ k = 38 ∧ ¬ k = 39) → m3 k = vi k) (fl3 : ∀ k : Nat, (¬ k = 31 ∧ ¬ k = 34 ∧ ¬ k = 35 ∧ ¬ k = 38 ∧ ¬ k = 39) → m4 k = vl k) (hj : s (18 + p) + 1 - q < (j : Int)), xv G K 11 (xk_Q G K (xp_l (fun z9 n1 t1 a1 b1 c1 => (z9 = bs_f (ms_odds s p) (s (18 + p)) (ms_lim s) nn (s (22 + p))) ∧ (a1 31 16 = bs_s (ms_odds s p) (s (18 + p)) (ms_lim s) nn (s (22 + p))) ∧ (a1 31 3 = vi 31 3) ∧ (a1 31 22 = vi 31 22) ∧ xs_F (fun k => ¬ k = 31 ∧ ¬ k = 34 ∧ ¬ k = 35 ∧ ¬ k = 38 ∧ ¬ k = 39) n tau vi vl vr n1 t1 a1 b1 c1)) 0 0) 0 0 n tau m3 m4 vr 61 [(5, xa_i q), (4, xa_i tt), (3, xa_i x1), (0, xa_r 31), (1, xa_i p), (2, xa_i nn)] [] := by
                intro j
                induction j with
                | zero => intro q fs5 m3 m4 hq aN aF3 hf5 ef5 e1c e2c e3c fi3 fl3 hj; exfalso; omega
                | succ j ihC =>
                  intro q fs5 m3 m4 hq aN aF3 hf5 ef5 e1c e2c e3c fi3 fl3 hj
                  refine vx_iload hC 0 rfl eX12_bestOf_61 ?_
                  refine vx_iload_n hC 2 rfl eX12_bestOf_63 ?_
                  refine vx_icmp_gt hC (tgt := 194) (by omega) (by decide) eX12_bestOf_64 (fun c5 => ?_) (fun c5 => ?_)
                  · have hfs6 : (tt + 1 ≤ nn ∧ fs5 = 0) ∨ (nn < tt + 1 ∧ fs5 = bs_s (ms_odds s p) (s (18 + p)) (ms_lim s) nn (s (22 + p))) := by rw [hf5]; split; (right; exact ⟨by omega, rfl⟩); (left; exact ⟨by omega, rfl⟩)
                    refine vx_iconst hC eX12_bestOf_194 ?_
                    refine vx_istore hC (lv1 := [(5, xa_i 0), (4, xa_i tt), (3, xa_i x1), (0, xa_r 31), (1, xa_i p), (2, xa_i nn)]) (by decide) rfl eX12_bestOf_195 ?_
                    have LP197 : ∀ (j : Nat) (q6 : Int) (m6 : Nat → Int → Int) (hkk6 : 0 ≤ q6 ∧ q6 ≤ 13) (aG : ag q6 (m6 38) (bs_1 (ms_odds s p) (s (18 + p)) (ms_lim s) F)) (aT : ag (s (18 + p) + 1) (m6 39) (bs_1 (ms_odds s p) (s (18 + p)) (ms_lim s) F)) (fl6 : ∀ k : Nat, (¬ k = 31 ∧ ¬ k = 34 ∧ ¬ k = 35 ∧ ¬ k = 38 ∧ ¬ k = 39) → m6 k = vl k) (hj : 13 - q6 < (j : Int)), xv G K 11 (xk_Q G K (xp_l (fun z9 n1 t1 a1 b1 c1 => (z9 = bs_f (ms_odds s p) (s (18 + p)) (ms_lim s) nn (s (22 + p))) ∧ (a1 31 16 = bs_s (ms_odds s p) (s (18 + p)) (ms_lim s) nn (s (22 + p))) ∧ (a1 31 3 = vi 31 3) ∧ (a1 31 22 = vi 31 22) ∧ xs_F (fun k => ¬ k = 31 ∧ ¬ k = 34 ∧ ¬ k = 35 ∧ ¬ k = 38 ∧ ¬ k = 39) n tau vi vl vr n1 t1 a1 b1 c1)) 0 0) 0 0 n tau m3 m6 vr 197 [(5, xa_i q6), (4, xa_i tt), (3, xa_i x1), (0, xa_r 31), (1, xa_i p), (2, xa_i nn)] [] := by
                      intro j
                      induction j with
                      | zero => intro q6 m6 hkk6 aG aT fl6 hj; exfalso; omega
                      | succ j ihE =>
                        intro q6 m6 hkk6 aG aT fl6 hj
                        refine vx_iload hC 0 rfl eX12_bestOf_197 ?_
                        refine vx_bipush hC (by decide) eX12_bestOf_199 ?_
                        refine vx_icmp_ge hC (tgt := 234) (by omega) (by decide) eX12_bestOf_201 (fun c6 => ?_) (fun c6 => ?_)
                        · refine vx_iinc hC (lv1 := [(4, xa_i (tt + 1)), (5, xa_i q6), (3, xa_i x1), (0, xa_r 31), (1, xa_i p), (2, xa_i nn)]) 1 rfl (by decide) rfl eX12_bestOf_234 ?_
                          refine vx_goto hC (tgt := 52) (by decide) eX12_bestOf_237 ?_
                          refine vx_lv (lv1 := [(4, xa_i (tt + 1)), (3, xa_i x1), (0, xa_r 31), (1, xa_i p), (2, xa_i nn)]) [0, 2, 3, 4, 5] rfl ?_
                          exact ihB cc1 (t0 + 1) (tt + 1) (bs_1 (ms_odds s p) (s (18 + p)) (ms_lim s) F) fs5 m3 m6 (by omega) (by rw [hF, ← bs_n_s]) (by rw [show (13 : Int) = q6 by omega]; exact aG) hfs6 ef5 e1c e2c e3c fi3 fl6 (by omega)
                        · refine vx_aload_n hC 3 rfl eX12_bestOf_204 ?_
                          refine vx_gr hC 14 (ot_31 hO) lf_X12_32 rfl (or_31_14 hO) eX12_bestOf_205 ?_
                          refine vx_iload hC 0 rfl eX12_bestOf_208 ?_
                          refine vx_iload hC 0 rfl eX12_bestOf_210 ?_
                          refine vx_iload_n hC 2 rfl eX12_bestOf_212 ?_
                          have J227_z7 : ∀ z7 : Int, ((q6 ≤ s (18 + p) ∧ z7 = bs_1 (ms_odds s p) (s (18 + p)) (ms_lim s) F q6) ∨ (s (18 + p) < q6 ∧ z7 = 0)) → xv G K 11 (xk_Q G K (xp_l (fun z9 n1 t1 a1 b1 c1 => (z9 = bs_f (ms_odds s p) (s (18 + p)) (ms_lim s) nn (s (22 + p))) ∧ (a1 31 16 = bs_s (ms_odds s p) (s (18 + p)) (ms_lim s) nn (s (22 + p))) ∧ (a1 31 3 = vi 31 3) ∧ (a1 31 22 = vi 31 22) ∧ xs_F (fun k => ¬ k = 31 ∧ ¬ k = 34 ∧ ¬ k = 35 ∧ ¬ k = 38 ∧ ¬ k = 39) n tau vi vl vr n1 t1 a1 b1 c1)) 0 0) 0 0 n tau m3 m6 vr 227 [(5, xa_i q6), (4, xa_i tt), (3, xa_i x1), (0, xa_r 31), (1, xa_i p), (2, xa_i nn)] [xa_l z7, xa_i q6, xa_r 38] := by
                            intro z7 hz7
                            refine vx_lastore hC (ot_38 hO) (by omega) (by omega) eX12_bestOf_227 ?_
                            refine vx_vl (fun v8 hv8 => ?_)
                            obtain ⟨f9, hf9⟩ : ∃ f, f = fu (m6 38) q6 z7 := ⟨_, rfl⟩
                            have hv8_38 : v8 38 = f9 := by rw [hv8, hf9, xu_k]
                            have hv8_39 : ag (s (18 + p) + 1) (v8 39) ((bs_1 (ms_odds s p) (s (18 + p)) (ms_lim s) F)) := by rw [hv8, xu_c _ _ _ _ (by decide)]; exact aT
                            have frv8 : ∀ k : Nat, (¬ k = 31 ∧ ¬ k = 34 ∧ ¬ k = 35 ∧ ¬ k = 38 ∧ ¬ k = 39) → v8 k = vl k := fun k hk => by rw [hv8, xu_c _ _ _ _ (by omega)]; exact fl6 k hk
                            refine vx_iinc hC (lv1 := [(5, xa_i (q6 + 1)), (4, xa_i tt), (3, xa_i x1), (0, xa_r 31), (1, xa_i p), (2, xa_i nn)]) 0 rfl (by decide) rfl eX12_bestOf_228 ?_
                            refine vx_goto hC (tgt := 197) (by decide) eX12_bestOf_231 ?_
                            exact ihE (q6 + 1) v8 (by omega) (by rw [hv8_38, hf9]; exact ag_step aG rfl (by have e9 : s (18 + p) < q6 → bs_1 (ms_odds s p) (s (18 + p)) (ms_lim s) F q6 = 0 := (fun h9 => by unfold bs_1; rw [if_neg (by omega)]); omega)) hv8_39 frv8 (by omega)
                          refine vx_icmp_gt hC (tgt := 226) (by omega) (by decide) eX12_bestOf_213 (fun c10 => ?_) (fun c10 => ?_)
                          · refine vx_lconst hC 0 (by decide) eX12_bestOf_226 ?_
                            exact J227_z7 _ (by omega)
                          · refine vx_aload_n hC 3 rfl eX12_bestOf_216 ?_
                            refine vx_gr hC 15 (ot_31 hO) lf_X12_35 rfl (or_31_15 hO) eX12_bestOf_217 ?_
                            refine vx_iload hC 0 rfl eX12_bestOf_220 ?_
                            refine vx_laload hC (ot_39 hO) (by omega) (by omega) eX12_bestOf_222 ?_
                            refine vx_eql (aT _ (by omega) (by omega)) ?_
                            refine vx_goto hC (tgt := 227) (by decide) eX12_bestOf_223 ?_
                            exact J227_z7 _ (by omega)
                    exact LP197 14 0 m4 (by omega) (ag_0 (by omega) _ _) (by rw [show s (18 + p) + 1 = q by omega]; exact aN) fl3 (by omega)
                  · have hFq := hok q (by omega) (by omega)
                    have hmq := ms_most_r hW hp (q := q) (by omega)
                    refine vx_iload hC 0 rfl eX12_bestOf_67 ?_
                    have J95_z11 : ∀ z11 : Int, (((q = 0 ∨ q = s (18 + p)) ∧ z11 = 10 * F q) ∨ (¬ (q = 0 ∨ q = s (18 + p)) ∧ z11 = -1)) → xv G K 11 (xk_Q G K (xp_l (fun z9 n1 t1 a1 b1 c1 => (z9 = bs_f (ms_odds s p) (s (18 + p)) (ms_lim s) nn (s (22 + p))) ∧ (a1 31 16 = bs_s (ms_odds s p) (s (18 + p)) (ms_lim s) nn (s (22 + p))) ∧ (a1 31 3 = vi 31 3) ∧ (a1 31 22 = vi 31 22) ∧ xs_F (fun k => ¬ k = 31 ∧ ¬ k = 34 ∧ ¬ k = 35 ∧ ¬ k = 38 ∧ ¬ k = 39) n tau vi vl vr n1 t1 a1 b1 c1)) 0 0) 0 0 n tau m3 m4 vr 95 [(5, xa_i q), (4, xa_i tt), (3, xa_i x1), (0, xa_r 31), (1, xa_i p), (2, xa_i nn)] [xa_l z11] := by
                      intro z11 hz11
                      refine vx_lstore hC (lv1 := [(6, xa_l z11), (5, xa_i q), (4, xa_i tt), (3, xa_i x1), (0, xa_r 31), (1, xa_i p), (2, xa_i nn)]) (by decide) rfl eX12_bestOf_95 ?_
                      have hb0 : z11 = (if q = 0 ∨ q = s (18 + p) then 10 * F q else -1) := by split <;> omega
                      refine vx_iconst hC eX12_bestOf_97 ?_
                      refine vx_istore hC (lv1 := [(8, xa_i 1), (6, xa_l z11), (5, xa_i q), (4, xa_i tt), (3, xa_i x1), (0, xa_r 31), (1, xa_i p), (2, xa_i nn)]) (by decide) rfl eX12_bestOf_98 ?_
                      have LP100 : ∀ (j : Nat) (cq : Nat) (sk : Int) (b : Int) (z : Int) (fs7 : Int) (m5 : Nat → Int → Int) (hcq : sk + (cq : Int) = ms_most s p q + 1 ∧ 1 ≤ sk) (hb : -1 ≤ b ∧ b ≤ 10 * (10 : Int) ^ t0) (hrun : bs_run (ms_odds s p q) F q cq sk b z = bs_q (ms_odds s p) (s (18 + p)) (ms_lim s) F q) (hz7 : (tt = nn ∧ q = s (22 + p) ∧ fs7 = z) ∨ (¬ (tt = nn ∧ q = s (22 + p)) ∧ fs7 = fs5)) (ef7 : m5 31 16 = fs7) (e1d : m5 32 = s) (e2d : m5 31 3 = vi 31 3) (e3d : m5 31 22 = vi 31 22) (fi5 : ∀ k : Nat, (¬ k = 31 ∧ ¬ k = 34 ∧ ¬ k = 35 ∧ ¬ k = 38 ∧ ¬ k = 39) → m5 k = vi k) (hj : (cq : Int) < (j : Int)), xv G K 11 (xk_Q G K (xp_l (fun z9 n1 t1 a1 b1 c1 => (z9 = bs_f (ms_odds s p) (s (18 + p)) (ms_lim s) nn (s (22 + p))) ∧ (a1 31 16 = bs_s (ms_odds s p) (s (18 + p)) (ms_lim s) nn (s (22 + p))) ∧ (a1 31 3 = vi 31 3) ∧ (a1 31 22 = vi 31 22) ∧ xs_F (fun k => ¬ k = 31 ∧ ¬ k = 34 ∧ ¬ k = 35 ∧ ¬ k = 38 ∧ ¬ k = 39) n tau vi vl vr n1 t1 a1 b1 c1)) 0 0) 0 0 n tau m5 m4 vr 100 [(8, xa_i sk), (6, xa_l b), (5, xa_i q), (4, xa_i tt), (3, xa_i x1), (0, xa_r 31), (1, xa_i p), (2, xa_i nn)] [] := by
                        intro j
                        induction j with
                        | zero => intro cq sk b z fs7 m5 hcq hb hrun hz7 ef7 e1d e2d e3d fi5 hj; exfalso; omega
                        | succ j ihD =>
                          intro cq sk b z fs7 m5 hcq hb hrun hz7 ef7 e1d e2d e3d fi5 hj
                          refine vx_iload hC 2 rfl eX12_bestOf_100 ?_
                          refine vx_if_le hC (tgt := 179) (by omega) (by decide) eX12_bestOf_102 (fun c12 => ?_) (fun c12 => ?_)
                          · have hr9 : (b, z) = bs_q (ms_odds s p) (s (18 + p)) (ms_lim s) F q := by rw [← hrun, show cq = 0 by omega, bs_run]
                            have hbn : b = bs_1 (ms_odds s p) (s (18 + p)) (ms_lim s) F q := by unfold bs_1; rw [if_pos (by omega), ← hr9]
                            have hf7 : fs7 = if tt = nn ∧ s (22 + p) < q + 1 then bs_s (ms_odds s p) (s (18 + p)) (ms_lim s) nn (s (22 + p)) else 0 := by
                              rcases hz7 with ⟨h7, h8, h9⟩ | ⟨h7, h8⟩
                              · rw [if_pos (by omega), h9]; unfold bs_s; rw [if_neg (by omega), ← h8, show (nn - 1).toNat = t0 by omega, ← hF, ← hr9]
                              · rw [h8, hf5]; split <;> split <;> (first | rfl | (exfalso; omega))
                            refine vx_aload_n hC 5 rfl eX12_bestOf_179 ?_
                            refine vx_gr hC 15 (ot_31 hO) lf_X12_35 rfl (or_31_15 hO) eX12_bestOf_180 ?_
                            refine vx_iload hC 2 rfl eX12_bestOf_183 ?_
                            refine vx_lload hC 1 rfl eX12_bestOf_185 ?_
                            refine vx_lastore hC (ot_39 hO) (by omega) (by omega) eX12_bestOf_187 ?_
                            refine vx_vl (fun v13 hv13 => ?_)
                            have hv13_38 : ag 13 (v13 38) (F) := by rw [hv13, xu_c _ _ _ _ (by decide)]; exact aF3
                            obtain ⟨f14, hf14⟩ : ∃ f, f = fu (m4 39) q b := ⟨_, rfl⟩
                            have hv13_39 : v13 39 = f14 := by rw [hv13, hf14, xu_k]
                            have frv13 : ∀ k : Nat, (¬ k = 31 ∧ ¬ k = 34 ∧ ¬ k = 35 ∧ ¬ k = 38 ∧ ¬ k = 39) → v13 k = vl k := fun k hk => by rw [hv13, xu_c _ _ _ _ (by omega)]; exact fl3 k hk
                            refine vx_iinc hC (lv1 := [(5, xa_i (q + 1)), (8, xa_i sk), (6, xa_l b), (4, xa_i tt), (3, xa_i x1), (0, xa_r 31), (1, xa_i p), (2, xa_i nn)]) 2 rfl (by decide) rfl eX12_bestOf_188 ?_
                            refine vx_goto hC (tgt := 61) (by decide) eX12_bestOf_191 ?_
                            refine vx_lv (lv1 := [(5, xa_i (q + 1)), (4, xa_i tt), (3, xa_i x1), (0, xa_r 31), (1, xa_i p), (2, xa_i nn)]) [0, 3, 4, 5, 6, 7] rfl ?_
                            exact ihC (q + 1) fs7 m5 v13 (by omega) (by rw [hv13_39, hf14]; exact ag_step aN rfl hbn) hv13_38 hf7 ef7 e1d e2d e3d fi5 frv13 (by omega)
                          · refine vx_iload hC 0 rfl eX12_bestOf_105 ?_
                            refine vx_aload_n hC 5 rfl eX12_bestOf_107 ?_
                            refine vx_iload_n hC 6 rfl eX12_bestOf_108 ?_
                            refine vx_iload hC 2 rfl eX12_bestOf_109 ?_
                            refine vx_callV_i hC (kX12_mostOf G (d + 1) _ _ _ _ _ hO (s) e1d hW _ (by omega) _ (by omega)) ly_X12_151 (ot_31 hO) rfl rfl rfl hRm (by omega) (Nat.le_of_ble_eq_true rfl) rfl eX12_bestOf_111 (fun x15 n9 t9 a9 b9 c9 hx15 => ?_)
                            obtain ⟨hx15, rfl, rfl, rfl, rfl, rfl⟩ := hx15
                            refine vx_icmp_gt hC (tgt := 179) (by omega) (by decide) eX12_bestOf_114 (fun c16 => ?_) (fun c16 => ?_)
                            · have hr9 : (b, z) = bs_q (ms_odds s p) (s (18 + p)) (ms_lim s) F q := by rw [← hrun, show cq = 0 by omega, bs_run]
                              have hbn : b = bs_1 (ms_odds s p) (s (18 + p)) (ms_lim s) F q := by unfold bs_1; rw [if_pos (by omega), ← hr9]
                              have hf7 : fs7 = if tt = nn ∧ s (22 + p) < q + 1 then bs_s (ms_odds s p) (s (18 + p)) (ms_lim s) nn (s (22 + p)) else 0 := by
                                rcases hz7 with ⟨h7, h8, h9⟩ | ⟨h7, h8⟩
                                · rw [if_pos (by omega), h9]; unfold bs_s; rw [if_neg (by omega), ← h8, show (nn - 1).toNat = t0 by omega, ← hF, ← hr9]
                                · rw [h8, hf5]; split <;> split <;> (first | rfl | (exfalso; omega))
                              refine vx_aload_n hC 5 rfl eX12_bestOf_179 ?_
                              refine vx_gr hC 15 (ot_31 hO) lf_X12_35 rfl (or_31_15 hO) eX12_bestOf_180 ?_
                              refine vx_iload hC 2 rfl eX12_bestOf_183 ?_
                              refine vx_lload hC 1 rfl eX12_bestOf_185 ?_
                              refine vx_lastore hC (ot_39 hO) (by omega) (by omega) eX12_bestOf_187 ?_
                              refine vx_vl (fun v17 hv17 => ?_)
                              have hv17_38 : ag 13 (v17 38) (F) := by rw [hv17, xu_c _ _ _ _ (by decide)]; exact aF3
                              obtain ⟨f18, hf18⟩ : ∃ f, f = fu (m4 39) q b := ⟨_, rfl⟩
                              have hv17_39 : v17 39 = f18 := by rw [hv17, hf18, xu_k]
                              have frv17 : ∀ k : Nat, (¬ k = 31 ∧ ¬ k = 34 ∧ ¬ k = 35 ∧ ¬ k = 38 ∧ ¬ k = 39) → v17 k = vl k := fun k hk => by rw [hv17, xu_c _ _ _ _ (by omega)]; exact fl3 k hk
                              refine vx_iinc hC (lv1 := [(5, xa_i (q + 1)), (8, xa_i sk), (6, xa_l b), (4, xa_i tt), (3, xa_i x1), (0, xa_r 31), (1, xa_i p), (2, xa_i nn)]) 2 rfl (by decide) rfl eX12_bestOf_188 ?_
                              refine vx_goto hC (tgt := 61) (by decide) eX12_bestOf_191 ?_
                              refine vx_lv (lv1 := [(5, xa_i (q + 1)), (4, xa_i tt), (3, xa_i x1), (0, xa_r 31), (1, xa_i p), (2, xa_i nn)]) [0, 3, 4, 5, 6, 7] rfl ?_
                              exact ihC (q + 1) fs7 m5 v17 (by omega) (by rw [hv17_39, hf18]; exact ag_step aN rfl hbn) hv17_38 hf7 ef7 e1d e2d e3d fi5 frv17 (by omega)
                            · obtain ⟨cq1, rfl⟩ : ∃ cq1, cq = cq1 + 1 := ⟨cq - 1, by omega⟩
                              refine vx_aload_n hC 5 rfl eX12_bestOf_117 ?_
                              refine vx_iload_n hC 6 rfl eX12_bestOf_118 ?_
                              refine vx_iload hC 2 rfl eX12_bestOf_119 ?_
                              refine vx_iload hC 0 rfl eX12_bestOf_121 ?_
                              refine vx_callV_l hC (kX12_chanceBy G (d + 1) _ _ _ _ _ hO (s) e1d hW p (by omega) q (by omega) sk (by omega) _ aF3) ly_X12_196 (ot_31 hO) rfl rfl rfl hRm (by omega) (Nat.le_of_ble_eq_true rfl) rfl eX12_bestOf_123 (fun x19 ng20 tg20 ag20 bg20 cg20 hg20 => ?_)
                              obtain ⟨hx19, rfl, rfl, rfl, rfl, frg20⟩ := hg20
                              have hg20_32 : ag20 32 = s := (frg20 32 (by omega)).trans e1d
                              have hg20_31_16 : ag20 31 16 = fs7 := (congrFun (frg20 31 (by omega)) _).trans ef7
                              have hg20_31_3 : ag20 31 3 = vi 31 3 := (congrFun (frg20 31 (by omega)) _).trans e2d
                              have hg20_31_22 : ag20 31 22 = vi 31 22 := (congrFun (frg20 31 (by omega)) _).trans e3d
                              have frvig20 : ∀ k : Nat, (¬ k = 31 ∧ ¬ k = 34 ∧ ¬ k = 35 ∧ ¬ k = 38 ∧ ¬ k = 39) → ag20 k = vi k := fun k hk => (frg20 k (by omega)).trans (fi5 k hk)
                              have hvr := bs_v_r (od := ms_odds s p q) (f := F) (q := q) (st := sk) (ms_od_r s p _ _) hok (by omega) (by omega) (by omega)
                              rw [← hx19] at hvr
                              refine vx_lstore hC (lv1 := [(9, xa_l x19), (8, xa_i sk), (6, xa_l b), (5, xa_i q), (4, xa_i tt), (3, xa_i x1), (0, xa_r 31), (1, xa_i p), (2, xa_i nn)]) (by decide) rfl eX12_bestOf_126 ?_
                              have hrv : x19 = bs_v (ms_odds s p q) F q sk := hx19
                              refine vx_lload hC 0 rfl eX12_bestOf_128 ?_
                              refine vx_lload hC 2 rfl eX12_bestOf_130 ?_
                              refine vx_lcmp hC (by omega) eX12_bestOf_132 ?_
                              refine vx_if_le hC (tgt := 173) (by omega) (by decide) eX12_bestOf_133 (fun c21 => ?_) (fun c21 => ?_)
                              · refine vx_iinc hC (lv1 := [(8, xa_i (sk + 1)), (9, xa_l x19), (6, xa_l b), (5, xa_i q), (4, xa_i tt), (3, xa_i x1), (0, xa_r 31), (1, xa_i p), (2, xa_i nn)]) 1 rfl (by decide) rfl eX12_bestOf_173 ?_
                                refine vx_goto hC (tgt := 100) (by decide) eX12_bestOf_176 ?_
                                refine vx_lv (lv1 := [(8, xa_i (sk + 1)), (6, xa_l b), (5, xa_i q), (4, xa_i tt), (3, xa_i x1), (0, xa_r 31), (1, xa_i p), (2, xa_i nn)]) [0, 2, 3, 4, 5, 6, 7, 8] rfl ?_
                                exact ihD cq1 (sk + 1) b z fs7 ag20 (by omega) (by omega) (by rw [← hrun, bs_run, if_neg (by rw [← hrv]; omega)]) (by omega) hg20_31_16 hg20_32 hg20_31_3 hg20_31_22 frvig20 (by omega)
                              · refine vx_lload hC 0 rfl eX12_bestOf_136 ?_
                                refine vx_lstore hC (lv1 := [(6, xa_l x19), (9, xa_l x19), (8, xa_i sk), (5, xa_i q), (4, xa_i tt), (3, xa_i x1), (0, xa_r 31), (1, xa_i p), (2, xa_i nn)]) (by decide) rfl eX12_bestOf_138 ?_
                                refine vx_aload_n hC 6 rfl eX12_bestOf_140 ?_
                                refine vx_iload hC 4 rfl eX12_bestOf_141 ?_
                                refine vx_iload_n hC 8 rfl eX12_bestOf_143 ?_
                                have J170_z22 : ∀ z22 : Int, ((tt = nn ∧ q = s (22 + p) ∧ z22 = sk) ∨ (¬ (tt = nn ∧ q = s (22 + p)) ∧ z22 = fs7)) → xv G K 11 (xk_Q G K (xp_l (fun z9 n1 t1 a1 b1 c1 => (z9 = bs_f (ms_odds s p) (s (18 + p)) (ms_lim s) nn (s (22 + p))) ∧ (a1 31 16 = bs_s (ms_odds s p) (s (18 + p)) (ms_lim s) nn (s (22 + p))) ∧ (a1 31 3 = vi 31 3) ∧ (a1 31 22 = vi 31 22) ∧ xs_F (fun k => ¬ k = 31 ∧ ¬ k = 34 ∧ ¬ k = 35 ∧ ¬ k = 38 ∧ ¬ k = 39) n tau vi vl vr n1 t1 a1 b1 c1)) 0 0) 0 0 n tau ag20 m4 vr 170 [(6, xa_l x19), (9, xa_l x19), (8, xa_i sk), (5, xa_i q), (4, xa_i tt), (3, xa_i x1), (0, xa_r 31), (1, xa_i p), (2, xa_i nn)] [xa_i z22, xa_r 31] := by
                                  intro z22 hz22
                                  refine vx_pi hC 16 (ot_31 hO) lp_X12_191 rfl (Or.inl rfl) (Or.inl rfl) eX12_bestOf_170 ?_
                                  refine vx_vi (fun v23 hv23 => ?_)
                                  have hv23_32 : v23 32 = s := by rw [hv23, xu_c _ _ _ _ (by decide), hg20_32]
                                  have hv23_31_16 : v23 31 16 = z22 := by rw [hv23, xu_k, fu_s]
                                  have hv23_31_3 : v23 31 3 = vi 31 3 := by rw [hv23, xu_k, fu_n _ _ _ (by decide), hg20_31_3]
                                  have hv23_31_22 : v23 31 22 = vi 31 22 := by rw [hv23, xu_k, fu_n _ _ _ (by decide), hg20_31_22]
                                  have frv23 : ∀ k : Nat, (¬ k = 31 ∧ ¬ k = 34 ∧ ¬ k = 35 ∧ ¬ k = 38 ∧ ¬ k = 39) → v23 k = vi k := fun k hk => by rw [hv23, xu_c _ _ _ _ (by omega)]; exact frvig20 k hk
                                  refine vx_iinc hC (lv1 := [(8, xa_i (sk + 1)), (6, xa_l x19), (9, xa_l x19), (5, xa_i q), (4, xa_i tt), (3, xa_i x1), (0, xa_r 31), (1, xa_i p), (2, xa_i nn)]) 2 rfl (by decide) rfl eX12_bestOf_173 ?_
                                  refine vx_goto hC (tgt := 100) (by decide) eX12_bestOf_176 ?_
                                  refine vx_lv (lv1 := [(8, xa_i (sk + 1)), (6, xa_l x19), (5, xa_i q), (4, xa_i tt), (3, xa_i x1), (0, xa_r 31), (1, xa_i p), (2, xa_i nn)]) [0, 1, 3, 4, 5, 6, 7, 8] rfl ?_
                                  exact ihD cq1 (sk + 1) x19 sk z22 v23 (by omega) (by omega) (by rw [← hrun, bs_run, if_pos (by rw [← hrv]; omega), hrv]) (by omega) hv23_31_16 hv23_32 hv23_31_3 hv23_31_22 frv23 (by omega)
                                refine vx_icmp_ne hC (tgt := 166) (by omega) (by decide) eX12_bestOf_144 (fun c24 => ?_) (fun c24 => ?_)
                                · refine vx_aload_n hC 6 rfl eX12_bestOf_166 ?_
                                  refine vx_gi hC 16 (ot_31 hO) lf_X12_191 rfl eX12_bestOf_167 ?_
                                  refine vx_eqi hg20_31_16 ?_
                                  exact J170_z22 _ (by omega)
                                · refine vx_iload hC 3 rfl eX12_bestOf_147 ?_
                                  refine vx_aload_n hC 6 rfl eX12_bestOf_149 ?_
                                  refine vx_gr hC 1 (ot_31 hO) lf_X12_9 rfl (or_31_1 hO) eX12_bestOf_150 ?_
                                  refine vx_bipush hC (by decide) eX12_bestOf_153 ?_
                                  refine vx_iload_n hC 7 rfl eX12_bestOf_155 ?_
                                  refine vx_iadd hC eX12_bestOf_156 ?_
                                  refine vx_iaload hC (ot_32 hO) (by omega) (by omega) eX12_bestOf_157 ?_
                                  refine vx_eqi (congrFun hg20_32 _) ?_
                                  refine vx_icmp_ne hC (tgt := 166) (by omega) (by decide) eX12_bestOf_158 (fun c25 => ?_) (fun c25 => ?_)
                                  · refine vx_aload_n hC 6 rfl eX12_bestOf_166 ?_
                                    refine vx_gi hC 16 (ot_31 hO) lf_X12_191 rfl eX12_bestOf_167 ?_
                                    refine vx_eqi hg20_31_16 ?_
                                    exact J170_z22 _ (by omega)
                                  · refine vx_iload hC 2 rfl eX12_bestOf_161 ?_
                                    refine vx_goto hC (tgt := 170) (by decide) eX12_bestOf_163 ?_
                                    exact J170_z22 _ (by omega)
                      exact LP100 8 (ms_most s p q).toNat 1 z11 0 fs5 m3 (by omega) (by omega) (by rw [hb0]; rfl) (by rcases (show (tt = nn ∧ q = s (22 + p)) ∨ ¬ (tt = nn ∧ q = s (22 + p)) from Decidable.em _) with h9 | h9; exact Or.inl ⟨h9.1, h9.2, by rw [hf5, if_neg (by omega)]⟩; exact Or.inr ⟨h9, rfl⟩) ef5 e1c e2c e3c fi3 (by omega)
                    refine vx_if_eq hC (tgt := 78) (by omega) (by decide) eX12_bestOf_69 (fun c26 => ?_) (fun c26 => ?_)
                    · refine vx_ldc2 hC (10) wd_1172 eX12_bestOf_78 ?_
                      refine vx_aload_n hC 3 rfl eX12_bestOf_81 ?_
                      refine vx_gr hC 14 (ot_31 hO) lf_X12_32 rfl (or_31_14 hO) eX12_bestOf_82 ?_
                      refine vx_iload hC 0 rfl eX12_bestOf_85 ?_
                      refine vx_laload hC (ot_38 hO) (by omega) (by omega) eX12_bestOf_87 ?_
                      refine vx_eql (aF3 _ (by omega) (by omega)) ?_
                      refine vx_lmul hC eX12_bestOf_88 ?_
                      refine vx_goto hC (tgt := 95) (by decide) eX12_bestOf_89 ?_
                      exact J95_z11 _ (by omega)
                    · refine vx_iload hC 0 rfl eX12_bestOf_72 ?_
                      refine vx_iload_n hC 2 rfl eX12_bestOf_74 ?_
                      refine vx_icmp_ne hC (tgt := 92) (by omega) (by decide) eX12_bestOf_75 (fun c27 => ?_) (fun c27 => ?_)
                      · refine vx_ldc2 hC (-1) wd_1199 eX12_bestOf_92 ?_
                        exact J95_z11 _ (by omega)
                      · refine vx_ldc2 hC (10) wd_1172 eX12_bestOf_78 ?_
                        refine vx_aload_n hC 3 rfl eX12_bestOf_81 ?_
                        refine vx_gr hC 14 (ot_31 hO) lf_X12_32 rfl (or_31_14 hO) eX12_bestOf_82 ?_
                        refine vx_iload hC 0 rfl eX12_bestOf_85 ?_
                        refine vx_laload hC (ot_38 hO) (by omega) (by omega) eX12_bestOf_87 ?_
                        refine vx_eql (aF3 _ (by omega) (by omega)) ?_
                        refine vx_lmul hC eX12_bestOf_88 ?_
                        refine vx_goto hC (tgt := 95) (by decide) eX12_bestOf_89 ?_
                        exact J95_z11 _ (by omega)
              exact LP61 15 0 fs m1 m2 (by omega) (ag_0 (by omega) _ _) aF (by rw [if_neg (by omega)]; omega) ef e1 e2 e3 fi fl (by omega)
        exact LP52 17 nn.toNat 0 1 (bs_0 (s (18 + p))) 0 v3 m2 (by omega) rfl (by rw [show (13 : Int) = kk by omega]; exact ha) (by first | exact Or.inl ⟨by omega, rfl⟩ | (by_cases h9 : 1 ≤ nn; exact Or.inl ⟨h9, rfl⟩; exact Or.inr ⟨by omega, by unfold bs_s; rw [if_pos (by omega)]⟩)) hv3_31_16 hv3_32 hv3_31_3 hv3_31_22 frv3 fl (by omega)
      · refine vx_aload_n hC 2 rfl eX12_bestOf_20 ?_
        refine vx_gr hC 14 (ot_31 hO) lf_X12_32 rfl (or_31_14 hO) eX12_bestOf_21 ?_
        refine vx_iload hC 0 rfl eX12_bestOf_24 ?_
        refine vx_iload hC 0 rfl eX12_bestOf_26 ?_
        refine vx_iload_n hC 1 rfl eX12_bestOf_28 ?_
        have J37_z28 : ∀ z28 : Int, ((kk = s (18 + p) ∧ z28 = 1) ∨ (¬ kk = s (18 + p) ∧ z28 = 0)) → xv G K 11 (xk_Q G K (xp_l (fun z9 n1 t1 a1 b1 c1 => (z9 = bs_f (ms_odds s p) (s (18 + p)) (ms_lim s) nn (s (22 + p))) ∧ (a1 31 16 = bs_s (ms_odds s p) (s (18 + p)) (ms_lim s) nn (s (22 + p))) ∧ (a1 31 3 = vi 31 3) ∧ (a1 31 22 = vi 31 22) ∧ xs_F (fun k => ¬ k = 31 ∧ ¬ k = 34 ∧ ¬ k = 35 ∧ ¬ k = 38 ∧ ¬ k = 39) n tau vi vl vr n1 t1 a1 b1 c1)) 0 0) 0 0 n tau vi m2 vr 37 [(4, xa_i kk), (3, xa_i x1), (0, xa_r 31), (1, xa_i p), (2, xa_i nn)] [xa_l z28, xa_i kk, xa_r 38] := by
          intro z28 hz28
          refine vx_lastore hC (ot_38 hO) (by omega) (by omega) eX12_bestOf_37 ?_
          refine vx_vl (fun v29 hv29 => ?_)
          obtain ⟨f30, hf30⟩ : ∃ f, f = fu (m2 38) kk z28 := ⟨_, rfl⟩
          have hv29_38 : v29 38 = f30 := by rw [hv29, hf30, xu_k]
          have frv29 : ∀ k : Nat, (¬ k = 31 ∧ ¬ k = 34 ∧ ¬ k = 35 ∧ ¬ k = 38 ∧ ¬ k = 39) → v29 k = vl k := fun k hk => by rw [hv29, xu_c _ _ _ _ (by omega)]; exact fl k hk
          refine vx_iinc hC (lv1 := [(4, xa_i (kk + 1)), (3, xa_i x1), (0, xa_r 31), (1, xa_i p), (2, xa_i nn)]) 0 rfl (by decide) rfl eX12_bestOf_38 ?_
          refine vx_goto hC (tgt := 13) (by decide) eX12_bestOf_41 ?_
          exact ih (kk + 1) v29 (by omega) (by rw [hv29_38, hf30]; exact ag_step ha rfl (by unfold bs_0; split <;> omega)) frv29 (by omega)
        refine vx_icmp_ne hC (tgt := 36) (by omega) (by decide) eX12_bestOf_29 (fun c31 => ?_) (fun c31 => ?_)
        · refine vx_lconst hC 0 (by decide) eX12_bestOf_36 ?_
          exact J37_z28 _ (by omega)
        · refine vx_lconst hC 1 (by decide) eX12_bestOf_32 ?_
          refine vx_goto hC (tgt := 37) (by decide) eX12_bestOf_33 ?_
          exact J37_z28 _ (by omega)
  exact LP13 14 0 vl (by omega) (ag_0 (by omega) _ _) (fun _ _ => rfl) (by omega)
