section XV
variable {G : xg_T} {K : xk_T} {cc : ByteArray} {own : String} {nL : Nat} {Q : State → Prop} {cells slots n : Nat} {tau : Nat → Nat × Nat} {vi vl : Nat → Int → Int} {vr : Nat → Int → Option Nat} {pc pc1 : Nat} {lv : List (Nat × xa_T)} {st : List xa_T}
theorem wl_699 : Cond.methodLink RX11 255 Lib.MathLoose.max_long.x ∈ xw_tbl := xw_in 699 (by decide +kernel) (by decide +kernel)
theorem wl_700 : Cond.static Lib.MathLoose.max_long.x ∈ xw_tbl := xw_in 700 (by decide +kernel) (by decide +kernel)
theorem wl_701 : Cond.code Lib.MathLoose.max_long.x Lib.MathLoose.max_long.code 4 (some .long) ∈ xw_tbl := xw_in 701 (by decide +kernel) (by decide +kernel)
theorem vx_mmaxl (hC : xk_C G K cc RX11 nL) {x y : Int} {d1 mc1 ms1 : Nat} (hr : -9223372036854775808 ≤ x ∧ x < 9223372036854775808 ∧ -9223372036854775808 ≤ y ∧ y < 9223372036854775808) (hRm : xk_Rm K d1 mc1 ms1) (h1 : 1 ≤ d1 ∧ cells ≤ mc1 ∧ slots ≤ ms1) (hw8 : (st.map xa_c).sum ≤ 8) (hd : xd_D cc pc (.invokestatic 255) 3 pc1) (kk : xv G K nL Q cells slots n tau vi vl vr pc1 lv (xa_l (if y < x then x else y) :: st)) : xv G K nL Q cells slots n tau vi vl vr pc lv (xa_l y :: xa_l x :: st) := by
  obtain ⟨p, l, e, R, s, m, args, below, meth, c⟩ := K
  obtain ⟨hx, hb, hml, hown, hts, hE, hB, hB0⟩ := hC
  obtain ⟨hd, rfl⟩ := hd
  intro H locs ls hR hS hl
  obtain ⟨r1, r2, r3, r4⟩ := hRm
  simp only [xk_R] at r1 r2 r3 r4
  have hw9 : ((st.map (xa_tr G)).map fun v => v.category).sum ≤ 8 := by
    rw [List.map_map, show ((fun v : Value => v.category) ∘ xa_tr G) = xa_c from funext fun v => xa_tr_c G v]
    exact hw8
  refine va_mmax_long hx hb (by rw [hl.1]; exact hml) hown (hts _ wl_699) (hts _ wl_700) (hts _ wd_57) (hts _ wl_701) (by show 1 ≤ R.frames; omega) (by show _ ≤ R.locals; omega) (by show cells ≤ R.cells; omega) (by show slots ≤ R.slots; omega) hd ?_
  have lt : Int64.ofInt y < Int64.ofInt x ↔ y < x := by
    rw [Int64.lt_iff_toInt_lt, xn_tl (by omega) (by omega), xn_tl (by omega) (by omega)]
  have e : (if Int64.ofInt y < Int64.ofInt x then Int64.ofInt x else Int64.ofInt y) = Int64.ofInt (if y < x then x else y) := by
    by_cases h : y < x
    · rw [if_pos h, if_pos (lt.mpr h)]
    · rw [if_neg h, if_neg (fun q => h (lt.mp q))]
  rw [e]
  exact kk H locs ls hR hS hl
end XV
set_option maxHeartbeats 4000000 in
set_option maxRecDepth 100000 in
theorem kJ7_fill_d0a16 (G : xg_T) (d : Nat) (n : Nat) (tau : Nat → Nat × Nat) (vi vl : Nat → Int → Int) (vr : Nat → Int → Option Nat) (ck len : Nat) (ht : ck < n ∧ tau ck = (15, len)) (hln : len ≤ 200) (x : Int) : xm G yJ7_fill_d0a16 cJ7_fill_d0a16 5 none (d + 1) 0 0 [xa_r ck, xa_l x] n tau vi vl vr (xp_v (fun n1 t1 a1 b1 c1 => (ag (len : Int) (b1 ck) (fun _ => x)) ∧ xs_F (fun k => ¬ k = ck) n tau vi vl vr n1 t1 a1 b1 c1)) := by
  refine xm.of (lv := [(0, xa_r ck), (1, xa_l x)]) (by decide) (Nat.le_of_ble_eq_true rfl) rfl (fun K hC hM hRm => ?_)
  refine vx_iconst hC eJ7_fill_d0a16_0 ?_
  refine vx_istore_n hC (lv1 := [(3, xa_i 0), (0, xa_r ck), (1, xa_l x)]) (by decide) rfl eJ7_fill_d0a16_1 ?_
  refine vx_aload_n hC 1 rfl eJ7_fill_d0a16_2 ?_
  refine vx_alen hC ht (by decide) (by omega) eJ7_fill_d0a16_3 ?_
  refine vx_top (fun x1 hx1 => ?_)
  refine vx_istore hC (lv1 := [(4, xa_i x1), (3, xa_i 0), (0, xa_r ck), (1, xa_l x)]) (by decide) rfl eJ7_fill_d0a16_4 ?_
  have LP6 : ∀ (j : Nat) (kk : Int) (m2 : Nat → Int → Int) (hkk : 0 ≤ kk ∧ kk ≤ (len : Int)) (ha : ag kk (m2 ck) (fun _ => x)) (fr2 : ∀ k : Nat, (¬ k = ck) → m2 k = vl k) (hj : (len : Int) - kk < (j : Int)), xv G K 5 (xk_Q G K (xp_v (fun n1 t1 a1 b1 c1 => (ag (len : Int) (b1 ck) (fun _ => x)) ∧ xs_F (fun k => ¬ k = ck) n tau vi vl vr n1 t1 a1 b1 c1)) 0 0) 0 0 n tau vi m2 vr 6 [(3, xa_i kk), (4, xa_i x1), (0, xa_r ck), (1, xa_l x)] [] := by
    intro j
    induction j with
    | zero => intro kk m2 hkk ha fr2 hj; exfalso; omega
    | succ j ih =>
      intro kk m2 hkk ha fr2 hj
      refine vx_iload_n hC 0 rfl eJ7_fill_d0a16_6 ?_
      refine vx_iload hC 1 rfl eJ7_fill_d0a16_7 ?_
      refine vx_icmp_ge hC (tgt := 22) (by omega) (by decide) eJ7_fill_d0a16_9 (fun c2 => ?_) (fun c2 => ?_)
      · exact vx_vret hC hM eJ7_fill_d0a16_22 (⟨rfl, (by rw [show (len : Int) = kk by omega]; exact ha), rfl, rfl, rfl, fun k hk => ⟨rfl, fr2 k hk⟩⟩)
      · refine vx_aload_n hC 2 rfl eJ7_fill_d0a16_12 ?_
        refine vx_iload_n hC 0 rfl eJ7_fill_d0a16_13 ?_
        refine vx_lload_n hC 3 rfl eJ7_fill_d0a16_14 ?_
        refine vx_lastore hC ht (by omega) (by omega) eJ7_fill_d0a16_15 ?_
        refine vx_vl (fun v3 hv3 => ?_)
        obtain ⟨f4, hf4⟩ : ∃ f, f = fu (m2 ck) kk x := ⟨_, rfl⟩
        have hv3_ck : v3 ck = f4 := by rw [hv3, hf4, xu_k]
        have frv3 : ∀ k : Nat, (¬ k = ck) → v3 k = vl k := fun k hk => by rw [hv3, xu_c _ _ _ _ (by omega)]; exact fr2 k hk
        refine vx_iinc hC (lv1 := [(3, xa_i (kk + 1)), (4, xa_i x1), (0, xa_r ck), (1, xa_l x)]) 0 rfl (by decide) rfl eJ7_fill_d0a16_16 ?_
        refine vx_goto hC (tgt := 6) (by decide) eJ7_fill_d0a16_19 ?_
        exact ih (kk + 1) v3 (by omega) (by rw [hv3_ck, hf4]; exact ag_step ha rfl rfl) frv3 (by omega)
  refine vx_lv (lv1 := [(3, xa_i 0), (4, xa_i x1), (0, xa_r ck), (1, xa_l x)]) [1, 0, 2, 3] rfl ?_
  exact LP6 (len + 1) 0 vl (by omega) (ag_0 (by omega) _ _) (fun _ _ => rfl) (by omega)
set_option maxHeartbeats 4000000 in
set_option maxRecDepth 100000 in
theorem kJ7_fill_53178 (G : xg_T) (d : Nat) (n : Nat) (tau : Nat → Nat × Nat) (vi vl : Nat → Int → Int) (vr : Nat → Int → Option Nat) (ck len : Nat) (ht : ck < n ∧ tau ck = (14, len)) (hln : len ≤ 200) (x : Int) : xm G yJ7_fill_53178 cJ7_fill_53178 4 none (d + 1) 0 0 [xa_r ck, xa_i x] n tau vi vl vr (xp_v (fun n1 t1 a1 b1 c1 => (ag (len : Int) (a1 ck) (fun _ => x)) ∧ xs_I (fun k => ¬ k = ck) n tau vi vl vr n1 t1 a1 b1 c1)) := by
  refine xm.of (lv := [(0, xa_r ck), (1, xa_i x)]) (by decide) (Nat.le_of_ble_eq_true rfl) rfl (fun K hC hM hRm => ?_)
  refine vx_iconst hC eJ7_fill_53178_0 ?_
  refine vx_istore_n hC (lv1 := [(2, xa_i 0), (0, xa_r ck), (1, xa_i x)]) (by decide) rfl eJ7_fill_53178_1 ?_
  refine vx_aload_n hC 1 rfl eJ7_fill_53178_2 ?_
  refine vx_alen hC ht (by decide) (by omega) eJ7_fill_53178_3 ?_
  refine vx_top (fun x1 hx1 => ?_)
  refine vx_istore_n hC (lv1 := [(3, xa_i x1), (2, xa_i 0), (0, xa_r ck), (1, xa_i x)]) (by decide) rfl eJ7_fill_53178_4 ?_
  have LP5 : ∀ (j : Nat) (kk : Int) (m2 : Nat → Int → Int) (hkk : 0 ≤ kk ∧ kk ≤ (len : Int)) (ha : ag kk (m2 ck) (fun _ => x)) (fr2 : ∀ k : Nat, (¬ k = ck) → m2 k = vi k) (hj : (len : Int) - kk < (j : Int)), xv G K 4 (xk_Q G K (xp_v (fun n1 t1 a1 b1 c1 => (ag (len : Int) (a1 ck) (fun _ => x)) ∧ xs_I (fun k => ¬ k = ck) n tau vi vl vr n1 t1 a1 b1 c1)) 0 0) 0 0 n tau m2 vl vr 5 [(2, xa_i kk), (3, xa_i x1), (0, xa_r ck), (1, xa_i x)] [] := by
    intro j
    induction j with
    | zero => intro kk m2 hkk ha fr2 hj; exfalso; omega
    | succ j ih =>
      intro kk m2 hkk ha fr2 hj
      refine vx_iload_n hC 0 rfl eJ7_fill_53178_5 ?_
      refine vx_iload_n hC 1 rfl eJ7_fill_53178_6 ?_
      refine vx_icmp_ge hC (tgt := 20) (by omega) (by decide) eJ7_fill_53178_7 (fun c2 => ?_) (fun c2 => ?_)
      · exact vx_vret hC hM eJ7_fill_53178_20 (⟨rfl, (by rw [show (len : Int) = kk by omega]; exact ha), rfl, rfl, rfl, rfl, fun k hk => fr2 k hk⟩)
      · refine vx_aload_n hC 2 rfl eJ7_fill_53178_10 ?_
        refine vx_iload_n hC 0 rfl eJ7_fill_53178_11 ?_
        refine vx_iload_n hC 3 rfl eJ7_fill_53178_12 ?_
        refine vx_iastore hC ht (by omega) (by omega) eJ7_fill_53178_13 ?_
        refine vx_vi (fun v3 hv3 => ?_)
        obtain ⟨f4, hf4⟩ : ∃ f, f = fu (m2 ck) kk x := ⟨_, rfl⟩
        have hv3_ck : v3 ck = f4 := by rw [hv3, hf4, xu_k]
        have frv3 : ∀ k : Nat, (¬ k = ck) → v3 k = vi k := fun k hk => by rw [hv3, xu_c _ _ _ _ (by omega)]; exact fr2 k hk
        refine vx_iinc hC (lv1 := [(2, xa_i (kk + 1)), (3, xa_i x1), (0, xa_r ck), (1, xa_i x)]) 0 rfl (by decide) rfl eJ7_fill_53178_14 ?_
        refine vx_goto hC (tgt := 5) (by decide) eJ7_fill_53178_17 ?_
        exact ih (kk + 1) v3 (by omega) (by rw [hv3_ck, hf4]; exact ag_step ha rfl rfl) frv3 (by omega)
  refine vx_lv (lv1 := [(2, xa_i 0), (3, xa_i x1), (0, xa_r ck), (1, xa_i x)]) [1, 0, 2, 3] rfl ?_
  exact LP5 (len + 1) 0 vi (by omega) (ag_0 (by omega) _ _) (fun _ _ => rfl) (by omega)
/-- Euclid's rounds: within c of them y is 0 -/
def eu : Nat → Int → Int → Prop
  | 0, _, y => y = 0
  | c + 1, x, y => y = 0 ∨ eu c y (x % y)
def gi : Nat → Int → Int → Int
  | 0, a, _ => a
  | c + 1, a, b => gi c b (a + b)
theorem gi_add : ∀ (c : Nat) (a b : Int), gi (c + 2) a b = gi (c + 1) a b + gi c a b
  | 0, a, b => by simp only [gi]; omega
  | c + 1, a, b => by
    show gi (c + 2) b (a + b) = gi (c + 1) b (a + b) + gi c b (a + b)
    exact gi_add c b (a + b)
theorem eu_of : ∀ (c : Nat) (x y : Int), 0 ≤ y → y < x → (y < gi c 1 2 ∨ x < gi (c + 1) 1 2) → eu c x y
  | 0, x, y, h1, h2, h3 => by
    simp only [gi] at h3
    show y = 0
    omega
  | c + 1, x, y, h1, h2, h3 => by
    by_cases e : y = 0
    · exact Or.inl e
    · right
      have m1 : 0 ≤ x % y := Int.emod_nonneg _ e
      have m2 : x % y < y := Int.emod_lt_of_pos _ (by omega)
      refine eu_of c y (x % y) m1 m2 ?_
      by_cases h4 : y < gi (c + 1) 1 2
      · exact Or.inr h4
      · left
        have h5 : x < gi (c + 2) 1 2 := by rcases h3 with h | h; exact absurd h h4; exact h
        rw [gi_add] at h5
        have h6 : x % y ≤ x - y := by
          have := Int.emod_add_mul_ediv x y
          have h7 : 1 ≤ x / y := (Int.le_ediv_iff_mul_le (by omega)).mpr (by omega)
          have h8 : y * 1 ≤ y * (x / y) := Int.mul_le_mul_of_nonneg_left h7 (by omega)
          omega
        omega
theorem gi_92 : (9223372036854775808 : Int) ≤ gi 91 1 2 := by simp [gi]
theorem eu_start {x y : Int} (hx : 0 ≤ x ∧ x < 9223372036854775808) (hy : 0 ≤ y ∧ y < 9223372036854775808) : eu 92 x y := by
  by_cases e : y = 0
  · exact Or.inl e
  · right
    exact eu_of 91 y (x % y) (Int.emod_nonneg _ e) (Int.emod_lt_of_pos _ (by omega)) (Or.inl (by have := Int.emod_lt_of_pos x (show 0 < y by omega); have := gi_92; omega))
set_option maxHeartbeats 4000000 in
set_option maxRecDepth 100000 in
theorem kX11_lowest (G : xg_T) (d : Nat) (n : Nat) (tau : Nat → Nat × Nat) (vi vl : Nat → Int → Int) (vr : Nat → Int → Option Nat) (up low part : Int) (h1 : 0 ≤ up ∧ up < 9223372036854775808) (h2 : 0 < low ∧ low < 9223372036854775808) (h3 : part = 0 ∨ part = 1) : xm G yX11_lowest cX11_lowest 12 (some .long) (d + 2) 0 0 [xa_l up, xa_l low, xa_i part] n tau vi vl vr (xp_l (fun z9 n1 t1 a1 b1 c1 => z9 = mz_low up low part ∧ xs_0 n tau vi vl vr n1 t1 a1 b1 c1)) := by
  refine xm.of (lv := [(0, xa_l up), (2, xa_l low), (4, xa_i part)]) (by decide) (Nat.le_of_ble_eq_true rfl) rfl (fun K hC hM hRm => ?_)
  refine vx_lload_n hC 1 rfl eX11_lowest_0 ?_
  refine vx_lstore hC (lv1 := [(5, xa_l low), (0, xa_l up), (2, xa_l low), (4, xa_i part)]) (by decide) rfl eX11_lowest_1 ?_
  refine vx_lload_n hC 1 rfl eX11_lowest_3 ?_
  refine vx_lstore hC (lv1 := [(7, xa_l up), (5, xa_l low), (0, xa_l up), (2, xa_l low), (4, xa_i part)]) (by decide) rfl eX11_lowest_4 ?_
  refine vx_iconst hC eX11_lowest_6 ?_
  refine vx_istore hC (lv1 := [(9, xa_i 0), (7, xa_l up), (5, xa_l low), (0, xa_l up), (2, xa_l low), (4, xa_i part)]) (by decide) rfl eX11_lowest_7 ?_
  have LP9 : ∀ (j : Nat) (c : Nat) (ii : Int) (x : Int) (y : Int) (hc : ii + (c : Int) ≤ 92 ∧ 0 ≤ ii) (hx : 0 ≤ x ∧ x < 9223372036854775808) (hy : 0 ≤ y ∧ y < 9223372036854775808) (he : eu c x y) (hg : Nat.gcd x.toNat y.toNat = Nat.gcd up.toNat low.toNat) (hj : (c : Int) < (j : Int)), xv G K 12 (xk_Q G K (xp_l (fun z9 n1 t1 a1 b1 c1 => z9 = mz_low up low part ∧ xs_0 n tau vi vl vr n1 t1 a1 b1 c1)) 0 0) 0 0 n tau vi vl vr 9 [(9, xa_i ii), (7, xa_l y), (5, xa_l x), (0, xa_l up), (2, xa_l low), (4, xa_i part)] [] := by
    intro j
    induction j with
    | zero => intro c ii x y hc hx hy he hg hj; exfalso; omega
    | succ j ih =>
      intro c ii x y hc hx hy he hg hj
      refine vx_iload hC 0 rfl eX11_lowest_9 ?_
      refine vx_bipush hC (by decide) eX11_lowest_11 ?_
      refine vx_icmp_ge hC (tgt := 44) (by omega) (by decide) eX11_lowest_13 (fun c1 => absurd c1 (by omega)) (fun c1 => ?_)
      refine vx_lload hC 1 rfl eX11_lowest_16 ?_
      refine vx_lconst hC 0 (by decide) eX11_lowest_18 ?_
      refine vx_lcmp hC (by omega) eX11_lowest_19 ?_
      refine vx_if_eq hC (tgt := 44) (by omega) (by decide) eX11_lowest_20 (fun c2 => ?_) (fun c2 => ?_)
      · have hy0 : y = 0 := by omega
        have hgx : (x : Int) = (Nat.gcd up.toNat low.toNat : Int) := by rw [← hg, hy0]; show x = (Nat.gcd x.toNat 0 : Int); rw [Nat.gcd_zero_right]; omega
        have hgp : 0 < Nat.gcd up.toNat low.toNat := Nat.gcd_pos_of_pos_right _ (by omega)
        refine vx_lconst hC 1 (by decide) eX11_lowest_44 ?_
        refine vx_lload hC 2 rfl eX11_lowest_45 ?_
        refine vx_mmaxl hC (by omega) hRm (by omega) (Nat.le_of_ble_eq_true rfl) eX11_lowest_47 ?_
        refine vx_topl (fun x3 hx3 => ?_)
        refine vx_lstore hC (lv1 := [(9, xa_l x3), (7, xa_l y), (5, xa_l x), (0, xa_l up), (2, xa_l low), (4, xa_i part)]) (by decide) rfl eX11_lowest_50 ?_
        have hsh : x3 = (Nat.gcd up.toNat low.toNat : Int) := by omega
        refine vx_iload hC 5 rfl eX11_lowest_52 ?_
        refine vx_if_ne hC (tgt := 64) (by omega) (by decide) eX11_lowest_54 (fun c4 => ?_) (fun c4 => ?_)
        · refine vx_lload_n hC 4 rfl eX11_lowest_64 ?_
          refine vx_lload hC 0 rfl eX11_lowest_65 ?_
          refine vx_ldiv hC (by omega) eX11_lowest_67 ?_
          exact vx_lret hC hM eX11_lowest_68 (⟨_, rfl, by unfold mz_low; rw [hsh]; (first | rw [if_pos (by omega)] | rw [if_neg (by omega)]), xs_0.rf _ _ _ _ _⟩)
        · refine vx_lload_n hC 3 rfl eX11_lowest_57 ?_
          refine vx_lload hC 0 rfl eX11_lowest_58 ?_
          refine vx_ldiv hC (by omega) eX11_lowest_60 ?_
          refine vx_goto hC (tgt := 68) (by decide) eX11_lowest_61 ?_
          exact vx_lret hC hM eX11_lowest_68 (⟨_, rfl, by unfold mz_low; rw [hsh]; (first | rw [if_pos (by omega)] | rw [if_neg (by omega)]), xs_0.rf _ _ _ _ _⟩)
      · have hy0 : 0 < y := by omega
        have hm1 : 0 ≤ x % y := Int.emod_nonneg _ (by omega)
        have hm2 : x % y < y := Int.emod_lt_of_pos _ (by omega)
        obtain ⟨c1, rfl⟩ : ∃ c1, c = c1 + 1 := by cases c with | zero => (exfalso; have h9 : y = 0 := he; omega) | succ c1 => exact ⟨c1, rfl⟩
        have he1 : eu c1 y (x % y) := by rcases he with h9 | h9; omega; exact h9
        refine vx_lload hC 2 rfl eX11_lowest_23 ?_
        refine vx_lload hC 1 rfl eX11_lowest_25 ?_
        refine vx_lrem hC (by omega) eX11_lowest_27 ?_
        refine vx_topl (fun x5 hx5 => ?_)
        refine vx_lstore hC (lv1 := [(10, xa_l x5), (9, xa_i ii), (7, xa_l y), (5, xa_l x), (0, xa_l up), (2, xa_l low), (4, xa_i part)]) (by decide) rfl eX11_lowest_28 ?_
        refine vx_lload hC 2 rfl eX11_lowest_30 ?_
        refine vx_lstore hC (lv1 := [(5, xa_l y), (10, xa_l x5), (9, xa_i ii), (7, xa_l y), (0, xa_l up), (2, xa_l low), (4, xa_i part)]) (by decide) rfl eX11_lowest_32 ?_
        refine vx_lload hC 1 rfl eX11_lowest_34 ?_
        refine vx_lstore hC (lv1 := [(7, xa_l x5), (5, xa_l y), (10, xa_l x5), (9, xa_i ii), (0, xa_l up), (2, xa_l low), (4, xa_i part)]) (by decide) rfl eX11_lowest_36 ?_
        refine vx_iinc hC (lv1 := [(9, xa_i (ii + 1)), (7, xa_l x5), (5, xa_l y), (10, xa_l x5), (0, xa_l up), (2, xa_l low), (4, xa_i part)]) 3 rfl (by decide) rfl eX11_lowest_38 ?_
        refine vx_goto hC (tgt := 9) (by decide) eX11_lowest_41 ?_
        refine vx_lv (lv1 := [(9, xa_i (ii + 1)), (7, xa_l x5), (5, xa_l y), (0, xa_l up), (2, xa_l low), (4, xa_i part)]) [0, 1, 2, 4, 5, 6] rfl ?_
        exact ih c1 (ii + 1) y x5 (by omega) (by omega) (by omega) (by rw [hx5]; exact he1) (by rw [hx5, gcd_step hx.1 (by omega)]; exact hg) (by omega)
  exact LP9 93 92 0 low up (by omega) (by omega) (by omega) (eu_start (by omega) (by omega)) (Nat.gcd_comm _ _) (by omega)
