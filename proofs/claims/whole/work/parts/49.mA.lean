theorem sq_last {f : Int → Int} : ∀ (c : Nat) (q : Int), sq f q (c + 1) = sq f q c + f (q + (c : Int))
  | 0, q => by rw [sq, sq, sq]; simp
  | c + 1, q => by rw [sq, sq_last c (q + 1), show sq f q (c + 1) = f q + sq f (q + 1) c from rfl, show q + 1 + (c : Int) = q + ((c + 1 : Nat) : Int) by omega]; omega
/-- penny by penny: the shares -/
def ev_w (od : Int → Int) (j : Int) : Nat → Int → Int → Int
  | 0, _, w => w
  | c + 1, q, w => ev_w od j c (q + 1) (w * (if q ≤ j then 10 - od q else od q))
def ev_W (od : Int → Int) (g j : Int) : Int := ev_w od j (g - 1).toNat 1 1
theorem ev_w_r {od : Int → Int} (h : ∀ q, 1 ≤ od q ∧ od q ≤ 9) (j : Int) : ∀ (c : Nat) (q w b : Int), 0 < w → w ≤ b → 0 < ev_w od j c q w ∧ ev_w od j c q w ≤ b * (9 : Int) ^ c
  | 0, _, w, b, h1, h2 => by rw [ev_w]; exact ⟨h1, by simpa using h2⟩
  | c + 1, q, w, b, h1, h2 => by
    have hq := h q
    have hf : 1 ≤ (if q ≤ j then 10 - od q else od q) ∧ (if q ≤ j then 10 - od q else od q) ≤ 9 := by split <;> omega
    rw [ev_w]
    generalize (if q ≤ j then 10 - od q else od q) = y at hf
    have e1 : 0 < w * y := Int.mul_pos h1 (by omega)
    have e2 : w * y ≤ b * 9 := Int.mul_le_mul h2 hf.2 (by omega) (by omega)
    have := ev_w_r h j c (q + 1) (w * y) (b * 9) e1 e2
    rw [Int.pow_succ, Int.mul_comm ((9 : Int) ^ c) 9, ← Int.mul_assoc]
    exact this
theorem nine_le : ∀ {t : Nat}, t ≤ 11 → (9 : Int) ^ t ≤ 31381059609 := by decide
theorem ev_W_r {od : Int → Int} (h : ∀ q, 1 ≤ od q ∧ od q ≤ 9) {g : Int} (hg : g ≤ 12) (j : Int) : 0 < ev_W od g j ∧ ev_W od g j ≤ 31381059609 := by
  have := ev_w_r h j (g - 1).toNat 1 1 1 (by omega) (by omega)
  have h2 := nine_le (t := (g - 1).toNat) (by omega)
  unfold ev_W
  omega
theorem sq_b {f : Int → Int} {b : Int} (h : ∀ z, 0 < f z ∧ f z ≤ b) : ∀ (c : Nat) (q : Int), (c : Int) ≤ sq f q c ∧ sq f q c ≤ (c : Int) * b
  | 0, _ => by simp [sq]
  | c + 1, q => by
    have h1 := sq_b h c (q + 1)
    have h2 := h q
    have e : ((c + 1 : Nat) : Int) * b = (c : Int) * b + b := by rw [Int.natCast_add, Int.add_mul]; simp
    rw [sq, e]
    omega
theorem ev_S_r {od : Int → Int} (h : ∀ q, 1 ≤ od q ∧ od q ≤ 9) {g : Int} (hg : g ≤ 12) {c : Nat} (hc : c ≤ 12) : (c : Int) ≤ sq (ev_W od g) 0 c ∧ sq (ev_W od g) 0 c ≤ 376572715308 := by
  have h1 := sq_b (f := ev_W od g) (b := 31381059609) (fun z => ev_W_r h hg z) c 0
  omega
def ev_od (s : Int → Int) (p : Int) : Int → Int := fun q => ms_odds s p q 1
theorem ev_od_r (s : Int → Int) (p q : Int) : 1 ≤ ev_od s p q ∧ ev_od s p q ≤ 9 := mclamp_r _
def sp_ever (s : Int → Int) (q pt : Int) : Int := if 0 ≤ q ∧ q < s 0 ∧ 0 ≤ pt ∧ pt ≤ 1 then mz_low (sq (ev_W (ev_od s q) (s (18 + q))) 0 (s (22 + q)).toNat) (sq (ev_W (ev_od s q) (s (18 + q))) 0 (s (18 + q)).toNat) pt else mNO
set_option maxHeartbeats 4000000 in
set_option maxRecDepth 100000 in
theorem kX12_ever (G : xg_T) (d : Nat) (n : Nat) (tau : Nat → Nat × Nat) (vi vl : Nat → Int → Int) (vr : Nat → Int → Option Nat) (hI : MI n tau vi vr) (q pt : Int) (hq : -2147483648 ≤ q ∧ q < 2147483648) (hpt : -2147483648 ≤ pt ∧ pt < 2147483648) : xm G yX12_ever cX12_ever 13 (some .long) (d + 3) 0 0 [xa_r 31, xa_i q, xa_i pt] n tau vi vl vr (xp_l (fun z9 n1 t1 a1 b1 c1 => z9 = sp_ever (vi 32) q pt ∧ mq (vi 32) (vi 33) (vi 31 3) (vi 31 22) (vi 44) n tau vi vl vr n1 t1 a1 b1 c1)) := by
  refine xm.of (lv := [(0, xa_r 31), (1, xa_i q), (2, xa_i pt)]) (by decide) (Nat.le_of_ble_eq_true rfl) rfl (fun K hC hM hRm => ?_)
  obtain ⟨hO, ⟨⟨hr, h0, h1, h2, h3, h4, h5, h6, hp0, hrow, hwon, htape, htab⟩, h60⟩, him, hran, hz1, hz2⟩ := hI
  have hW : ms_W (vi 32) := ⟨hr, h0, h1, h2, h3, h4, h5, h6, hp0, hrow, hwon, htape, htab⟩
  refine vx_aload_n hC 0 rfl eX12_ever_0 ?_
  refine vx_iload_n hC 1 rfl eX12_ever_1 ?_
  refine vx_callV_i hC (kX12_isPlayer G d _ _ _ _ _ hO (vi 32) rfl _ (by omega) (by omega)) ly_X12_140 (ot_31 hO) rfl rfl rfl hRm (by omega) (Nat.le_of_ble_eq_true rfl) rfl eX12_ever_2 (fun x1 n9 t9 a9 b9 c9 hx1 => ?_)
  obtain ⟨hx1, rfl, rfl, rfl, rfl, rfl⟩ := hx1
  refine vx_if_eq hC (tgt := 17) (by omega) (by decide) eX12_ever_5 (fun c2 => ?_) (fun c2 => ?_)
  · refine vx_ldc2 hC (-9223372036854775808) wd_1167 eX12_ever_17 ?_
    exact vx_lret hC hM eX12_ever_20 (⟨_, rfl, by unfold sp_ever; first | (rw [if_pos (by omega)]; simp only []; rw [hup, hlow, hjg, show (if vi 32 (18 + q) < vi 32 (22 + q) then vi 32 (18 + q) else vi 32 (22 + q)) = vi 32 (22 + q) by split <;> omega]; done) | (rw [if_neg (by omega)]; rfl), rfl, rfl, rfl, rfl, rfl, rfl, rfl, rfl, fun k hk => ⟨rfl, rfl⟩⟩)
  · refine vx_iload_n hC 2 rfl eX12_ever_8 ?_
    refine vx_iconst hC eX12_ever_9 ?_
    refine vx_iconst hC eX12_ever_10 ?_
    refine vx_callS_i hC (kX12_in G (d + 1) _ _ _ _ _ _ _ _ (by omega) (by omega) (by omega)) ly_X12_57 rfl hRm (by omega) (Nat.le_of_ble_eq_true rfl) rfl eX12_ever_11 (fun x3 n9 t9 a9 b9 c9 hx3 => ?_)
    obtain ⟨hx3, rfl, rfl, rfl, rfl, rfl⟩ := hx3
    refine vx_if_ne hC (tgt := 21) (by omega) (by decide) eX12_ever_14 (fun c4 => ?_) (fun c4 => ?_)
    · obtain ⟨g1, g2, g3, g4⟩ := hp0 q (by omega) (by omega)
      refine vx_aload_n hC 0 rfl eX12_ever_21 ?_
      refine vx_gr hC 1 (ot_31 hO) lf_X12_9 rfl (or_31_1 hO) eX12_ever_22 ?_
      refine vx_bipush hC (by decide) eX12_ever_25 ?_
      refine vx_iload_n hC 1 rfl eX12_ever_27 ?_
      refine vx_iadd hC eX12_ever_28 ?_
      refine vx_iaload hC (ot_32 hO) (by omega) (by omega) eX12_ever_29 ?_
      refine vx_top (fun x5 hx5 => ?_)
      refine vx_istore_n hC (lv1 := [(3, xa_i x5), (0, xa_r 31), (1, xa_i q), (2, xa_i pt)]) (by decide) rfl eX12_ever_30 ?_
      refine vx_lconst hC 0 (by decide) eX12_ever_31 ?_
      refine vx_lstore hC (lv1 := [(4, xa_l 0), (3, xa_i x5), (0, xa_r 31), (1, xa_i q), (2, xa_i pt)]) (by decide) rfl eX12_ever_32 ?_
      refine vx_lconst hC 0 (by decide) eX12_ever_34 ?_
      refine vx_lstore hC (lv1 := [(6, xa_l 0), (4, xa_l 0), (3, xa_i x5), (0, xa_r 31), (1, xa_i q), (2, xa_i pt)]) (by decide) rfl eX12_ever_35 ?_
      refine vx_iconst hC eX12_ever_37 ?_
      refine vx_istore hC (lv1 := [(8, xa_i 0), (6, xa_l 0), (4, xa_l 0), (3, xa_i x5), (0, xa_r 31), (1, xa_i q), (2, xa_i pt)]) (by decide) rfl eX12_ever_38 ?_
      have LP40 : ∀ (j : Nat) (jj : Int) (up : Int) (low : Int) (m1 : Nat → Int → Int) (hjj : 0 ≤ jj ∧ jj ≤ x5) (hup : up = sq (ev_W (ev_od (vi 32) q) (vi 32 (18 + q))) 0 (if jj < vi 32 (22 + q) then jj else vi 32 (22 + q)).toNat) (hlow : low = sq (ev_W (ev_od (vi 32) q) (vi 32 (18 + q))) 0 jj.toNat) (eoa0 : m1 32 = vi 32) (eoa1 : m1 33 = vi 33) (eoa2 : m1 31 3 = vi 31 3) (eoa3 : m1 31 22 = vi 31 22) (eoa4 : m1 44 = vi 44) (foa : ∀ k : Nat, (k < 31 ∨ 44 < k) → m1 k = vi k) (hj : x5 - jj < (j : Int)), xv G K 13 (xk_Q G K (xp_l (fun z9 n1 t1 a1 b1 c1 => z9 = sp_ever (vi 32) q pt ∧ mq (vi 32) (vi 33) (vi 31 3) (vi 31 22) (vi 44) n tau vi vl vr n1 t1 a1 b1 c1)) 0 0) 0 0 n tau m1 vl vr 40 [(8, xa_i jj), (6, xa_l low), (4, xa_l up), (3, xa_i x5), (0, xa_r 31), (1, xa_i q), (2, xa_i pt)] [] := by
        intro j
        induction j with
        | zero => intro jj up low m1 hjj hup hlow eoa0 eoa1 eoa2 eoa3 eoa4 foa hj; exfalso; omega
        | succ j ihA =>
          intro jj up low m1 hjj hup hlow eoa0 eoa1 eoa2 eoa3 eoa4 foa hj
          refine vx_iload hC 0 rfl eX12_ever_40 ?_
          refine vx_iload_n hC 3 rfl eX12_ever_42 ?_
          refine vx_icmp_ge hC (tgt := 136) (by omega) (by decide) eX12_ever_43 (fun c6 => ?_) (fun c6 => ?_)
          · have hjg : jj = vi 32 (18 + q) := by omega
            have hr1 := ev_S_r (od := ev_od (vi 32) q) (ev_od_r (vi 32) q) (g := vi 32 (18 + q)) (by omega) (c := jj.toNat) (by omega)
            have hr2 := ev_S_r (od := ev_od (vi 32) q) (ev_od_r (vi 32) q) (g := vi 32 (18 + q)) (by omega) (c := (if jj < vi 32 (22 + q) then jj else vi 32 (22 + q)).toNat) (by split <;> omega)
            rw [← hlow] at hr1
            rw [← hup] at hr2
            refine vx_lload hC 2 rfl eX12_ever_136 ?_
            refine vx_lload hC 1 rfl eX12_ever_138 ?_
            refine vx_iload_n hC 6 rfl eX12_ever_140 ?_
            refine vx_callS_l hC (kX12_lowest G (d + 1) _ _ _ _ _ _ _ _ (by omega) (by omega) (by omega)) ly_X12_187 rfl hRm (by omega) (Nat.le_of_ble_eq_true rfl) rfl eX12_ever_141 (fun x7 n9 t9 a9 b9 c9 hx7 => ?_)
            obtain ⟨hx7, rfl, rfl, rfl, rfl, rfl⟩ := hx7
            exact vx_lret hC hM eX12_ever_144 (⟨_, rfl, by unfold sp_ever; first | (rw [if_pos (by omega)]; simp only [hx5, hx7]; rw [hup, hlow, hjg, show (if vi 32 (18 + q) < vi 32 (22 + q) then vi 32 (18 + q) else vi 32 (22 + q)) = vi 32 (22 + q) by split <;> omega]; done) | (rw [if_neg (by omega)]; rfl), rfl, rfl, rfl, eoa0, eoa1, eoa2, eoa3, eoa4, fun k hk => ⟨foa k hk, rfl⟩⟩)
          · refine vx_lconst hC 1 (by decide) eX12_ever_46 ?_
            refine vx_lstore hC (lv1 := [(9, xa_l 1), (8, xa_i jj), (6, xa_l low), (4, xa_l up), (3, xa_i x5), (0, xa_r 31), (1, xa_i q), (2, xa_i pt)]) (by decide) rfl eX12_ever_47 ?_
            refine vx_iconst hC eX12_ever_49 ?_
            refine vx_istore hC (lv1 := [(11, xa_i 1), (9, xa_l 1), (8, xa_i jj), (6, xa_l low), (4, xa_l up), (3, xa_i x5), (0, xa_r 31), (1, xa_i q), (2, xa_i pt)]) (by decide) rfl eX12_ever_50 ?_
            have LP52 : ∀ (j : Nat) (cq : Nat) (qq : Int) (ww : Int) (m2 : Nat → Int → Int) (hcq : qq + (cq : Int) = x5 ∧ 1 ≤ qq) (hev : ev_w (ev_od (vi 32) q) jj cq qq ww = ev_W (ev_od (vi 32) q) (vi 32 (18 + q)) jj) (eob0 : m2 32 = vi 32) (eob1 : m2 33 = vi 33) (eob2 : m2 31 3 = vi 31 3) (eob3 : m2 31 22 = vi 31 22) (eob4 : m2 44 = vi 44) (fob : ∀ k : Nat, (k < 31 ∨ 44 < k) → m2 k = vi k) (hj : (cq : Int) < (j : Int)), xv G K 13 (xk_Q G K (xp_l (fun z9 n1 t1 a1 b1 c1 => z9 = sp_ever (vi 32) q pt ∧ mq (vi 32) (vi 33) (vi 31 3) (vi 31 22) (vi 44) n tau vi vl vr n1 t1 a1 b1 c1)) 0 0) 0 0 n tau m2 vl vr 52 [(11, xa_i qq), (9, xa_l ww), (8, xa_i jj), (6, xa_l low), (4, xa_l up), (3, xa_i x5), (0, xa_r 31), (1, xa_i q), (2, xa_i pt)] [] := by
              intro j
              induction j with
              | zero => intro cq qq ww m2 hcq hev eob0 eob1 eob2 eob3 eob4 fob hj; exfalso; omega
              | succ j ihB =>
                intro cq qq ww m2 hcq hev eob0 eob1 eob2 eob3 eob4 fob hj
                refine vx_iload hC 0 rfl eX12_ever_52 ?_
                refine vx_iload_n hC 5 rfl eX12_ever_54 ?_
                refine vx_icmp_ge hC (tgt := 98) (by omega) (by decide) eX12_ever_55 (fun c8 => ?_) (fun c8 => ?_)
                · have hww : ww = ev_W (ev_od (vi 32) q) (vi 32 (18 + q)) jj := by rw [← hev, show cq = 0 by omega, ev_w]
                  refine vx_lload hC 4 rfl eX12_ever_98 ?_
                  refine vx_iload hC 2 rfl eX12_ever_100 ?_
                  refine vx_aload_n hC 6 rfl eX12_ever_102 ?_
                  refine vx_gr hC 1 (ot_31 hO) lf_X12_9 rfl (or_31_1 hO) eX12_ever_103 ?_
                  refine vx_bipush hC (by decide) eX12_ever_106 ?_
                  refine vx_iload_n hC 7 rfl eX12_ever_108 ?_
                  refine vx_iadd hC eX12_ever_109 ?_
                  refine vx_iaload hC (ot_32 hO) (by omega) (by omega) eX12_ever_110 ?_
                  refine vx_eqi (congrFun eob0 _) ?_
                  have J120_z9 : ∀ z9 : Int, ((jj < vi 32 (22 + q) ∧ z9 = ww) ∨ (vi 32 (22 + q) ≤ jj ∧ z9 = 0)) → xv G K 13 (xk_Q G K (xp_l (fun z9 n1 t1 a1 b1 c1 => z9 = sp_ever (vi 32) q pt ∧ mq (vi 32) (vi 33) (vi 31 3) (vi 31 22) (vi 44) n tau vi vl vr n1 t1 a1 b1 c1)) 0 0) 0 0 n tau m2 vl vr 120 [(11, xa_i qq), (9, xa_l ww), (8, xa_i jj), (6, xa_l low), (4, xa_l up), (3, xa_i x5), (0, xa_r 31), (1, xa_i q), (2, xa_i pt)] [xa_l z9, xa_l up] := by
                    intro z9 hz9
                    have hupn : sq (ev_W (ev_od (vi 32) q) (vi 32 (18 + q))) 0 (if jj < vi 32 (22 + q) then jj else vi 32 (22 + q)).toNat + z9 = sq (ev_W (ev_od (vi 32) q) (vi 32 (18 + q))) 0 (if jj + 1 < vi 32 (22 + q) then jj + 1 else vi 32 (22 + q)).toNat := by
                      by_cases h9 : jj < vi 32 (22 + q)
                      · rw [if_pos h9, show (if jj + 1 < vi 32 (22 + q) then jj + 1 else vi 32 (22 + q)).toNat = jj.toNat + 1 by split <;> omega, sq_last, show (0 : Int) + (jj.toNat : Int) = jj by omega, ← hww]; omega
                      · rw [if_neg h9, if_neg (by omega)]; omega
                    refine vx_ladd hC eX12_ever_120 ?_
                    refine vx_topl (fun x10 hx10 => ?_)
                    refine vx_lstore hC (lv1 := [(4, xa_l x10), (11, xa_i qq), (9, xa_l ww), (8, xa_i jj), (6, xa_l low), (3, xa_i x5), (0, xa_r 31), (1, xa_i q), (2, xa_i pt)]) (by decide) rfl eX12_ever_121 ?_
                    refine vx_lload hC 4 rfl eX12_ever_123 ?_
                    refine vx_lload hC 2 rfl eX12_ever_125 ?_
                    refine vx_ladd hC eX12_ever_127 ?_
                    refine vx_topl (fun x11 hx11 => ?_)
                    refine vx_lstore hC (lv1 := [(6, xa_l x11), (4, xa_l x10), (11, xa_i qq), (9, xa_l ww), (8, xa_i jj), (3, xa_i x5), (0, xa_r 31), (1, xa_i q), (2, xa_i pt)]) (by decide) rfl eX12_ever_128 ?_
                    refine vx_iinc hC (lv1 := [(8, xa_i (jj + 1)), (6, xa_l x11), (4, xa_l x10), (11, xa_i qq), (9, xa_l ww), (3, xa_i x5), (0, xa_r 31), (1, xa_i q), (2, xa_i pt)]) 4 rfl (by decide) rfl eX12_ever_130 ?_
                    refine vx_goto hC (tgt := 40) (by decide) eX12_ever_133 ?_
                    refine vx_lv (lv1 := [(8, xa_i (jj + 1)), (6, xa_l x11), (4, xa_l x10), (3, xa_i x5), (0, xa_r 31), (1, xa_i q), (2, xa_i pt)]) [0, 1, 2, 5, 6, 7, 8] rfl ?_
                    exact ihA (jj + 1) x10 x11 m2 (by omega) (by rw [hx10, hup]; exact hupn) (by rw [hx11, hlow, hww, show (jj + 1).toNat = jj.toNat + 1 by omega, sq_last, show (0 : Int) + (jj.toNat : Int) = jj by omega]) eob0 eob1 eob2 eob3 eob4 fob (by omega)
                  refine vx_icmp_ge hC (tgt := 119) (by omega) (by decide) eX12_ever_111 (fun c12 => ?_) (fun c12 => ?_)
                  · refine vx_lconst hC 0 (by decide) eX12_ever_119 ?_
                    exact J120_z9 _ (by omega)
                  · refine vx_lload hC 1 rfl eX12_ever_114 ?_
                    refine vx_goto hC (tgt := 120) (by decide) eX12_ever_116 ?_
                    exact J120_z9 _ (by omega)
                · obtain ⟨cq1, rfl⟩ : ∃ cq1, cq = cq1 + 1 := ⟨cq - 1, by omega⟩
                  refine vx_aload_n hC 6 rfl eX12_ever_58 ?_
                  refine vx_iload_n hC 7 rfl eX12_ever_59 ?_
                  refine vx_iload hC 0 rfl eX12_ever_60 ?_
                  refine vx_iconst hC eX12_ever_62 ?_
                  refine vx_callV_i hC (kX12_oddsOf G (d + 1) _ _ _ _ _ hO (vi 32) eob0 hW q (by omega) qq (by omega) 1 (by omega)) ly_X12_160 (ot_31 hO) rfl rfl rfl hRm (by omega) (Nat.le_of_ble_eq_true rfl) rfl eX12_ever_63 (fun x13 ng14 tg14 ag14 bg14 cg14 hg14 => ?_)
                  obtain ⟨hx13, rfl, rfl, rfl, rfl, frg14⟩ := hg14
                  have hg14_32 : ag14 32 = vi 32 := (frg14 32 (by omega)).trans eob0
                  have hg14_33 : ag14 33 = vi 33 := (frg14 33 (by omega)).trans eob1
                  have hg14_31_3 : ag14 31 3 = vi 31 3 := (congrFun (frg14 31 (by omega)) _).trans eob2
                  have hg14_31_22 : ag14 31 22 = vi 31 22 := (congrFun (frg14 31 (by omega)) _).trans eob3
                  have hg14_44 : ag14 44 = vi 44 := (frg14 44 (by omega)).trans eob4
                  have frvig14 : ∀ k : Nat, (k < 31 ∨ 44 < k) → ag14 k = vi k := fun k hk => (frg14 k (by omega)).trans (fob k hk)
                  have hob : 1 ≤ x13 ∧ x13 ≤ 9 := by rw [hx13]; exact mclamp_r _
                  refine vx_istore hC (lv1 := [(12, xa_i x13), (11, xa_i qq), (9, xa_l ww), (8, xa_i jj), (6, xa_l low), (4, xa_l up), (3, xa_i x5), (0, xa_r 31), (1, xa_i q), (2, xa_i pt)]) (by decide) rfl eX12_ever_66 ?_
                  refine vx_lload hC 2 rfl eX12_ever_68 ?_
                  refine vx_iload hC 1 rfl eX12_ever_70 ?_
                  refine vx_iload hC 3 rfl eX12_ever_72 ?_
                  have J89_z15 : ∀ z15 : Int, ((qq ≤ jj ∧ z15 = 10 - ms_odds (vi 32) q qq 1) ∨ (jj < qq ∧ z15 = ms_odds (vi 32) q qq 1)) → xv G K 13 (xk_Q G K (xp_l (fun z9 n1 t1 a1 b1 c1 => z9 = sp_ever (vi 32) q pt ∧ mq (vi 32) (vi 33) (vi 31 3) (vi 31 22) (vi 44) n tau vi vl vr n1 t1 a1 b1 c1)) 0 0) 0 0 n tau ag14 vl vr 89 [(12, xa_i x13), (11, xa_i qq), (9, xa_l ww), (8, xa_i jj), (6, xa_l low), (4, xa_l up), (3, xa_i x5), (0, xa_r 31), (1, xa_i q), (2, xa_i pt)] [xa_l z15, xa_l ww] := by
                    intro z15 hz15
                    have hfac : (if qq ≤ jj then 10 - ev_od (vi 32) q qq else ev_od (vi 32) q qq) = z15 := by unfold ev_od; split <;> omega
                    refine vx_lmul hC eX12_ever_89 ?_
                    refine vx_topl (fun x16 hx16 => ?_)
                    refine vx_lstore hC (lv1 := [(9, xa_l x16), (12, xa_i x13), (11, xa_i qq), (8, xa_i jj), (6, xa_l low), (4, xa_l up), (3, xa_i x5), (0, xa_r 31), (1, xa_i q), (2, xa_i pt)]) (by decide) rfl eX12_ever_90 ?_
                    refine vx_iinc hC (lv1 := [(11, xa_i (qq + 1)), (9, xa_l x16), (12, xa_i x13), (8, xa_i jj), (6, xa_l low), (4, xa_l up), (3, xa_i x5), (0, xa_r 31), (1, xa_i q), (2, xa_i pt)]) 2 rfl (by decide) rfl eX12_ever_92 ?_
                    refine vx_goto hC (tgt := 52) (by decide) eX12_ever_95 ?_
                    refine vx_lv (lv1 := [(11, xa_i (qq + 1)), (9, xa_l x16), (8, xa_i jj), (6, xa_l low), (4, xa_l up), (3, xa_i x5), (0, xa_r 31), (1, xa_i q), (2, xa_i pt)]) [0, 1, 3, 4, 5, 6, 7, 8, 9] rfl ?_
                    exact ihB cq1 (qq + 1) x16 ag14 (by omega) (by rw [← hev, ev_w, hx16, hfac]) hg14_32 hg14_33 hg14_31_3 hg14_31_22 hg14_44 frvig14 (by omega)
                  refine vx_icmp_gt hC (tgt := 86) (by omega) (by decide) eX12_ever_74 (fun c17 => ?_) (fun c17 => ?_)
                  · refine vx_iload hC 0 rfl eX12_ever_86 ?_
                    refine vx_i2l hC (by omega) eX12_ever_88 ?_
                    exact J89_z15 _ (by omega)
                  · refine vx_bipush hC (by decide) eX12_ever_77 ?_
                    refine vx_iload hC 0 rfl eX12_ever_79 ?_
                    refine vx_isub hC eX12_ever_81 ?_
                    refine vx_i2l hC (by omega) eX12_ever_82 ?_
                    refine vx_goto hC (tgt := 89) (by decide) eX12_ever_83 ?_
                    exact J89_z15 _ (by omega)
            exact LP52 13 (x5 - 1).toNat 1 1 m1 (by omega) (by unfold ev_W; rw [hx5]) eoa0 eoa1 eoa2 eoa3 eoa4 foa (by omega)
      exact LP40 13 0 0 0 vi (by omega) (by rw [show (if (0 : Int) < vi 32 (22 + q) then 0 else vi 32 (22 + q)).toNat = 0 by split <;> omega]; rfl) rfl rfl rfl rfl rfl rfl (fun _ _ => rfl) (by omega)
    · refine vx_ldc2 hC (-9223372036854775808) wd_1167 eX12_ever_17 ?_
      exact vx_lret hC hM eX12_ever_20 (⟨_, rfl, by unfold sp_ever; first | (rw [if_pos (by omega)]; simp only []; rw [hup, hlow, hjg, show (if vi 32 (18 + q) < vi 32 (22 + q) then vi 32 (18 + q) else vi 32 (22 + q)) = vi 32 (22 + q) by split <;> omega]; done) | (rw [if_neg (by omega)]; rfl), rfl, rfl, rfl, rfl, rfl, rfl, rfl, rfl, fun k hk => ⟨rfl, rfl⟩⟩)
