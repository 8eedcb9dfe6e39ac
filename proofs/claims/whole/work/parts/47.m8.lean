def ms_won (s : Int → Int) : Nat → Int
  | 0 => 0
  | n + 1 => ms_won s n + s (42 + (n : Int))
theorem ms_won_r {s : Int → Int} (h : ∀ z, 42 ≤ z → z < 66 → 0 ≤ s z ∧ s z ≤ 1) : ∀ n : Nat, n ≤ 24 → 0 ≤ ms_won s n ∧ ms_won s n ≤ (n : Int)
  | 0, _ => by simp [ms_won]
  | n + 1, hn => by
    have ih := ms_won_r h n (by omega)
    have := h (42 + (n : Int)) (by omega) (by omega)
    rw [ms_won]
    omega
def ab (x : Int) : Int := if x < 0 then -x else x
def sm_run (w t : Int) : Nat → Int → Int → Int → Int
  | 0, _, b, _ => b
  | c + 1, o, b, l => if b = -5 ∨ ab (10 * w - o * t) < l then sm_run w t c (o + 1) o (ab (10 * w - o * t)) else sm_run w t c (o + 1) b l
def ms_seems (s : Int → Int) : Int := if s 2 ≤ 0 then -5 else sm_run (ms_won s (s 2).toNat) (s 2) 11 0 (-5) 0
def lg_run (s : Int → Int) : Nat → Int → Int → Int → Int
  | 0, _, m, _ => m
  | c + 1, k, m, r =>
    if 0 < k ∧ s (42 + k) = s (42 + k - 1) then lg_run s c (k + 1) (if m < r + 1 then r + 1 else m) (r + 1) else lg_run s c (k + 1) (if m < 1 then 1 else m) 1
def ms_long (s : Int → Int) : Int := lg_run s (s 2).toNat 0 0 0
def sp_seen (s : Int → Int) (x : Int) : Int := if x = 0 then ms_seems s else if x = 1 then ms_long s else -1
set_option maxHeartbeats 4000000 in
set_option maxRecDepth 100000 in
theorem kX12_seems (G : xg_T) (d : Nat) (n : Nat) (tau : Nat → Nat × Nat) (vi vl : Nat → Int → Int) (vr : Nat → Int → Option Nat) (hO : xo n tau vr) (s : Int → Int) (h32 : vi 32 = s) (hW : ms_W s)  : xm G yX12_seems cX12_seems 7 (some .int) (d + 1) 0 0 [xa_r 31] n tau vi vl vr (xp_i (fun z9 n1 t1 a1 b1 c1 => z9 = ms_seems s ∧ xs_0 n tau vi vl vr n1 t1 a1 b1 c1)) := by
  refine xm.of (lv := [(0, xa_r 31)]) (by decide) (Nat.le_of_ble_eq_true rfl) rfl (fun K hC hM hRm => ?_)
  obtain ⟨hr, h0, h1, h2, h3, h4, h5, h6, hp0, hrow, hwon, htape, htab⟩ := id hW
  refine vx_iconst hC eX12_seems_0 ?_
  refine vx_istore_n hC (lv1 := [(1, xa_i 0), (0, xa_r 31)]) (by decide) rfl eX12_seems_1 ?_
  refine vx_iconst hC eX12_seems_2 ?_
  refine vx_istore_n hC (lv1 := [(2, xa_i 0), (1, xa_i 0), (0, xa_r 31)]) (by decide) rfl eX12_seems_3 ?_
  have LP4 : ∀ (j : Nat) (ii : Int) (wo : Int) (hii : 0 ≤ ii ∧ ii ≤ s 2) (hwo : wo = ms_won s ii.toNat) (hj : s 2 - ii < (j : Int)), xv G K 7 (xk_Q G K (xp_i (fun z9 n1 t1 a1 b1 c1 => z9 = ms_seems s ∧ xs_0 n tau vi vl vr n1 t1 a1 b1 c1)) 0 0) 0 0 n tau vi vl vr 4 [(2, xa_i ii), (1, xa_i wo), (0, xa_r 31)] [] := by
    intro j
    induction j with
    | zero => intro ii wo hii hwo hj; exfalso; omega
    | succ j ih =>
      intro ii wo hii hwo hj
      refine vx_iload_n hC 0 rfl eX12_seems_4 ?_
      refine vx_aload_n hC 2 rfl eX12_seems_5 ?_
      refine vx_gr hC 1 (ot_31 hO) lf_X12_9 rfl (or_31_1 hO) eX12_seems_6 ?_
      refine vx_iconst hC eX12_seems_9 ?_
      refine vx_iaload hC (ot_32 hO) (by omega) (by omega) eX12_seems_10 ?_
      refine vx_eqi (congrFun h32 _) ?_
      refine vx_icmp_ge hC (tgt := 32) (by omega) (by decide) eX12_seems_11 (fun c1 => ?_) (fun c1 => ?_)
      · have hw9 := ms_won_r hwon ii.toNat (by omega)
        have hw8 : 0 ≤ wo ∧ wo ≤ 24 := by rw [hwo]; omega
        refine vx_bipush hC (by decide) eX12_seems_32 ?_
        refine vx_istore_n hC (lv1 := [(2, xa_i (-5)), (1, xa_i wo), (0, xa_r 31)]) (by decide) rfl eX12_seems_34 ?_
        refine vx_iconst hC eX12_seems_35 ?_
        refine vx_istore_n hC (lv1 := [(3, xa_i 0), (2, xa_i (-5)), (1, xa_i wo), (0, xa_r 31)]) (by decide) rfl eX12_seems_36 ?_
        refine vx_iconst hC eX12_seems_37 ?_
        refine vx_istore hC (lv1 := [(4, xa_i 0), (3, xa_i 0), (2, xa_i (-5)), (1, xa_i wo), (0, xa_r 31)]) (by decide) rfl eX12_seems_38 ?_
        have LP40 : ∀ (j : Nat) (cq : Nat) (oo : Int) (be : Int) (le : Int) (hcq : oo + (cq : Int) = 11 ∧ 0 ≤ oo) (hbl : -5 ≤ be ∧ be ≤ 10 ∧ 0 ≤ le ∧ le ≤ 1000) (hres : (if s 2 ≤ 0 then be else sm_run wo (s 2) cq oo be le) = ms_seems s) (hj : (cq : Int) < (j : Int)), xv G K 7 (xk_Q G K (xp_i (fun z9 n1 t1 a1 b1 c1 => z9 = ms_seems s ∧ xs_0 n tau vi vl vr n1 t1 a1 b1 c1)) 0 0) 0 0 n tau vi vl vr 40 [(0, xa_r 31), (1, xa_i wo), (2, xa_i be), (3, xa_i le), (4, xa_i oo)] [] := by
          intro j
          induction j with
          | zero => intro cq oo be le hcq hbl hres hj; exfalso; omega
          | succ j ih =>
            intro cq oo be le hcq hbl hres hj
            refine vx_iload hC 4 rfl eX12_seems_40 ?_
            refine vx_bipush hC (by decide) eX12_seems_42 ?_
            refine vx_icmp_gt hC (tgt := 136) (by omega) (by decide) eX12_seems_44 (fun c2 => ?_) (fun c2 => ?_)
            · refine vx_iload_n hC 2 rfl eX12_seems_136 ?_
              exact vx_iret hC hM rfl eX12_seems_137 (⟨_, rfl, by rw [← hres]; split <;> (first | rfl | (rw [show cq = 0 by omega, sm_run]) | (exfalso; omega)), xs_0.rf _ _ _ _ _⟩)
            · obtain ⟨cq1, rfl⟩ : ∃ cq1, cq = cq1 + 1 := ⟨cq - 1, by omega⟩
              refine vx_aload_n hC 0 rfl eX12_seems_47 ?_
              refine vx_gr hC 1 (ot_31 hO) lf_X12_9 rfl (or_31_1 hO) eX12_seems_48 ?_
              refine vx_iconst hC eX12_seems_51 ?_
              refine vx_iaload hC (ot_32 hO) (by omega) (by omega) eX12_seems_52 ?_
              refine vx_eqi (congrFun h32 _) ?_
              refine vx_if_le hC (tgt := 136) (by omega) (by decide) eX12_seems_53 (fun c3 => ?_) (fun c3 => ?_)
              · refine vx_iload_n hC 2 rfl eX12_seems_136 ?_
                exact vx_iret hC hM rfl eX12_seems_137 (⟨_, rfl, by rw [← hres]; split <;> (first | rfl | (rw [show cq = 0 by omega, sm_run]) | (exfalso; omega)), xs_0.rf _ _ _ _ _⟩)
              · have hmul : 0 ≤ oo * s 2 ∧ oo * s 2 ≤ 240 := ⟨Int.mul_nonneg (by omega) (by omega), by have := Int.mul_le_mul (show oo ≤ 10 by omega) (show s 2 ≤ 24 by omega) (by omega) (by omega); omega⟩
                refine vx_bipush hC (by decide) eX12_seems_56 ?_
                refine vx_iload_n hC 1 rfl eX12_seems_58 ?_
                refine vx_imul hC eX12_seems_59 ?_
                refine vx_iload hC 4 rfl eX12_seems_60 ?_
                refine vx_aload_n hC 0 rfl eX12_seems_62 ?_
                refine vx_gr hC 1 (ot_31 hO) lf_X12_9 rfl (or_31_1 hO) eX12_seems_63 ?_
                refine vx_iconst hC eX12_seems_66 ?_
                refine vx_iaload hC (ot_32 hO) (by omega) (by omega) eX12_seems_67 ?_
                refine vx_eqi (congrFun h32 _) ?_
                refine vx_imul hC eX12_seems_68 ?_
                refine vx_isub hC eX12_seems_69 ?_
                refine vx_top (fun x4 hx4 => ?_)
                refine vx_istore hC (lv1 := [(5, xa_i x4), (0, xa_r 31), (1, xa_i wo), (2, xa_i be), (3, xa_i le), (4, xa_i oo)]) (by decide) rfl eX12_seems_70 ?_
                refine vx_iload hC 0 rfl eX12_seems_72 ?_
                have J85_z5 : ∀ z5 : Int, ((x4 < 0 ∧ z5 = -x4) ∨ (0 ≤ x4 ∧ z5 = x4)) → xv G K 7 (xk_Q G K (xp_i (fun z9 n1 t1 a1 b1 c1 => z9 = ms_seems s ∧ xs_0 n tau vi vl vr n1 t1 a1 b1 c1)) 0 0) 0 0 n tau vi vl vr 85 [(5, xa_i x4), (0, xa_r 31), (1, xa_i wo), (2, xa_i be), (3, xa_i le), (4, xa_i oo)] [xa_i z5] := by
                  intro z5 hz5
                  refine vx_istore hC (lv1 := [(5, xa_i z5), (0, xa_r 31), (1, xa_i wo), (2, xa_i be), (3, xa_i le), (4, xa_i oo)]) (by decide) rfl eX12_seems_85 ?_
                  have hab : ab (10 * wo - oo * s 2) = z5 := by unfold ab; split <;> omega
                  refine vx_iload_n hC 3 rfl eX12_seems_87 ?_
                  refine vx_bipush hC (by decide) eX12_seems_88 ?_
                  have J104_z6 : ∀ z6 : Int, ((z6 = 1 ∧ (be = -5 ∨ z5 < le)) ∨ (z6 = 0 ∧ ¬ be = -5 ∧ le ≤ z5)) → xv G K 7 (xk_Q G K (xp_i (fun z9 n1 t1 a1 b1 c1 => z9 = ms_seems s ∧ xs_0 n tau vi vl vr n1 t1 a1 b1 c1)) 0 0) 0 0 n tau vi vl vr 104 [(5, xa_i z5), (0, xa_r 31), (1, xa_i wo), (2, xa_i be), (3, xa_i le), (4, xa_i oo)] [xa_i z6] := by
                    intro z6 hz6
                    refine vx_istore hC (lv1 := [(6, xa_i z6), (5, xa_i z5), (0, xa_r 31), (1, xa_i wo), (2, xa_i be), (3, xa_i le), (4, xa_i oo)]) (by decide) rfl eX12_seems_104 ?_
                    refine vx_iload hC 0 rfl eX12_seems_106 ?_
                    refine vx_if_eq hC (tgt := 116) (by omega) (by decide) eX12_seems_108 (fun c7 => ?_) (fun c7 => ?_)
                    · refine vx_iload_n hC 4 rfl eX12_seems_116 ?_
                      refine vx_istore_n hC (lv1 := [(2, xa_i be), (6, xa_i z6), (5, xa_i z5), (0, xa_r 31), (1, xa_i wo), (3, xa_i le), (4, xa_i oo)]) (by decide) rfl eX12_seems_117 ?_
                      refine vx_iload hC 1 rfl eX12_seems_118 ?_
                      refine vx_if_eq hC (tgt := 128) (by omega) (by decide) eX12_seems_120 (fun c8 => ?_) (fun c8 => ?_)
                      · refine vx_iload_n hC 5 rfl eX12_seems_128 ?_
                        refine vx_istore_n hC (lv1 := [(3, xa_i le), (2, xa_i be), (6, xa_i z6), (5, xa_i z5), (0, xa_r 31), (1, xa_i wo), (4, xa_i oo)]) (by decide) rfl eX12_seems_129 ?_
                        refine vx_iinc hC (lv1 := [(4, xa_i (oo + 1)), (3, xa_i le), (2, xa_i be), (6, xa_i z6), (5, xa_i z5), (0, xa_r 31), (1, xa_i wo)]) 6 rfl (by decide) rfl eX12_seems_130 ?_
                        refine vx_goto hC (tgt := 40) (by decide) eX12_seems_133 ?_
                        refine vx_lv (lv1 := [(0, xa_r 31), (1, xa_i wo), (2, xa_i be), (3, xa_i le), (4, xa_i (oo + 1))]) [5, 6, 2, 1, 0] rfl ?_
                        exact ih cq1 (oo + 1) be le (by omega) (by omega) (by rw [if_neg (by omega)]; rw [if_neg (by omega)] at hres; rw [← hres, sm_run, hab]; split <;> (first | (congr 1 <;> omega) | (exfalso; omega))) (by omega)
                      · refine vx_iload hC 2 rfl eX12_seems_123 ?_
                        refine vx_goto hC (tgt := 129) (by decide) eX12_seems_125 ?_
                        refine vx_istore_n hC (lv1 := [(3, xa_i z5), (2, xa_i be), (6, xa_i z6), (5, xa_i z5), (0, xa_r 31), (1, xa_i wo), (4, xa_i oo)]) (by decide) rfl eX12_seems_129 ?_
                        refine vx_iinc hC (lv1 := [(4, xa_i (oo + 1)), (3, xa_i z5), (2, xa_i be), (6, xa_i z6), (5, xa_i z5), (0, xa_r 31), (1, xa_i wo)]) 6 rfl (by decide) rfl eX12_seems_130 ?_
                        refine vx_goto hC (tgt := 40) (by decide) eX12_seems_133 ?_
                        refine vx_lv (lv1 := [(0, xa_r 31), (1, xa_i wo), (2, xa_i be), (3, xa_i z5), (4, xa_i (oo + 1))]) [5, 6, 2, 1, 0] rfl ?_
                        exact ih cq1 (oo + 1) be z5 (by omega) (by omega) (by rw [if_neg (by omega)]; rw [if_neg (by omega)] at hres; rw [← hres, sm_run, hab]; split <;> (first | (congr 1 <;> omega) | (exfalso; omega))) (by omega)
                    · refine vx_iload hC 6 rfl eX12_seems_111 ?_
                      refine vx_goto hC (tgt := 117) (by decide) eX12_seems_113 ?_
                      refine vx_istore_n hC (lv1 := [(2, xa_i oo), (6, xa_i z6), (5, xa_i z5), (0, xa_r 31), (1, xa_i wo), (3, xa_i le), (4, xa_i oo)]) (by decide) rfl eX12_seems_117 ?_
                      refine vx_iload hC 1 rfl eX12_seems_118 ?_
                      refine vx_if_eq hC (tgt := 128) (by omega) (by decide) eX12_seems_120 (fun c9 => ?_) (fun c9 => ?_)
                      · refine vx_iload_n hC 5 rfl eX12_seems_128 ?_
                        refine vx_istore_n hC (lv1 := [(3, xa_i le), (2, xa_i oo), (6, xa_i z6), (5, xa_i z5), (0, xa_r 31), (1, xa_i wo), (4, xa_i oo)]) (by decide) rfl eX12_seems_129 ?_
                        refine vx_iinc hC (lv1 := [(4, xa_i (oo + 1)), (3, xa_i le), (2, xa_i oo), (6, xa_i z6), (5, xa_i z5), (0, xa_r 31), (1, xa_i wo)]) 6 rfl (by decide) rfl eX12_seems_130 ?_
                        refine vx_goto hC (tgt := 40) (by decide) eX12_seems_133 ?_
                        refine vx_lv (lv1 := [(0, xa_r 31), (1, xa_i wo), (2, xa_i oo), (3, xa_i le), (4, xa_i (oo + 1))]) [5, 6, 2, 1, 0] rfl ?_
                        exact ih cq1 (oo + 1) oo le (by omega) (by omega) (by rw [if_neg (by omega)]; rw [if_neg (by omega)] at hres; rw [← hres, sm_run, hab]; split <;> (first | (congr 1 <;> omega) | (exfalso; omega))) (by omega)
                      · refine vx_iload hC 2 rfl eX12_seems_123 ?_
                        refine vx_goto hC (tgt := 129) (by decide) eX12_seems_125 ?_
                        refine vx_istore_n hC (lv1 := [(3, xa_i z5), (2, xa_i oo), (6, xa_i z6), (5, xa_i z5), (0, xa_r 31), (1, xa_i wo), (4, xa_i oo)]) (by decide) rfl eX12_seems_129 ?_
                        refine vx_iinc hC (lv1 := [(4, xa_i (oo + 1)), (3, xa_i z5), (2, xa_i oo), (6, xa_i z6), (5, xa_i z5), (0, xa_r 31), (1, xa_i wo)]) 6 rfl (by decide) rfl eX12_seems_130 ?_
                        refine vx_goto hC (tgt := 40) (by decide) eX12_seems_133 ?_
                        refine vx_lv (lv1 := [(0, xa_r 31), (1, xa_i wo), (2, xa_i oo), (3, xa_i z5), (4, xa_i (oo + 1))]) [5, 6, 2, 1, 0] rfl ?_
                        exact ih cq1 (oo + 1) oo z5 (by omega) (by omega) (by rw [if_neg (by omega)]; rw [if_neg (by omega)] at hres; rw [← hres, sm_run, hab]; split <;> (first | (congr 1 <;> omega) | (exfalso; omega))) (by omega)
                  refine vx_icmp_eq hC (tgt := 99) (by omega) (by decide) eX12_seems_90 (fun c10 => ?_) (fun c10 => ?_)
                  · refine vx_iconst hC eX12_seems_99 ?_
                    refine vx_goto hC (tgt := 104) (by decide) eX12_seems_100 ?_
                    exact J104_z6 _ (by omega)
                  · refine vx_iload hC 0 rfl eX12_seems_93 ?_
                    refine vx_iload_n hC 4 rfl eX12_seems_95 ?_
                    refine vx_icmp_ge hC (tgt := 103) (by omega) (by decide) eX12_seems_96 (fun c11 => ?_) (fun c11 => ?_)
                    · refine vx_iconst hC eX12_seems_103 ?_
                      exact J104_z6 _ (by omega)
                    · refine vx_iconst hC eX12_seems_99 ?_
                      refine vx_goto hC (tgt := 104) (by decide) eX12_seems_100 ?_
                      exact J104_z6 _ (by omega)
                refine vx_if_ge hC (tgt := 83) (by omega) (by decide) eX12_seems_74 (fun c12 => ?_) (fun c12 => ?_)
                · refine vx_iload hC 0 rfl eX12_seems_83 ?_
                  exact J85_z5 _ (by omega)
                · refine vx_iload hC 0 rfl eX12_seems_77 ?_
                  refine vx_ineg hC eX12_seems_79 ?_
                  refine vx_goto hC (tgt := 85) (by decide) eX12_seems_80 ?_
                  exact J85_z5 _ (by omega)
        refine vx_lv (lv1 := [(0, xa_r 31), (1, xa_i wo), (2, xa_i (-5)), (3, xa_i 0), (4, xa_i 0)]) [4, 3, 2, 1, 0] rfl ?_
        exact LP40 12 11 0 (-5) 0 (by omega) (by omega) (by unfold ms_seems; split; rfl; rw [hwo, show ii = s 2 by omega]) (by omega)
      · refine vx_iload_n hC 1 rfl eX12_seems_14 ?_
        refine vx_aload_n hC 2 rfl eX12_seems_15 ?_
        refine vx_gr hC 1 (ot_31 hO) lf_X12_9 rfl (or_31_1 hO) eX12_seems_16 ?_
        refine vx_bipush hC (by decide) eX12_seems_19 ?_
        refine vx_iload_n hC 0 rfl eX12_seems_21 ?_
        refine vx_iadd hC eX12_seems_22 ?_
        refine vx_iaload hC (ot_32 hO) (by omega) (by omega) eX12_seems_23 ?_
        refine vx_eqi (congrFun h32 _) ?_
        refine vx_iadd hC eX12_seems_24 ?_
        refine vx_top (fun x13 hx13 => ?_)
        refine vx_istore_n hC (lv1 := [(1, xa_i x13), (2, xa_i ii), (0, xa_r 31)]) (by decide) rfl eX12_seems_25 ?_
        refine vx_iinc hC (lv1 := [(2, xa_i (ii + 1)), (1, xa_i x13), (0, xa_r 31)]) 1 rfl (by decide) rfl eX12_seems_26 ?_
        refine vx_goto hC (tgt := 4) (by decide) eX12_seems_29 ?_
        exact ih (ii + 1) x13 (by omega) (by rw [hx13, hwo, show (ii + 1).toNat = ii.toNat + 1 by omega, ms_won, show 42 + ((ii.toNat : Nat) : Int) = 42 + ii by omega]) (by omega)
  exact LP4 25 0 0 (by omega) rfl (by omega)
set_option maxHeartbeats 4000000 in
set_option maxRecDepth 100000 in
theorem kX12_longest (G : xg_T) (d : Nat) (n : Nat) (tau : Nat → Nat × Nat) (vi vl : Nat → Int → Int) (vr : Nat → Int → Option Nat) (hO : xo n tau vr) (s : Int → Int) (h32 : vi 32 = s) (hW : ms_W s)  : xm G yX12_longest cX12_longest 4 (some .int) (d + 1) 0 0 [xa_r 31] n tau vi vl vr (xp_i (fun z9 n1 t1 a1 b1 c1 => z9 = ms_long s ∧ xs_0 n tau vi vl vr n1 t1 a1 b1 c1)) := by
  refine xm.of (lv := [(0, xa_r 31)]) (by decide) (Nat.le_of_ble_eq_true rfl) rfl (fun K hC hM hRm => ?_)
  obtain ⟨hr, h0, h1, h2, h3, h4, h5, h6, hp0, hrow, hwon, htape, htab⟩ := id hW
  refine vx_iconst hC eX12_longest_0 ?_
  refine vx_istore_n hC (lv1 := [(1, xa_i 0), (0, xa_r 31)]) (by decide) rfl eX12_longest_1 ?_
  refine vx_iconst hC eX12_longest_2 ?_
  refine vx_istore_n hC (lv1 := [(2, xa_i 0), (1, xa_i 0), (0, xa_r 31)]) (by decide) rfl eX12_longest_3 ?_
  refine vx_iconst hC eX12_longest_4 ?_
  refine vx_istore_n hC (lv1 := [(3, xa_i 0), (2, xa_i 0), (1, xa_i 0), (0, xa_r 31)]) (by decide) rfl eX12_longest_5 ?_
  have LP6 : ∀ (j : Nat) (cq : Nat) (kk : Int) (mo : Int) (ru : Int) (hcq : kk + (cq : Int) = s 2 ∧ 0 ≤ kk) (hmr : 0 ≤ mo ∧ mo ≤ kk ∧ 0 ≤ ru ∧ ru ≤ kk) (hres : lg_run s cq kk mo ru = ms_long s) (hj : (cq : Int) < (j : Int)), xv G K 4 (xk_Q G K (xp_i (fun z9 n1 t1 a1 b1 c1 => z9 = ms_long s ∧ xs_0 n tau vi vl vr n1 t1 a1 b1 c1)) 0 0) 0 0 n tau vi vl vr 6 [(0, xa_r 31), (1, xa_i mo), (2, xa_i ru), (3, xa_i kk)] [] := by
    intro j
    induction j with
    | zero => intro cq kk mo ru hcq hmr hres hj; exfalso; omega
    | succ j ih =>
      intro cq kk mo ru hcq hmr hres hj
      refine vx_iload_n hC 3 rfl eX12_longest_6 ?_
      refine vx_aload_n hC 0 rfl eX12_longest_7 ?_
      refine vx_gr hC 1 (ot_31 hO) lf_X12_9 rfl (or_31_1 hO) eX12_longest_8 ?_
      refine vx_iconst hC eX12_longest_11 ?_
      refine vx_iaload hC (ot_32 hO) (by omega) (by omega) eX12_longest_12 ?_
      refine vx_eqi (congrFun h32 _) ?_
      refine vx_icmp_ge hC (tgt := 68) (by omega) (by decide) eX12_longest_13 (fun c1 => ?_) (fun c1 => ?_)
      · refine vx_iload_n hC 1 rfl eX12_longest_68 ?_
        exact vx_iret hC hM rfl eX12_longest_69 (⟨_, rfl, by rw [← hres, show cq = 0 by omega, lg_run], xs_0.rf _ _ _ _ _⟩)
      · obtain ⟨cq1, rfl⟩ : ∃ cq1, cq = cq1 + 1 := ⟨cq - 1, by omega⟩
        have hq1 := hr (42 + kk)
        have hq2 := hr (42 + kk - 1)
        refine vx_iload_n hC 3 rfl eX12_longest_16 ?_
        refine vx_if_le hC (tgt := 49) (by omega) (by decide) eX12_longest_17 (fun c2 => ?_) (fun c2 => ?_)
        · refine vx_iconst hC eX12_longest_49 ?_
          refine vx_istore_n hC (lv1 := [(2, xa_i 1), (0, xa_r 31), (1, xa_i mo), (3, xa_i kk)]) (by decide) rfl eX12_longest_50 ?_
          refine vx_iload_n hC 0 rfl eX12_longest_51 ?_
          refine vx_iload_n hC 2 rfl eX12_longest_52 ?_
          have J61_z3 : ∀ z3 : Int, ((mo < 1 ∧ z3 = 1) ∨ (1 ≤ mo ∧ z3 = mo)) → xv G K 4 (xk_Q G K (xp_i (fun z9 n1 t1 a1 b1 c1 => z9 = ms_long s ∧ xs_0 n tau vi vl vr n1 t1 a1 b1 c1)) 0 0) 0 0 n tau vi vl vr 61 [(2, xa_i 1), (0, xa_r 31), (1, xa_i mo), (3, xa_i kk)] [xa_i z3] := by
            intro z3 hz3
            refine vx_istore_n hC (lv1 := [(1, xa_i z3), (2, xa_i 1), (0, xa_r 31), (3, xa_i kk)]) (by decide) rfl eX12_longest_61 ?_
            refine vx_iinc hC (lv1 := [(3, xa_i (kk + 1)), (1, xa_i z3), (2, xa_i 1), (0, xa_r 31)]) 3 rfl (by decide) rfl eX12_longest_62 ?_
            refine vx_goto hC (tgt := 6) (by decide) eX12_longest_65 ?_
            refine vx_lv (lv1 := [(0, xa_r 31), (1, xa_i z3), (2, xa_i 1), (3, xa_i (kk + 1))]) [3, 1, 2, 0] rfl ?_
            exact ih cq1 (kk + 1) z3 1 (by omega) (by omega) (by rw [← hres, lg_run]; (first | (rw [if_pos (by omega)]; congr 1 <;> (try split) <;> omega) | (rw [if_neg (by omega)]; congr 1 <;> (try split) <;> omega))) (by omega)
          refine vx_icmp_le hC (tgt := 60) (by omega) (by decide) eX12_longest_53 (fun c4 => ?_) (fun c4 => ?_)
          · refine vx_iload_n hC 2 rfl eX12_longest_60 ?_
            exact J61_z3 _ (by omega)
          · refine vx_iload_n hC 0 rfl eX12_longest_56 ?_
            refine vx_goto hC (tgt := 61) (by decide) eX12_longest_57 ?_
            exact J61_z3 _ (by omega)
        · refine vx_aload_n hC 0 rfl eX12_longest_20 ?_
          refine vx_gr hC 1 (ot_31 hO) lf_X12_9 rfl (or_31_1 hO) eX12_longest_21 ?_
          refine vx_bipush hC (by decide) eX12_longest_24 ?_
          refine vx_iload_n hC 3 rfl eX12_longest_26 ?_
          refine vx_iadd hC eX12_longest_27 ?_
          refine vx_iaload hC (ot_32 hO) (by omega) (by omega) eX12_longest_28 ?_
          refine vx_eqi (congrFun h32 _) ?_
          refine vx_aload_n hC 0 rfl eX12_longest_29 ?_
          refine vx_gr hC 1 (ot_31 hO) lf_X12_9 rfl (or_31_1 hO) eX12_longest_30 ?_
          refine vx_bipush hC (by decide) eX12_longest_33 ?_
          refine vx_iload_n hC 3 rfl eX12_longest_35 ?_
          refine vx_iadd hC eX12_longest_36 ?_
          refine vx_iconst hC eX12_longest_37 ?_
          refine vx_isub hC eX12_longest_38 ?_
          refine vx_iaload hC (ot_32 hO) (by omega) (by omega) eX12_longest_39 ?_
          refine vx_eqi (congrFun h32 _) ?_
          refine vx_icmp_ne hC (tgt := 49) (by omega) (by decide) eX12_longest_40 (fun c5 => ?_) (fun c5 => ?_)
          · refine vx_iconst hC eX12_longest_49 ?_
            refine vx_istore_n hC (lv1 := [(2, xa_i 1), (0, xa_r 31), (1, xa_i mo), (3, xa_i kk)]) (by decide) rfl eX12_longest_50 ?_
            refine vx_iload_n hC 0 rfl eX12_longest_51 ?_
            refine vx_iload_n hC 2 rfl eX12_longest_52 ?_
            have J61_z6 : ∀ z6 : Int, ((mo < 1 ∧ z6 = 1) ∨ (1 ≤ mo ∧ z6 = mo)) → xv G K 4 (xk_Q G K (xp_i (fun z9 n1 t1 a1 b1 c1 => z9 = ms_long s ∧ xs_0 n tau vi vl vr n1 t1 a1 b1 c1)) 0 0) 0 0 n tau vi vl vr 61 [(2, xa_i 1), (0, xa_r 31), (1, xa_i mo), (3, xa_i kk)] [xa_i z6] := by
              intro z6 hz6
              refine vx_istore_n hC (lv1 := [(1, xa_i z6), (2, xa_i 1), (0, xa_r 31), (3, xa_i kk)]) (by decide) rfl eX12_longest_61 ?_
              refine vx_iinc hC (lv1 := [(3, xa_i (kk + 1)), (1, xa_i z6), (2, xa_i 1), (0, xa_r 31)]) 3 rfl (by decide) rfl eX12_longest_62 ?_
              refine vx_goto hC (tgt := 6) (by decide) eX12_longest_65 ?_
              refine vx_lv (lv1 := [(0, xa_r 31), (1, xa_i z6), (2, xa_i 1), (3, xa_i (kk + 1))]) [3, 1, 2, 0] rfl ?_
              exact ih cq1 (kk + 1) z6 1 (by omega) (by omega) (by rw [← hres, lg_run]; (first | (rw [if_pos (by omega)]; congr 1 <;> (try split) <;> omega) | (rw [if_neg (by omega)]; congr 1 <;> (try split) <;> omega))) (by omega)
            refine vx_icmp_le hC (tgt := 60) (by omega) (by decide) eX12_longest_53 (fun c7 => ?_) (fun c7 => ?_)
            · refine vx_iload_n hC 2 rfl eX12_longest_60 ?_
              exact J61_z6 _ (by omega)
            · refine vx_iload_n hC 0 rfl eX12_longest_56 ?_
              refine vx_goto hC (tgt := 61) (by decide) eX12_longest_57 ?_
              exact J61_z6 _ (by omega)
          · refine vx_iload_n hC 2 rfl eX12_longest_43 ?_
            refine vx_iconst hC eX12_longest_44 ?_
            refine vx_iadd hC eX12_longest_45 ?_
            refine vx_goto hC (tgt := 50) (by decide) eX12_longest_46 ?_
            refine vx_top (fun x8 hx8 => ?_)
            refine vx_istore_n hC (lv1 := [(2, xa_i x8), (0, xa_r 31), (1, xa_i mo), (3, xa_i kk)]) (by decide) rfl eX12_longest_50 ?_
            refine vx_iload_n hC 0 rfl eX12_longest_51 ?_
            refine vx_iload_n hC 2 rfl eX12_longest_52 ?_
            have J61_z9 : ∀ z9 : Int, ((mo < x8 ∧ z9 = x8) ∨ (x8 ≤ mo ∧ z9 = mo)) → xv G K 4 (xk_Q G K (xp_i (fun z9 n1 t1 a1 b1 c1 => z9 = ms_long s ∧ xs_0 n tau vi vl vr n1 t1 a1 b1 c1)) 0 0) 0 0 n tau vi vl vr 61 [(2, xa_i x8), (0, xa_r 31), (1, xa_i mo), (3, xa_i kk)] [xa_i z9] := by
              intro z9 hz9
              refine vx_istore_n hC (lv1 := [(1, xa_i z9), (2, xa_i x8), (0, xa_r 31), (3, xa_i kk)]) (by decide) rfl eX12_longest_61 ?_
              refine vx_iinc hC (lv1 := [(3, xa_i (kk + 1)), (1, xa_i z9), (2, xa_i x8), (0, xa_r 31)]) 3 rfl (by decide) rfl eX12_longest_62 ?_
              refine vx_goto hC (tgt := 6) (by decide) eX12_longest_65 ?_
              refine vx_lv (lv1 := [(0, xa_r 31), (1, xa_i z9), (2, xa_i x8), (3, xa_i (kk + 1))]) [3, 1, 2, 0] rfl ?_
              exact ih cq1 (kk + 1) z9 x8 (by omega) (by omega) (by rw [← hres, lg_run]; (first | (rw [if_pos (by omega)]; congr 1 <;> (try split) <;> omega) | (rw [if_neg (by omega)]; congr 1 <;> (try split) <;> omega))) (by omega)
            refine vx_icmp_le hC (tgt := 60) (by omega) (by decide) eX12_longest_53 (fun c10 => ?_) (fun c10 => ?_)
            · refine vx_iload_n hC 2 rfl eX12_longest_60 ?_
              exact J61_z9 _ (by omega)
            · refine vx_iload_n hC 0 rfl eX12_longest_56 ?_
              refine vx_goto hC (tgt := 61) (by decide) eX12_longest_57 ?_
              exact J61_z9 _ (by omega)
  refine vx_lv (lv1 := [(0, xa_r 31), (1, xa_i 0), (2, xa_i 0), (3, xa_i 0)]) [3, 2, 1, 0] rfl ?_
  exact LP6 25 (s 2).toNat 0 0 0 (by omega) (by omega) rfl (by omega)
set_option maxHeartbeats 4000000 in
set_option maxRecDepth 100000 in
theorem kX12_seen (G : xg_T) (d : Nat) (n : Nat) (tau : Nat → Nat × Nat) (vi vl : Nat → Int → Int) (vr : Nat → Int → Option Nat) (hI : MI n tau vi vr) (x : Int) (hx : -2147483648 ≤ x ∧ x < 2147483648) : xm G yX12_seen cX12_seen 2 (some .int) (d + 2) 0 0 [xa_r 31, xa_i x] n tau vi vl vr (xp_i (fun z9 n1 t1 a1 b1 c1 => z9 = sp_seen (vi 32) x ∧ mq (vi 32) (vi 33) (vi 31 3) (vi 31 22) (vi 44) n tau vi vl vr n1 t1 a1 b1 c1)) := by
  refine xm.of (lv := [(0, xa_r 31), (1, xa_i x)]) (by decide) (Nat.le_of_ble_eq_true rfl) rfl (fun K hC hM hRm => ?_)
  obtain ⟨hO, ⟨⟨hr, h0, h1, h2, h3, h4, h5, h6, hp0, hrow, hwon, htape, htab⟩, h60⟩, him, hran, hz1, hz2⟩ := hI
  have hW : ms_W (vi 32) := ⟨hr, h0, h1, h2, h3, h4, h5, h6, hp0, hrow, hwon, htape, htab⟩
  refine vx_iload_n hC 1 rfl eX12_seen_0 ?_
  refine vx_if_ne hC (tgt := 11) (by omega) (by decide) eX12_seen_1 (fun c1 => ?_) (fun c1 => ?_)
  · refine vx_iload_n hC 1 rfl eX12_seen_11 ?_
    refine vx_iconst hC eX12_seen_12 ?_
    refine vx_icmp_ne hC (tgt := 23) (by omega) (by decide) eX12_seen_13 (fun c2 => ?_) (fun c2 => ?_)
    · refine vx_iconst hC eX12_seen_23 ?_
      exact vx_iret hC hM rfl eX12_seen_24 (⟨_, rfl, by subst_vars; unfold sp_seen; (repeat (first | rw [if_pos (by omega)] | rw [if_neg (by omega)])); all_goals (first | rfl | omega), rfl, rfl, rfl, rfl, rfl, rfl, rfl, rfl, fun k hk => ⟨rfl, rfl⟩⟩)
    · refine vx_aload_n hC 0 rfl eX12_seen_16 ?_
      refine vx_callV_i hC (kX12_longest G d _ _ _ _ _ hO (vi 32) rfl hW) ly_X12_216 (ot_31 hO) rfl rfl rfl hRm (by omega) (Nat.le_of_ble_eq_true rfl) rfl eX12_seen_17 (fun x3 n9 t9 a9 b9 c9 hx3 => ?_)
      obtain ⟨hx3, rfl, rfl, rfl, rfl, rfl⟩ := hx3
      refine vx_goto hC (tgt := 24) (by decide) eX12_seen_20 ?_
      exact vx_iret hC hM rfl eX12_seen_24 (⟨_, rfl, by subst_vars; unfold sp_seen; (repeat (first | rw [if_pos (by omega)] | rw [if_neg (by omega)])); all_goals (first | rfl | omega), rfl, rfl, rfl, rfl, rfl, rfl, rfl, rfl, fun k hk => ⟨rfl, rfl⟩⟩)
  · refine vx_aload_n hC 0 rfl eX12_seen_4 ?_
    refine vx_callV_i hC (kX12_seems G d _ _ _ _ _ hO (vi 32) rfl hW) ly_X12_213 (ot_31 hO) rfl rfl rfl hRm (by omega) (Nat.le_of_ble_eq_true rfl) rfl eX12_seen_5 (fun x4 n9 t9 a9 b9 c9 hx4 => ?_)
    obtain ⟨hx4, rfl, rfl, rfl, rfl, rfl⟩ := hx4
    refine vx_goto hC (tgt := 24) (by decide) eX12_seen_8 ?_
    exact vx_iret hC hM rfl eX12_seen_24 (⟨_, rfl, by subst_vars; unfold sp_seen; (repeat (first | rw [if_pos (by omega)] | rw [if_neg (by omega)])); all_goals (first | rfl | omega), rfl, rfl, rfl, rfl, rfl, rfl, rfl, rfl, fun k hk => ⟨rfl, rfl⟩⟩)
