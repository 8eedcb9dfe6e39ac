/-- three who play: a penny goes from one to another in six ways -/
def t3_6 (N : Int → Int) (k x : Int) : Int → Int := ad (ad (ad (ad (ad (ad N (k + -12) x) (k + -13) x) (k + 12) x) (k + -1) x) (k + 13) x) (k + 1) x
theorem t3_6z (N : Int → Int) (k : Int) : t3_6 N k 0 = N := by unfold t3_6; rw [ad_0, ad_0, ad_0, ad_0, ad_0, ad_0]
def t3_in (T : Int → Int) : Nat → Int → (Int → Int) → Int → Int
  | 0, _, N => N
  | c + 1, k, N => t3_in T c (k + 1) (t3_6 N k (T k))
def t3_N (T : Int → Int) : Int → Int := t3_in T 169 0 fz0
abbrev t3_is (sm w k : Int) : Prop := (w = 0 ∧ k / 13 = 0) ∨ (w = 1 ∧ k % 13 = 0) ∨ (¬ w = 0 ∧ ¬ w = 1 ∧ k / 13 + k % 13 = sm)
abbrev t3_ov (sm k : Int) : Prop := k / 13 = 0 ∨ k % 13 = 0 ∨ k / 13 + k % 13 = sm
def t3_o (sm w : Int) (N : Int → Int) : Int → Int := fun k => if t3_is sm w k then N k else 0
def t3_T (sm : Int) (N : Int → Int) : Int → Int := fun k => if t3_ov sm k then 0 else N k
def t3_n (sm w : Int) : Nat → (Int → Int) → Int → Int
  | 0, _, up => up
  | c + 1, T, up => t3_n sm w c (t3_T sm (t3_N T)) (6 * up + sq (t3_o sm w (t3_N T)) 0 169)
def t3_in0 (sm k : Int) : Prop := 1 ≤ k / 13 ∧ 1 ≤ k % 13 ∧ k / 13 + k % 13 < sm
def t3_ok (sm : Int) (T : Int → Int) : Prop := ∀ k, 0 ≤ k → k < 169 → 0 ≤ T k ∧ (¬ T k = 0 → t3_in0 sm k)
def t3_P (sm : Int) (N : Int → Int) : Prop := ∀ k, 0 ≤ k → k < 169 → 0 ≤ N k ∧ (sm < k / 13 + k % 13 → N k = 0)
theorem t3_Pad {sm : Int} {N : Int → Int} {z x : Int} (h : t3_P sm N) (hx : 0 ≤ x) (h1 : 0 ≤ z) (h2 : z < 169) (h3 : z / 13 + z % 13 ≤ sm) : t3_P sm (ad N z x) := by
  intro k k1 k2
  have a1 := h k k1 k2
  have a2 := h z h1 h2
  unfold ad
  by_cases e : k = z
  · rw [e, fu_s]; exact ⟨by omega, fun h4 => by omega⟩
  · rw [fu_n _ _ _ e]; exact a1
theorem t3_P6 {sm : Int} (hs : sm ≤ 12) {N : Int → Int} {k x : Int} (h : t3_P sm N) (hx : 0 ≤ x) (hk : 0 ≤ k ∧ k < 169) (hi : ¬ x = 0 → t3_in0 sm k) : t3_P sm (t3_6 N k x) ∧ sq (t3_6 N k x) 0 169 = sq N 0 169 + 6 * x := by
  by_cases e : x = 0
  · rw [e, t3_6z]; exact ⟨h, by omega⟩
  · obtain ⟨i1, i2, i3⟩ := hi e
    unfold t3_6
    refine ⟨t3_Pad (t3_Pad (t3_Pad (t3_Pad (t3_Pad (t3_Pad h hx ?_ ?_ ?_) hx ?_ ?_ ?_) hx ?_ ?_ ?_) hx ?_ ?_ ?_) hx ?_ ?_ ?_) hx ?_ ?_ ?_, ?_⟩
    all_goals first | omega | (rw [sq_ad 169 0 (by omega) (by omega), sq_ad 169 0 (by omega) (by omega), sq_ad 169 0 (by omega) (by omega), sq_ad 169 0 (by omega) (by omega), sq_ad 169 0 (by omega) (by omega), sq_ad 169 0 (by omega) (by omega)]; omega)
theorem t3_in_P {sm : Int} (hs : sm ≤ 12) {T : Int → Int} (hT : t3_ok sm T) : ∀ (c : Nat) (k : Int) (N : Int → Int), 0 ≤ k → k + (c : Int) ≤ 169 → t3_P sm N → t3_P sm (t3_in T c k N) ∧ sq (t3_in T c k N) 0 169 = sq N 0 169 + 6 * sq T k c
  | 0, k, N, h1, h2, h => by rw [t3_in, show sq T k 0 = 0 from rfl]; exact ⟨h, by omega⟩
  | c + 1, k, N, h1, h2, h => by
    have hk := hT k h1 (by omega)
    have h6 := t3_P6 hs h hk.1 ⟨h1, by omega⟩ hk.2
    have ih := t3_in_P hs hT c (k + 1) (t3_6 N k (T k)) (by omega) (by omega) h6.1
    rw [t3_in, show sq T k (c + 1) = T k + sq T (k + 1) c from rfl]
    exact ⟨ih.1, by omega⟩
theorem t3_N_P {sm : Int} (hs : sm ≤ 12) {T : Int → Int} (hT : t3_ok sm T) : t3_P sm (t3_N T) ∧ sq (t3_N T) 0 169 = 6 * sq T 0 169 := by
  have := t3_in_P hs hT 169 0 fz0 (by omega) (by omega) (fun k _ _ => ⟨Int.le_refl 0, fun _ => rfl⟩)
  have z : sq fz0 0 169 = 0 := sq_z 169 0 (fun _ _ _ => rfl)
  unfold t3_N
  exact ⟨this.1, by omega⟩
theorem sq_add2 {f g h : Int → Int} : ∀ (c : Nat) (q : Int), (∀ z, q ≤ z → z < q + (c : Int) → f z + g z ≤ h z) → sq f q c + sq g q c ≤ sq h q c
  | 0, _, _ => by simp [sq]
  | c + 1, q, hh => by
    have h1 := sq_add2 (f := f) (g := g) (h := h) c (q + 1) (fun z z1 z2 => hh z (by omega) (by omega))
    have h2 := hh q (by omega) (by omega)
    rw [sq, sq, sq]
    omega
theorem t3_ok_1 {sm : Int} (hs : sm ≤ 12) {T : Int → Int} (hT : t3_ok sm T) (w : Int) : t3_ok sm (t3_T sm (t3_N T)) ∧ 0 ≤ sq (t3_o sm w (t3_N T)) 0 169 ∧ sq (t3_T sm (t3_N T)) 0 169 + sq (t3_o sm w (t3_N T)) 0 169 ≤ 6 * sq T 0 169 := by
  obtain ⟨hP, hS⟩ := t3_N_P hs hT
  refine ⟨fun k k1 k2 => ?_, sq_nn 169 0 (fun k k1 k2 => ?_), ?_⟩
  · have a := hP k k1 k2
    unfold t3_T
    by_cases e : t3_ov sm k
    · rw [if_pos e]; exact ⟨by omega, fun h => absurd rfl h⟩
    · rw [if_neg e]
      refine ⟨a.1, fun h => ?_⟩
      unfold t3_ov at e
      unfold t3_in0
      refine ⟨by omega, by omega, ?_⟩
      by_cases e2 : sm < k / 13 + k % 13
      · exact absurd (a.2 e2) h
      · omega
  · have a := hP k k1 (by omega)
    unfold t3_o
    split <;> omega
  · rw [← hS]
    refine sq_add2 169 0 (fun k k1 k2 => ?_)
    have a := hP k k1 (by omega)
    unfold t3_T t3_o
    by_cases e : t3_is sm w k
    · rw [if_pos e, if_pos (by unfold t3_is at e; unfold t3_ov; omega)]; omega
    · rw [if_neg e]; split <;> omega
theorem six_le : ∀ {t : Nat}, t ≤ 8 → 0 < (6 : Int) ^ t ∧ (6 : Int) ^ t ≤ 1679616 := by decide
theorem t3_r {sm : Int} {T : Int → Int} {up : Int} {t : Nat} (ht : t ≤ 8) (hT : t3_ok sm T) (hu : 0 ≤ up) (h : sq T 0 169 + up ≤ (6 : Int) ^ t) : (∀ k, 0 ≤ k → k < 169 → 0 ≤ T k ∧ T k ≤ 1679616) ∧ up ≤ 1679616 ∧ 0 ≤ sq T 0 169 := by
  have h6 := six_le ht
  have hn := sq_nn (f := T) 169 0 (fun k k1 k2 => (hT k k1 (by omega)).1)
  refine ⟨fun k k1 k2 => ⟨(hT k k1 k2).1, ?_⟩, by omega, hn⟩
  have := sq_one (f := T) 169 0 k k1 (by omega) (fun k k1 k2 => (hT k k1 (by omega)).1)
  omega
set_option maxHeartbeats 4000000 in
set_option maxRecDepth 100000 in
theorem kX12_gives (G : xg_T) (d : Nat) (n : Nat) (tau : Nat → Nat × Nat) (vi vl : Nat → Int → Int) (vr : Nat → Int → Option Nat) (hO : xo n tau vr) (N : Int → Int) (hN : ag 169 (vl 41) N) (fr bi x : Int) (hk : 0 ≤ fr + bi ∧ fr + bi < 169) : xm G yX12_gives cX12_gives 5 none (d + 1) 0 0 [xa_r 31, xa_i fr, xa_i bi, xa_l x] n tau vi vl vr (xp_v (fun n1 t1 a1 b1 c1 => (ag 169 (b1 41) (ad N (fr + bi) x)) ∧ (a1 = vi) ∧ xs_F (fun k => ¬ k = 41) n tau vi vl vr n1 t1 a1 b1 c1)) := by
  refine xm.of (lv := [(0, xa_r 31), (1, xa_i fr), (2, xa_i bi), (3, xa_l x)]) (by decide) (Nat.le_of_ble_eq_true rfl) rfl (fun K hC hM hRm => ?_)
  refine vx_aload_n hC 0 rfl eX12_gives_0 ?_
  refine vx_gr hC 18 (ot_31 hO) lf_X12_41 rfl (or_31_18 hO) eX12_gives_1 ?_
  refine vx_iload_n hC 1 rfl eX12_gives_4 ?_
  refine vx_iload_n hC 2 rfl eX12_gives_5 ?_
  refine vx_iadd hC eX12_gives_6 ?_
  refine vx_dup2 hC rfl rfl eX12_gives_7 ?_
  refine vx_laload hC (ot_41 hO) (by omega) (by omega) eX12_gives_8 ?_
  refine vx_eql (hN _ (by omega) (by omega)) ?_
  refine vx_lload_n hC 3 rfl eX12_gives_9 ?_
  refine vx_ladd hC eX12_gives_10 ?_
  refine vx_topl (fun x1 hx1 => ?_)
  refine vx_top2 (fun x2 hx2 => ?_)
  refine vx_lastore hC (ot_41 hO) (by omega) (by omega) eX12_gives_11 ?_
  refine vx_vl (fun v3 hv3 => ?_)
  obtain ⟨f4, hf4⟩ : ∃ f, f = fu (vl 41) x2 x1 := ⟨_, rfl⟩
  have hv3_41 : v3 41 = f4 := by rw [hv3, hf4, xu_k]
  have frv3 : ∀ k : Nat, (¬ k = 41) → v3 k = vl k := fun k hk => by rw [hv3, xu_c _ _ _ _ (by omega)]
  exact vx_vret hC hM eX12_gives_12 (⟨rfl, (by rw [hv3_41, hf4, ← ad_eq (show x2 = fr + bi from hx2) (show x1 = N (fr + bi) + x by first | assumption | rfl)]; exact ag_fu hN), rfl, rfl, rfl, rfl, fun k hk => ⟨rfl, frv3 k hk⟩⟩)
set_option maxHeartbeats 4000000 in
set_option maxRecDepth 100000 in
theorem kX12_threesOn (G : xg_T) (d : Nat) (n : Nat) (tau : Nat → Nat × Nat) (vi vl : Nat → Int → Int) (vr : Nat → Int → Option Nat) (hO : xo n tau vr) (T : Int → Int) (hT0 : ag 169 (vl 40) T) (sm : Int) (hsm : 3 ≤ sm ∧ sm ≤ 12) (w : Int) (hw : 0 ≤ w ∧ w ≤ 2) (hok : t3_ok sm T) (hTr : ∀ k, 0 ≤ k → k < 169 → 0 ≤ T k ∧ T k ≤ 1679616) : xm G yX12_threesOn cX12_threesOn 10 (some .long) (d + 2) 0 0 [xa_r 31, xa_i sm, xa_i w] n tau vi vl vr (xp_l (fun z9 n1 t1 a1 b1 c1 => (z9 = sq (t3_o sm w (t3_N T)) 0 169) ∧ (ag 169 (b1 40) (t3_T sm (t3_N T))) ∧ (a1 = vi) ∧ xs_F (fun k => ¬ k = 40 ∧ ¬ k = 41) n tau vi vl vr n1 t1 a1 b1 c1)) := by
  refine xm.of (lv := [(0, xa_r 31), (1, xa_i sm), (2, xa_i w)]) (by decide) (Nat.le_of_ble_eq_true rfl) rfl (fun K hC hM hRm => ?_)
  refine vx_lconst hC 0 (by decide) eX12_threesOn_0 ?_
  refine vx_lstore_n hC (lv1 := [(3, xa_l 0), (0, xa_r 31), (1, xa_i sm), (2, xa_i w)]) (by decide) rfl eX12_threesOn_1 ?_
  refine vx_iconst hC eX12_threesOn_2 ?_
  refine vx_istore hC (lv1 := [(5, xa_i 0), (3, xa_l 0), (0, xa_r 31), (1, xa_i sm), (2, xa_i w)]) (by decide) rfl eX12_threesOn_3 ?_
  have LP5 : ∀ (j : Nat) (kk : Int) (m2 : Nat → Int → Int) (hkk : 0 ≤ kk ∧ kk ≤ 169) (ha : ag kk (m2 41) fz0) (aT : ag 169 (m2 40) T) (fl : ∀ k : Nat, (¬ k = 40 ∧ ¬ k = 41) → m2 k = vl k) (hj : 169 - kk < (j : Int)), xv G K 10 (xk_Q G K (xp_l (fun z9 n1 t1 a1 b1 c1 => (z9 = sq (t3_o sm w (t3_N T)) 0 169) ∧ (ag 169 (b1 40) (t3_T sm (t3_N T))) ∧ (a1 = vi) ∧ xs_F (fun k => ¬ k = 40 ∧ ¬ k = 41) n tau vi vl vr n1 t1 a1 b1 c1)) 0 0) 0 0 n tau vi m2 vr 5 [(5, xa_i kk), (3, xa_l 0), (0, xa_r 31), (1, xa_i sm), (2, xa_i w)] [] := by
    intro j
    induction j with
    | zero => intro kk m2 hkk ha aT fl hj; exfalso; omega
    | succ j ih =>
      intro kk m2 hkk ha aT fl hj
      refine vx_iload hC 0 rfl eX12_threesOn_5 ?_
      refine vx_sipush hC (by decide) eX12_threesOn_7 ?_
      refine vx_icmp_ge hC (tgt := 27) (by omega) (by decide) eX12_threesOn_10 (fun c1 => ?_) (fun c1 => ?_)
      · refine vx_iconst hC eX12_threesOn_27 ?_
        refine vx_istore hC (lv1 := [(5, xa_i 0), (3, xa_l 0), (0, xa_r 31), (1, xa_i sm), (2, xa_i w)]) (by decide) rfl eX12_threesOn_28 ?_
        have LP30 : ∀ (j : Nat) (cq : Nat) (kk : Int) (N : Int → Int) (m2 : Nat → Int → Int) (hkk : kk + (cq : Int) = 169 ∧ 0 ≤ kk) (hin : t3_in T cq kk N = t3_N T) (aN : ag 169 (m2 41) N) (aT : ag 169 (m2 40) T) (fl : ∀ k : Nat, (¬ k = 40 ∧ ¬ k = 41) → m2 k = vl k) (hj : (cq : Int) < (j : Int)), xv G K 10 (xk_Q G K (xp_l (fun z9 n1 t1 a1 b1 c1 => (z9 = sq (t3_o sm w (t3_N T)) 0 169) ∧ (ag 169 (b1 40) (t3_T sm (t3_N T))) ∧ (a1 = vi) ∧ xs_F (fun k => ¬ k = 40 ∧ ¬ k = 41) n tau vi vl vr n1 t1 a1 b1 c1)) 0 0) 0 0 n tau vi m2 vr 30 [(5, xa_i kk), (3, xa_l 0), (0, xa_r 31), (1, xa_i sm), (2, xa_i w)] [] := by
          intro j
          induction j with
          | zero => intro cq kk N m2 hkk hin aN aT fl hj; exfalso; omega
          | succ j ihB =>
            intro cq kk N m2 hkk hin aN aT fl hj
            refine vx_iload hC 0 rfl eX12_threesOn_30 ?_
            refine vx_sipush hC (by decide) eX12_threesOn_32 ?_
            refine vx_icmp_ge hC (tgt := 144) (by omega) (by decide) eX12_threesOn_35 (fun c2 => ?_) (fun c2 => ?_)
            · refine vx_iconst hC eX12_threesOn_144 ?_
              refine vx_istore hC (lv1 := [(5, xa_i 0), (3, xa_l 0), (0, xa_r 31), (1, xa_i sm), (2, xa_i w)]) (by decide) rfl eX12_threesOn_145 ?_
              have LP147 : ∀ (j : Nat) (kk : Int) (ou : Int) (m3 : Nat → Int → Int) (hkk3 : 0 ≤ kk ∧ kk ≤ 169) (hou : ou = sq (t3_o sm w (t3_N T)) 0 kk.toNat) (aN3 : ag 169 (m3 41) (t3_N T)) (aT3 : ag kk (m3 40) (t3_T sm (t3_N T))) (fl3 : ∀ k : Nat, (¬ k = 40 ∧ ¬ k = 41) → m3 k = vl k) (hj : 169 - kk < (j : Int)), xv G K 10 (xk_Q G K (xp_l (fun z9 n1 t1 a1 b1 c1 => (z9 = sq (t3_o sm w (t3_N T)) 0 169) ∧ (ag 169 (b1 40) (t3_T sm (t3_N T))) ∧ (a1 = vi) ∧ xs_F (fun k => ¬ k = 40 ∧ ¬ k = 41) n tau vi vl vr n1 t1 a1 b1 c1)) 0 0) 0 0 n tau vi m3 vr 147 [(5, xa_i kk), (3, xa_l ou), (0, xa_r 31), (1, xa_i sm), (2, xa_i w)] [] := by
                intro j
                induction j with
                | zero => intro kk ou m3 hkk3 hou aN3 aT3 fl3 hj; exfalso; omega
                | succ j ihC =>
                  intro kk ou m3 hkk3 hou aN3 aT3 fl3 hj
                  refine vx_iload hC 0 rfl eX12_threesOn_147 ?_
                  refine vx_sipush hC (by decide) eX12_threesOn_149 ?_
                  refine vx_icmp_ge hC (tgt := 299) (by omega) (by decide) eX12_threesOn_152 (fun c3 => ?_) (fun c3 => ?_)
                  · refine vx_lload_n hC 1 rfl eX12_threesOn_299 ?_
                    exact vx_lret hC hM eX12_threesOn_300 (⟨_, rfl, (by rw [hou, show kk.toNat = 169 by omega]), (by rw [show (169 : Int) = kk by omega]; exact aT3), rfl, rfl, rfl, rfl, fun k hk => ⟨rfl, fl3 k hk⟩⟩)
                  · refine vx_iload hC 0 rfl eX12_threesOn_155 ?_
                    refine vx_bipush hC (by decide) eX12_threesOn_157 ?_
                    refine vx_idiv hC (by omega) eX12_threesOn_159 ?_
                    refine vx_top (fun x4 hx4 => ?_)
                    refine vx_istore hC (lv1 := [(6, xa_i x4), (5, xa_i kk), (3, xa_l ou), (0, xa_r 31), (1, xa_i sm), (2, xa_i w)]) (by decide) rfl eX12_threesOn_160 ?_
                    refine vx_iload hC 1 rfl eX12_threesOn_162 ?_
                    refine vx_bipush hC (by decide) eX12_threesOn_164 ?_
                    refine vx_irem hC (by omega) eX12_threesOn_166 ?_
                    refine vx_top (fun x5 hx5 => ?_)
                    refine vx_istore hC (lv1 := [(7, xa_i x5), (6, xa_i x4), (5, xa_i kk), (3, xa_l ou), (0, xa_r 31), (1, xa_i sm), (2, xa_i w)]) (by decide) rfl eX12_threesOn_167 ?_
                    refine vx_iload hC 1 rfl eX12_threesOn_169 ?_
                    have J193_z6 : ∀ z6 : Int, ((z6 = 1 ∧ (x4 = 0 ∨ x5 = 0 ∨ x4 + x5 = sm)) ∨ (z6 = 0 ∧ ¬ (x4 = 0 ∨ x5 = 0 ∨ x4 + x5 = sm))) → xv G K 10 (xk_Q G K (xp_l (fun z9 n1 t1 a1 b1 c1 => (z9 = sq (t3_o sm w (t3_N T)) 0 169) ∧ (ag 169 (b1 40) (t3_T sm (t3_N T))) ∧ (a1 = vi) ∧ xs_F (fun k => ¬ k = 40 ∧ ¬ k = 41) n tau vi vl vr n1 t1 a1 b1 c1)) 0 0) 0 0 n tau vi m3 vr 193 [(7, xa_i x5), (6, xa_i x4), (5, xa_i kk), (3, xa_l ou), (0, xa_r 31), (1, xa_i sm), (2, xa_i w)] [xa_i z6] := by
                      intro z6 hz6
                      refine vx_istore hC (lv1 := [(8, xa_i z6), (7, xa_i x5), (6, xa_i x4), (5, xa_i kk), (3, xa_l ou), (0, xa_r 31), (1, xa_i sm), (2, xa_i w)]) (by decide) rfl eX12_threesOn_193 ?_
                      refine vx_iload_n hC 7 rfl eX12_threesOn_195 ?_
                      have J244_z7 : ∀ z7 : Int, ((z7 = 1 ∧ t3_is sm w kk) ∨ (z7 = 0 ∧ ¬ t3_is sm w kk)) → xv G K 10 (xk_Q G K (xp_l (fun z9 n1 t1 a1 b1 c1 => (z9 = sq (t3_o sm w (t3_N T)) 0 169) ∧ (ag 169 (b1 40) (t3_T sm (t3_N T))) ∧ (a1 = vi) ∧ xs_F (fun k => ¬ k = 40 ∧ ¬ k = 41) n tau vi vl vr n1 t1 a1 b1 c1)) 0 0) 0 0 n tau vi m3 vr 244 [(8, xa_i z6), (7, xa_i x5), (6, xa_i x4), (5, xa_i kk), (3, xa_l ou), (0, xa_r 31), (1, xa_i sm), (2, xa_i w)] [xa_i z7] := by
                        intro z7 hz7
                        refine vx_istore hC (lv1 := [(9, xa_i z7), (8, xa_i z6), (7, xa_i x5), (6, xa_i x4), (5, xa_i kk), (3, xa_l ou), (0, xa_r 31), (1, xa_i sm), (2, xa_i w)]) (by decide) rfl eX12_threesOn_244 ?_
                        refine vx_lload_n hC 5 rfl eX12_threesOn_246 ?_
                        refine vx_iload hC 1 rfl eX12_threesOn_247 ?_
                        have J268_z8 : ∀ z8 : Int, ((t3_is sm w kk ∧ z8 = t3_N T kk) ∨ (¬ t3_is sm w kk ∧ z8 = 0)) → xv G K 10 (xk_Q G K (xp_l (fun z9 n1 t1 a1 b1 c1 => (z9 = sq (t3_o sm w (t3_N T)) 0 169) ∧ (ag 169 (b1 40) (t3_T sm (t3_N T))) ∧ (a1 = vi) ∧ xs_F (fun k => ¬ k = 40 ∧ ¬ k = 41) n tau vi vl vr n1 t1 a1 b1 c1)) 0 0) 0 0 n tau vi m3 vr 268 [(9, xa_i z7), (8, xa_i z6), (7, xa_i x5), (6, xa_i x4), (5, xa_i kk), (3, xa_l ou), (0, xa_r 31), (1, xa_i sm), (2, xa_i w)] [xa_l z8, xa_l ou] := by
                          intro z8 hz8
                          have hz1 : z8 = t3_o sm w (t3_N T) kk := by unfold t3_o; by_cases e9 : t3_is sm w kk; (rw [if_pos e9]; unfold t3_is at e9; omega); (rw [if_neg e9]; unfold t3_is at e9; omega)
                          refine vx_ladd hC eX12_threesOn_268 ?_
                          refine vx_topl (fun x9 hx9 => ?_)
                          refine vx_lstore_n hC (lv1 := [(3, xa_l x9), (9, xa_i z7), (8, xa_i z6), (7, xa_i x5), (6, xa_i x4), (5, xa_i kk), (0, xa_r 31), (1, xa_i sm), (2, xa_i w)]) (by decide) rfl eX12_threesOn_269 ?_
                          refine vx_aload_n hC 6 rfl eX12_threesOn_270 ?_
                          refine vx_gr hC 17 (ot_31 hO) lf_X12_38 rfl (or_31_17 hO) eX12_threesOn_271 ?_
                          refine vx_iload hC 5 rfl eX12_threesOn_274 ?_
                          refine vx_iload hC 2 rfl eX12_threesOn_276 ?_
                          have J292_z10 : ∀ z10 : Int, ((t3_ov sm kk ∧ z10 = 0) ∨ (¬ t3_ov sm kk ∧ z10 = t3_N T kk)) → xv G K 10 (xk_Q G K (xp_l (fun z9 n1 t1 a1 b1 c1 => (z9 = sq (t3_o sm w (t3_N T)) 0 169) ∧ (ag 169 (b1 40) (t3_T sm (t3_N T))) ∧ (a1 = vi) ∧ xs_F (fun k => ¬ k = 40 ∧ ¬ k = 41) n tau vi vl vr n1 t1 a1 b1 c1)) 0 0) 0 0 n tau vi m3 vr 292 [(3, xa_l x9), (9, xa_i z7), (8, xa_i z6), (7, xa_i x5), (6, xa_i x4), (5, xa_i kk), (0, xa_r 31), (1, xa_i sm), (2, xa_i w)] [xa_l z10, xa_i kk, xa_r 40] := by
                            intro z10 hz10
                            have hz2 : z10 = t3_T sm (t3_N T) kk := by unfold t3_T; by_cases e9 : t3_ov sm kk; (rw [if_pos e9]; unfold t3_ov at e9; omega); (rw [if_neg e9]; unfold t3_ov at e9; omega)
                            refine vx_lastore hC (ot_40 hO) (by omega) (by omega) eX12_threesOn_292 ?_
                            refine vx_vl (fun v11 hv11 => ?_)
                            obtain ⟨f12, hf12⟩ : ∃ f, f = fu (m3 40) kk z10 := ⟨_, rfl⟩
                            have hv11_40 : v11 40 = f12 := by rw [hv11, hf12, xu_k]
                            have hv11_41 : ag 169 (v11 41) ((t3_N T)) := by rw [hv11, xu_c _ _ _ _ (by decide)]; exact aN3
                            have frv11 : ∀ k : Nat, (¬ k = 40 ∧ ¬ k = 41) → v11 k = vl k := fun k hk => by rw [hv11, xu_c _ _ _ _ (by omega)]; exact fl3 k hk
                            refine vx_iinc hC (lv1 := [(5, xa_i (kk + 1)), (3, xa_l x9), (9, xa_i z7), (8, xa_i z6), (7, xa_i x5), (6, xa_i x4), (0, xa_r 31), (1, xa_i sm), (2, xa_i w)]) 5 rfl (by decide) rfl eX12_threesOn_293 ?_
                            refine vx_goto hC (tgt := 147) (by decide) eX12_threesOn_296 ?_
                            refine vx_lv (lv1 := [(5, xa_i (kk + 1)), (3, xa_l x9), (0, xa_r 31), (1, xa_i sm), (2, xa_i w)]) [0, 1, 6, 7, 8] rfl ?_
                            exact ihC (kk + 1) x9 v11 (by omega) (by rw [hx9, hou, hz1, show (kk + 1).toNat = kk.toNat + 1 by omega, sq_last, show (0 : Int) + (kk.toNat : Int) = kk by omega]) hv11_41 (by rw [hv11_40, hf12]; exact ag_step aT3 rfl hz2) frv11 (by omega)
                          refine vx_if_eq hC (tgt := 285) (by omega) (by decide) eX12_threesOn_278 (fun c13 => ?_) (fun c13 => ?_)
                          · refine vx_aload_n hC 6 rfl eX12_threesOn_285 ?_
                            refine vx_gr hC 18 (ot_31 hO) lf_X12_41 rfl (or_31_18 hO) eX12_threesOn_286 ?_
                            refine vx_iload hC 5 rfl eX12_threesOn_289 ?_
                            refine vx_laload hC (ot_41 hO) (by omega) (by omega) eX12_threesOn_291 ?_
                            refine vx_eql (aN3 _ (by omega) (by omega)) ?_
                            exact J292_z10 _ (by unfold t3_ov; omega)
                          · refine vx_lconst hC 0 (by decide) eX12_threesOn_281 ?_
                            refine vx_goto hC (tgt := 292) (by decide) eX12_threesOn_282 ?_
                            exact J292_z10 _ (by unfold t3_ov; omega)
                        refine vx_if_eq hC (tgt := 267) (by omega) (by decide) eX12_threesOn_249 (fun c14 => ?_) (fun c14 => ?_)
                        · refine vx_lconst hC 0 (by decide) eX12_threesOn_267 ?_
                          exact J268_z8 _ (by unfold t3_is at *; omega)
                        · refine vx_iload hC 0 rfl eX12_threesOn_252 ?_
                          refine vx_if_eq hC (tgt := 267) (by omega) (by decide) eX12_threesOn_254 (fun c15 => ?_) (fun c15 => ?_)
                          · refine vx_lconst hC 0 (by decide) eX12_threesOn_267 ?_
                            exact J268_z8 _ (by unfold t3_is at *; omega)
                          · refine vx_aload_n hC 6 rfl eX12_threesOn_257 ?_
                            refine vx_gr hC 18 (ot_31 hO) lf_X12_41 rfl (or_31_18 hO) eX12_threesOn_258 ?_
                            refine vx_iload hC 4 rfl eX12_threesOn_261 ?_
                            refine vx_laload hC (ot_41 hO) (by omega) (by omega) eX12_threesOn_263 ?_
                            refine vx_eql (aN3 _ (by omega) (by omega)) ?_
                            refine vx_goto hC (tgt := 268) (by decide) eX12_threesOn_264 ?_
                            exact J268_z8 _ (by unfold t3_is at *; omega)
                      refine vx_if_ne hC (tgt := 212) (by omega) (by decide) eX12_threesOn_196 (fun c16 => ?_) (fun c16 => ?_)
                      · refine vx_iload_n hC 7 rfl eX12_threesOn_212 ?_
                        refine vx_iconst hC eX12_threesOn_213 ?_
                        refine vx_icmp_ne hC (tgt := 230) (by omega) (by decide) eX12_threesOn_214 (fun c17 => ?_) (fun c17 => ?_)
                        · refine vx_iload hC 2 rfl eX12_threesOn_230 ?_
                          refine vx_iload hC 1 rfl eX12_threesOn_232 ?_
                          refine vx_iadd hC eX12_threesOn_234 ?_
                          refine vx_iload_n hC 6 rfl eX12_threesOn_235 ?_
                          refine vx_icmp_ne hC (tgt := 243) (by omega) (by decide) eX12_threesOn_236 (fun c18 => ?_) (fun c18 => ?_)
                          · refine vx_iconst hC eX12_threesOn_243 ?_
                            exact J244_z7 _ (by unfold t3_is; omega)
                          · refine vx_iconst hC eX12_threesOn_239 ?_
                            refine vx_goto hC (tgt := 244) (by decide) eX12_threesOn_240 ?_
                            exact J244_z7 _ (by unfold t3_is; omega)
                        · refine vx_iload hC 1 rfl eX12_threesOn_217 ?_
                          refine vx_if_ne hC (tgt := 226) (by omega) (by decide) eX12_threesOn_219 (fun c19 => ?_) (fun c19 => ?_)
                          · refine vx_iconst hC eX12_threesOn_226 ?_
                            refine vx_goto hC (tgt := 244) (by decide) eX12_threesOn_227 ?_
                            exact J244_z7 _ (by unfold t3_is; omega)
                          · refine vx_iconst hC eX12_threesOn_222 ?_
                            refine vx_goto hC (tgt := 244) (by decide) eX12_threesOn_223 ?_
                            exact J244_z7 _ (by unfold t3_is; omega)
                      · refine vx_iload hC 2 rfl eX12_threesOn_199 ?_
                        refine vx_if_ne hC (tgt := 208) (by omega) (by decide) eX12_threesOn_201 (fun c20 => ?_) (fun c20 => ?_)
                        · refine vx_iconst hC eX12_threesOn_208 ?_
                          refine vx_goto hC (tgt := 244) (by decide) eX12_threesOn_209 ?_
                          exact J244_z7 _ (by unfold t3_is; omega)
                        · refine vx_iconst hC eX12_threesOn_204 ?_
                          refine vx_goto hC (tgt := 244) (by decide) eX12_threesOn_205 ?_
                          exact J244_z7 _ (by unfold t3_is; omega)
                    refine vx_if_eq hC (tgt := 188) (by omega) (by decide) eX12_threesOn_171 (fun c21 => ?_) (fun c21 => ?_)
                    · refine vx_iconst hC eX12_threesOn_188 ?_
                      refine vx_goto hC (tgt := 193) (by decide) eX12_threesOn_189 ?_
                      exact J193_z6 _ (by omega)
                    · refine vx_iload hC 0 rfl eX12_threesOn_174 ?_
                      refine vx_if_eq hC (tgt := 188) (by omega) (by decide) eX12_threesOn_176 (fun c22 => ?_) (fun c22 => ?_)
                      · refine vx_iconst hC eX12_threesOn_188 ?_
                        refine vx_goto hC (tgt := 193) (by decide) eX12_threesOn_189 ?_
                        exact J193_z6 _ (by omega)
                      · refine vx_iload hC 1 rfl eX12_threesOn_179 ?_
                        refine vx_iload hC 0 rfl eX12_threesOn_181 ?_
                        refine vx_iadd hC eX12_threesOn_183 ?_
                        refine vx_iload_n hC 5 rfl eX12_threesOn_184 ?_
                        refine vx_icmp_ne hC (tgt := 192) (by omega) (by decide) eX12_threesOn_185 (fun c23 => ?_) (fun c23 => ?_)
                        · refine vx_iconst hC eX12_threesOn_192 ?_
                          exact J193_z6 _ (by omega)
                        · refine vx_iconst hC eX12_threesOn_188 ?_
                          refine vx_goto hC (tgt := 193) (by decide) eX12_threesOn_189 ?_
                          exact J193_z6 _ (by omega)
              exact LP147 170 0 0 m2 (by omega) rfl (by have e : N = t3_N T := (by rw [← hin, show cq = 0 by omega, t3_in]); rw [← e]; exact aN) (ag_0 (by omega) _ _) fl (by omega)
            · obtain ⟨cq1, rfl⟩ : ∃ cq1, cq = cq1 + 1 := ⟨cq - 1, by omega⟩
              have hTk := hTr kk (by omega) (by omega)
              have hTo := (hok kk (by omega) (by omega)).2
              refine vx_aload_n hC 2 rfl eX12_threesOn_38 ?_
              refine vx_gr hC 17 (ot_31 hO) lf_X12_38 rfl (or_31_17 hO) eX12_threesOn_39 ?_
              refine vx_iload hC 0 rfl eX12_threesOn_42 ?_
              refine vx_laload hC (ot_40 hO) (by omega) (by omega) eX12_threesOn_44 ?_
              refine vx_eql (aT _ (by omega) (by omega)) ?_
              refine vx_lconst hC 0 (by decide) eX12_threesOn_45 ?_
              refine vx_lcmp hC (by omega) eX12_threesOn_46 ?_
              refine vx_if_le hC (tgt := 138) (by omega) (by decide) eX12_threesOn_47 (fun c24 => ?_) (fun c24 => ?_)
              · refine vx_iinc hC (lv1 := [(5, xa_i (kk + 1)), (3, xa_l 0), (0, xa_r 31), (1, xa_i sm), (2, xa_i w)]) 0 rfl (by decide) rfl eX12_threesOn_138 ?_
                refine vx_goto hC (tgt := 30) (by decide) eX12_threesOn_141 ?_
                exact ihB cq1 (kk + 1) N m2 (by omega) (by rw [← hin, t3_in, show T kk = 0 by omega, t3_6z]) aN aT fl (by omega)
              · obtain ⟨j1, j2, j3⟩ := hTo (by omega)
                refine vx_aload_n hC 2 rfl eX12_threesOn_50 ?_
                refine vx_iload hC 0 rfl eX12_threesOn_51 ?_
                refine vx_bipush hC (by decide) eX12_threesOn_53 ?_
                refine vx_aload_n hC 2 rfl eX12_threesOn_55 ?_
                refine vx_gr hC 17 (ot_31 hO) lf_X12_38 rfl (or_31_17 hO) eX12_threesOn_56 ?_
                refine vx_iload hC 0 rfl eX12_threesOn_59 ?_
                refine vx_laload hC (ot_40 hO) (by omega) (by omega) eX12_threesOn_61 ?_
                refine vx_eql (aT _ (by omega) (by omega)) ?_
                refine vx_callV_v hC (kX12_gives G d _ _ _ _ _ hO _ aN kk (-12) _ (by omega)) ly_X12_204 (ot_31 hO) rfl rfl rfl hRm (by omega) (Nat.le_of_ble_eq_true rfl) rfl eX12_threesOn_62 (fun ng25 tg25 ag25 bg25 cg25 hg25 => ?_)
                obtain ⟨qg25, rfl, rfl, rfl, rfl, frg25⟩ := hg25
                obtain ⟨f26, hf26⟩ : ∃ f, f = ad N (kk + (-12)) (T kk) := ⟨_, rfl⟩
                rw [← hf26] at qg25
                have hg25_40 : ag 169 (bg25 40) (T) := by rw [(frg25 40 (by omega)).2]; exact aT
                have frlg25 : ∀ k : Nat, (¬ k = 40 ∧ ¬ k = 41) → bg25 k = vl k := fun k hk => ((frg25 k (by omega)).2).trans (fl k hk)
                refine vx_aload_n hC 2 rfl eX12_threesOn_65 ?_
                refine vx_iload hC 0 rfl eX12_threesOn_66 ?_
                refine vx_bipush hC (by decide) eX12_threesOn_68 ?_
                refine vx_aload_n hC 2 rfl eX12_threesOn_70 ?_
                refine vx_gr hC 17 (ot_31 hO) lf_X12_38 rfl (or_31_17 hO) eX12_threesOn_71 ?_
                refine vx_iload hC 0 rfl eX12_threesOn_74 ?_
                refine vx_laload hC (ot_40 hO) (by omega) (by omega) eX12_threesOn_76 ?_
                refine vx_eql (hg25_40 _ (by omega) (by omega)) ?_
                refine vx_callV_v hC (kX12_gives G d _ _ _ _ _ hO _ qg25 kk (-13) _ (by omega)) ly_X12_204 (ot_31 hO) rfl rfl rfl hRm (by omega) (Nat.le_of_ble_eq_true rfl) rfl eX12_threesOn_77 (fun ng27 tg27 ag27 bg27 cg27 hg27 => ?_)
                obtain ⟨qg27, rfl, rfl, rfl, rfl, frg27⟩ := hg27
                obtain ⟨f28, hf28⟩ : ∃ f, f = ad f26 (kk + (-13)) (T kk) := ⟨_, rfl⟩
                rw [← hf28] at qg27
                have hg27_40 : ag 169 (bg27 40) (T) := by rw [(frg27 40 (by omega)).2]; exact hg25_40
                have frlg27 : ∀ k : Nat, (¬ k = 40 ∧ ¬ k = 41) → bg27 k = vl k := fun k hk => ((frg27 k (by omega)).2).trans (frlg25 k hk)
                refine vx_aload_n hC 2 rfl eX12_threesOn_80 ?_
                refine vx_iload hC 0 rfl eX12_threesOn_81 ?_
                refine vx_bipush hC (by decide) eX12_threesOn_83 ?_
                refine vx_aload_n hC 2 rfl eX12_threesOn_85 ?_
                refine vx_gr hC 17 (ot_31 hO) lf_X12_38 rfl (or_31_17 hO) eX12_threesOn_86 ?_
                refine vx_iload hC 0 rfl eX12_threesOn_89 ?_
                refine vx_laload hC (ot_40 hO) (by omega) (by omega) eX12_threesOn_91 ?_
                refine vx_eql (hg27_40 _ (by omega) (by omega)) ?_
                refine vx_callV_v hC (kX12_gives G d _ _ _ _ _ hO _ qg27 kk 12 _ (by omega)) ly_X12_204 (ot_31 hO) rfl rfl rfl hRm (by omega) (Nat.le_of_ble_eq_true rfl) rfl eX12_threesOn_92 (fun ng29 tg29 ag29 bg29 cg29 hg29 => ?_)
                obtain ⟨qg29, rfl, rfl, rfl, rfl, frg29⟩ := hg29
                obtain ⟨f30, hf30⟩ : ∃ f, f = ad f28 (kk + 12) (T kk) := ⟨_, rfl⟩
                rw [← hf30] at qg29
                have hg29_40 : ag 169 (bg29 40) (T) := by rw [(frg29 40 (by omega)).2]; exact hg27_40
                have frlg29 : ∀ k : Nat, (¬ k = 40 ∧ ¬ k = 41) → bg29 k = vl k := fun k hk => ((frg29 k (by omega)).2).trans (frlg27 k hk)
                refine vx_aload_n hC 2 rfl eX12_threesOn_95 ?_
                refine vx_iload hC 0 rfl eX12_threesOn_96 ?_
                refine vx_iconst hC eX12_threesOn_98 ?_
                refine vx_aload_n hC 2 rfl eX12_threesOn_99 ?_
                refine vx_gr hC 17 (ot_31 hO) lf_X12_38 rfl (or_31_17 hO) eX12_threesOn_100 ?_
                refine vx_iload hC 0 rfl eX12_threesOn_103 ?_
                refine vx_laload hC (ot_40 hO) (by omega) (by omega) eX12_threesOn_105 ?_
                refine vx_eql (hg29_40 _ (by omega) (by omega)) ?_
                refine vx_callV_v hC (kX12_gives G d _ _ _ _ _ hO _ qg29 kk (-1) _ (by omega)) ly_X12_204 (ot_31 hO) rfl rfl rfl hRm (by omega) (Nat.le_of_ble_eq_true rfl) rfl eX12_threesOn_106 (fun ng31 tg31 ag31 bg31 cg31 hg31 => ?_)
                obtain ⟨qg31, rfl, rfl, rfl, rfl, frg31⟩ := hg31
                obtain ⟨f32, hf32⟩ : ∃ f, f = ad f30 (kk + (-1)) (T kk) := ⟨_, rfl⟩
                rw [← hf32] at qg31
                have hg31_40 : ag 169 (bg31 40) (T) := by rw [(frg31 40 (by omega)).2]; exact hg29_40
                have frlg31 : ∀ k : Nat, (¬ k = 40 ∧ ¬ k = 41) → bg31 k = vl k := fun k hk => ((frg31 k (by omega)).2).trans (frlg29 k hk)
                refine vx_aload_n hC 2 rfl eX12_threesOn_109 ?_
                refine vx_iload hC 0 rfl eX12_threesOn_110 ?_
                refine vx_bipush hC (by decide) eX12_threesOn_112 ?_
                refine vx_aload_n hC 2 rfl eX12_threesOn_114 ?_
                refine vx_gr hC 17 (ot_31 hO) lf_X12_38 rfl (or_31_17 hO) eX12_threesOn_115 ?_
                refine vx_iload hC 0 rfl eX12_threesOn_118 ?_
                refine vx_laload hC (ot_40 hO) (by omega) (by omega) eX12_threesOn_120 ?_
                refine vx_eql (hg31_40 _ (by omega) (by omega)) ?_
                refine vx_callV_v hC (kX12_gives G d _ _ _ _ _ hO _ qg31 kk 13 _ (by omega)) ly_X12_204 (ot_31 hO) rfl rfl rfl hRm (by omega) (Nat.le_of_ble_eq_true rfl) rfl eX12_threesOn_121 (fun ng33 tg33 ag33 bg33 cg33 hg33 => ?_)
                obtain ⟨qg33, rfl, rfl, rfl, rfl, frg33⟩ := hg33
                obtain ⟨f34, hf34⟩ : ∃ f, f = ad f32 (kk + 13) (T kk) := ⟨_, rfl⟩
                rw [← hf34] at qg33
                have hg33_40 : ag 169 (bg33 40) (T) := by rw [(frg33 40 (by omega)).2]; exact hg31_40
                have frlg33 : ∀ k : Nat, (¬ k = 40 ∧ ¬ k = 41) → bg33 k = vl k := fun k hk => ((frg33 k (by omega)).2).trans (frlg31 k hk)
                refine vx_aload_n hC 2 rfl eX12_threesOn_124 ?_
                refine vx_iload hC 0 rfl eX12_threesOn_125 ?_
                refine vx_iconst hC eX12_threesOn_127 ?_
                refine vx_aload_n hC 2 rfl eX12_threesOn_128 ?_
                refine vx_gr hC 17 (ot_31 hO) lf_X12_38 rfl (or_31_17 hO) eX12_threesOn_129 ?_
                refine vx_iload hC 0 rfl eX12_threesOn_132 ?_
                refine vx_laload hC (ot_40 hO) (by omega) (by omega) eX12_threesOn_134 ?_
                refine vx_eql (hg33_40 _ (by omega) (by omega)) ?_
                refine vx_callV_v hC (kX12_gives G d _ _ _ _ _ hO _ qg33 kk 1 _ (by omega)) ly_X12_204 (ot_31 hO) rfl rfl rfl hRm (by omega) (Nat.le_of_ble_eq_true rfl) rfl eX12_threesOn_135 (fun ng35 tg35 ag35 bg35 cg35 hg35 => ?_)
                obtain ⟨qg35, rfl, rfl, rfl, rfl, frg35⟩ := hg35
                obtain ⟨f36, hf36⟩ : ∃ f, f = ad f34 (kk + 1) (T kk) := ⟨_, rfl⟩
                rw [← hf36] at qg35
                have hg35_40 : ag 169 (bg35 40) (T) := by rw [(frg35 40 (by omega)).2]; exact hg33_40
                have frlg35 : ∀ k : Nat, (¬ k = 40 ∧ ¬ k = 41) → bg35 k = vl k := fun k hk => ((frg35 k (by omega)).2).trans (frlg33 k hk)
                refine vx_iinc hC (lv1 := [(5, xa_i (kk + 1)), (3, xa_l 0), (0, xa_r 31), (1, xa_i sm), (2, xa_i w)]) 0 rfl (by decide) rfl eX12_threesOn_138 ?_
                refine vx_goto hC (tgt := 30) (by decide) eX12_threesOn_141 ?_
                exact ihB cq1 (kk + 1) f36 bg35 (by omega) (by rw [← hin, t3_in]; unfold t3_6; rw [← hf26, ← hf28, ← hf30, ← hf32, ← hf34, ← hf36]) qg35 hg35_40 frlg35 (by omega)
        exact LP30 170 169 0 fz0 m2 (by omega) rfl (by rw [show (169 : Int) = kk by omega]; exact ha) aT fl (by omega)
      · refine vx_aload_n hC 2 rfl eX12_threesOn_13 ?_
        refine vx_gr hC 18 (ot_31 hO) lf_X12_41 rfl (or_31_18 hO) eX12_threesOn_14 ?_
        refine vx_iload hC 0 rfl eX12_threesOn_17 ?_
        refine vx_lconst hC 0 (by decide) eX12_threesOn_19 ?_
        refine vx_lastore hC (ot_41 hO) (by omega) (by omega) eX12_threesOn_20 ?_
        refine vx_vl (fun v37 hv37 => ?_)
        have hv37_40 : ag 169 (v37 40) (T) := by rw [hv37, xu_c _ _ _ _ (by decide)]; exact aT
        obtain ⟨f38, hf38⟩ : ∃ f, f = fu (m2 41) kk 0 := ⟨_, rfl⟩
        have hv37_41 : v37 41 = f38 := by rw [hv37, hf38, xu_k]
        have frv37 : ∀ k : Nat, (¬ k = 40 ∧ ¬ k = 41) → v37 k = vl k := fun k hk => by rw [hv37, xu_c _ _ _ _ (by omega)]; exact fl k hk
        refine vx_iinc hC (lv1 := [(5, xa_i (kk + 1)), (3, xa_l 0), (0, xa_r 31), (1, xa_i sm), (2, xa_i w)]) 0 rfl (by decide) rfl eX12_threesOn_21 ?_
        refine vx_goto hC (tgt := 5) (by decide) eX12_threesOn_24 ?_
        exact ih (kk + 1) v37 (by omega) (by rw [hv37_41, hf38]; exact ag_step ha rfl rfl) hv37_40 frv37 (by omega)
  exact LP5 170 0 vl (by omega) (ag_0 (by omega) _ _) hT0 (fun _ _ => rfl) (by omega)
def t3_0 (x : Int) : Int → Int := fun k => if k = x / 100 * 13 + x / 10 % 10 then 1 else 0
def t3_S (x : Int) : Int := x / 100 + x / 10 % 10 + x % 10
def t3_good (x n w pt : Int) : Prop := (111 ≤ x ∧ x ≤ 444) ∧ (1 ≤ x / 10 % 10 ∧ x / 10 % 10 ≤ 4) ∧ (1 ≤ x % 10 ∧ x % 10 ≤ 4) ∧ (0 ≤ n ∧ n ≤ 8) ∧ (0 ≤ w ∧ w ≤ 2) ∧ 0 ≤ pt ∧ pt ≤ 1
def sp_trio (x n w pt : Int) : Int := if (111 ≤ x ∧ x ≤ 444) ∧ (1 ≤ x / 10 % 10 ∧ x / 10 % 10 ≤ 4) ∧ (1 ≤ x % 10 ∧ x % 10 ≤ 4) ∧ (0 ≤ n ∧ n ≤ 8) ∧ (0 ≤ w ∧ w ≤ 2) ∧ 0 ≤ pt ∧ pt ≤ 1 then mz_low (t3_n (t3_S x) w n.toNat (t3_0 x) 0) ((6 : Int) ^ n.toNat) pt else mNO
theorem t3_ok0 {x : Int} (h1 : 1 ≤ x / 100 ∧ x / 100 ≤ 4) (h2 : 1 ≤ x / 10 % 10 ∧ x / 10 % 10 ≤ 4) (h3 : 1 ≤ x % 10 ∧ x % 10 ≤ 4) : t3_ok (t3_S x) (t3_0 x) ∧ sq (t3_0 x) 0 169 + 0 ≤ (6 : Int) ^ 0 := by
  constructor
  · intro k k1 k2
    unfold t3_0 t3_in0 t3_S
    by_cases e : k = x / 100 * 13 + x / 10 % 10
    · rw [if_pos e]; exact ⟨by omega, fun _ => by omega⟩
    · rw [if_neg e]; exact ⟨by omega, fun h => absurd rfl h⟩
  · have := sq_ind (h := fun _ => 1) (u := x / 100 * 13 + x / 10 % 10) 169 0 (by omega) (by omega)
    have e : sq (t3_0 x) 0 169 = sq (fun z => (if z = x / 100 * 13 + x / 10 % 10 then 1 else 0) * 1) 0 169 := sq_congr 169 0 (fun z _ _ => by unfold t3_0; rw [Int.mul_one])
    rw [e, this]
    decide
set_option maxHeartbeats 4000000 in
set_option maxRecDepth 100000 in
theorem kX12_trio (G : xg_T) (d : Nat) (n : Nat) (tau : Nat → Nat × Nat) (vi vl : Nat → Int → Int) (vr : Nat → Int → Option Nat) (hI : MI n tau vi vr) (x m w pt : Int) (hx : -2147483648 ≤ x ∧ x < 2147483648) (hm : -2147483648 ≤ m ∧ m < 2147483648) (hw : -2147483648 ≤ w ∧ w < 2147483648) (hpt : -2147483648 ≤ pt ∧ pt < 2147483648) : xm G yX12_trio cX12_trio 10 (some .long) (d + 3) 0 0 [xa_r 31, xa_i x, xa_i m, xa_i w, xa_i pt] n tau vi vl vr (xp_l (fun z9 n1 t1 a1 b1 c1 => z9 = sp_trio x m w pt ∧ mq (vi 32) (vi 33) (vi 31 3) (vi 31 22) (vi 44) n tau vi vl vr n1 t1 a1 b1 c1)) := by
  refine xm.of (lv := [(0, xa_r 31), (1, xa_i x), (2, xa_i m), (3, xa_i w), (4, xa_i pt)]) (by decide) (Nat.le_of_ble_eq_true rfl) rfl (fun K hC hM hRm => ?_)
  obtain ⟨hO, ⟨⟨hr, h0, h1, h2, h3, h4, h5, h6, hp0, hrow, hwon, htape, htab⟩, h60⟩, him, hran, hz1, hz2⟩ := hI
  refine vx_iload_n hC 1 rfl eX12_trio_0 ?_
  refine vx_bipush hC (by decide) eX12_trio_1 ?_
  refine vx_sipush hC (by decide) eX12_trio_3 ?_
  refine vx_callS_i hC (kX12_in G (d + 1) _ _ _ _ _ _ _ _ (by omega) (by omega) (by omega)) ly_X12_57 rfl hRm (by omega) (Nat.le_of_ble_eq_true rfl) rfl eX12_trio_6 (fun x1 n9 t9 a9 b9 c9 hx1 => ?_)
  obtain ⟨hx1, rfl, rfl, rfl, rfl, rfl⟩ := hx1
  refine vx_if_eq hC (tgt := 68) (by omega) (by decide) eX12_trio_9 (fun c2 => ?_) (fun c2 => ?_)
  · refine vx_ldc2 hC (-9223372036854775808) wd_1167 eX12_trio_68 ?_
    exact vx_lret hC hM eX12_trio_71 (⟨_, rfl, by unfold sp_trio; first | (rw [if_pos (by omega)]; simp only []; rw [← hres, show cq = 0 by omega, t3_n, hal, show tt = m.toNat by omega]; done) | (rw [if_neg (by omega)]; rfl), rfl, rfl, rfl, rfl, rfl, rfl, rfl, rfl, fun k hk => ⟨rfl, rfl⟩⟩)
  · refine vx_iload_n hC 1 rfl eX12_trio_12 ?_
    refine vx_bipush hC (by decide) eX12_trio_13 ?_
    refine vx_idiv hC (by omega) eX12_trio_15 ?_
    refine vx_bipush hC (by decide) eX12_trio_16 ?_
    refine vx_irem hC (by omega) eX12_trio_18 ?_
    refine vx_iconst hC eX12_trio_19 ?_
    refine vx_iconst hC eX12_trio_20 ?_
    refine vx_callS_i hC (kX12_in G (d + 1) _ _ _ _ _ _ _ _ (by omega) (by omega) (by omega)) ly_X12_57 rfl hRm (by omega) (Nat.le_of_ble_eq_true rfl) rfl eX12_trio_21 (fun x3 n9 t9 a9 b9 c9 hx3 => ?_)
    obtain ⟨hx3, rfl, rfl, rfl, rfl, rfl⟩ := hx3
    refine vx_if_eq hC (tgt := 68) (by omega) (by decide) eX12_trio_24 (fun c4 => ?_) (fun c4 => ?_)
    · refine vx_ldc2 hC (-9223372036854775808) wd_1167 eX12_trio_68 ?_
      exact vx_lret hC hM eX12_trio_71 (⟨_, rfl, by unfold sp_trio; first | (rw [if_pos (by omega)]; simp only []; rw [← hres, show cq = 0 by omega, t3_n, hal, show tt = m.toNat by omega]; done) | (rw [if_neg (by omega)]; rfl), rfl, rfl, rfl, rfl, rfl, rfl, rfl, rfl, fun k hk => ⟨rfl, rfl⟩⟩)
    · refine vx_iload_n hC 1 rfl eX12_trio_27 ?_
      refine vx_bipush hC (by decide) eX12_trio_28 ?_
      refine vx_irem hC (by omega) eX12_trio_30 ?_
      refine vx_iconst hC eX12_trio_31 ?_
      refine vx_iconst hC eX12_trio_32 ?_
      refine vx_callS_i hC (kX12_in G (d + 1) _ _ _ _ _ _ _ _ (by omega) (by omega) (by omega)) ly_X12_57 rfl hRm (by omega) (Nat.le_of_ble_eq_true rfl) rfl eX12_trio_33 (fun x5 n9 t9 a9 b9 c9 hx5 => ?_)
      obtain ⟨hx5, rfl, rfl, rfl, rfl, rfl⟩ := hx5
      refine vx_if_eq hC (tgt := 68) (by omega) (by decide) eX12_trio_36 (fun c6 => ?_) (fun c6 => ?_)
      · refine vx_ldc2 hC (-9223372036854775808) wd_1167 eX12_trio_68 ?_
        exact vx_lret hC hM eX12_trio_71 (⟨_, rfl, by unfold sp_trio; first | (rw [if_pos (by omega)]; simp only []; rw [← hres, show cq = 0 by omega, t3_n, hal, show tt = m.toNat by omega]; done) | (rw [if_neg (by omega)]; rfl), rfl, rfl, rfl, rfl, rfl, rfl, rfl, rfl, fun k hk => ⟨rfl, rfl⟩⟩)
      · refine vx_iload_n hC 2 rfl eX12_trio_39 ?_
        refine vx_iconst hC eX12_trio_40 ?_
        refine vx_bipush hC (by decide) eX12_trio_41 ?_
        refine vx_callS_i hC (kX12_in G (d + 1) _ _ _ _ _ _ _ _ (by omega) (by omega) (by omega)) ly_X12_57 rfl hRm (by omega) (Nat.le_of_ble_eq_true rfl) rfl eX12_trio_43 (fun x7 n9 t9 a9 b9 c9 hx7 => ?_)
        obtain ⟨hx7, rfl, rfl, rfl, rfl, rfl⟩ := hx7
        refine vx_if_eq hC (tgt := 68) (by omega) (by decide) eX12_trio_46 (fun c8 => ?_) (fun c8 => ?_)
        · refine vx_ldc2 hC (-9223372036854775808) wd_1167 eX12_trio_68 ?_
          exact vx_lret hC hM eX12_trio_71 (⟨_, rfl, by unfold sp_trio; first | (rw [if_pos (by omega)]; simp only []; rw [← hres, show cq = 0 by omega, t3_n, hal, show tt = m.toNat by omega]; done) | (rw [if_neg (by omega)]; rfl), rfl, rfl, rfl, rfl, rfl, rfl, rfl, rfl, fun k hk => ⟨rfl, rfl⟩⟩)
        · refine vx_iload_n hC 3 rfl eX12_trio_49 ?_
          refine vx_iconst hC eX12_trio_50 ?_
          refine vx_iconst hC eX12_trio_51 ?_
          refine vx_callS_i hC (kX12_in G (d + 1) _ _ _ _ _ _ _ _ (by omega) (by omega) (by omega)) ly_X12_57 rfl hRm (by omega) (Nat.le_of_ble_eq_true rfl) rfl eX12_trio_52 (fun x9 n9 t9 a9 b9 c9 hx9 => ?_)
          obtain ⟨hx9, rfl, rfl, rfl, rfl, rfl⟩ := hx9
          refine vx_if_eq hC (tgt := 68) (by omega) (by decide) eX12_trio_55 (fun c10 => ?_) (fun c10 => ?_)
          · refine vx_ldc2 hC (-9223372036854775808) wd_1167 eX12_trio_68 ?_
            exact vx_lret hC hM eX12_trio_71 (⟨_, rfl, by unfold sp_trio; first | (rw [if_pos (by omega)]; simp only []; rw [← hres, show cq = 0 by omega, t3_n, hal, show tt = m.toNat by omega]; done) | (rw [if_neg (by omega)]; rfl), rfl, rfl, rfl, rfl, rfl, rfl, rfl, rfl, fun k hk => ⟨rfl, rfl⟩⟩)
          · refine vx_iload hC 4 rfl eX12_trio_58 ?_
            refine vx_iconst hC eX12_trio_60 ?_
            refine vx_iconst hC eX12_trio_61 ?_
            refine vx_callS_i hC (kX12_in G (d + 1) _ _ _ _ _ _ _ _ (by omega) (by omega) (by omega)) ly_X12_57 rfl hRm (by omega) (Nat.le_of_ble_eq_true rfl) rfl eX12_trio_62 (fun x11 n9 t9 a9 b9 c9 hx11 => ?_)
            obtain ⟨hx11, rfl, rfl, rfl, rfl, rfl⟩ := hx11
            refine vx_if_ne hC (tgt := 72) (by omega) (by decide) eX12_trio_65 (fun c12 => ?_) (fun c12 => ?_)
            · have hk0 := t3_ok0 (x := x) (by omega) (by omega) (by omega)
              refine vx_iconst hC eX12_trio_72 ?_
              refine vx_istore hC (lv1 := [(5, xa_i 0), (0, xa_r 31), (1, xa_i x), (2, xa_i m), (3, xa_i w), (4, xa_i pt)]) (by decide) rfl eX12_trio_73 ?_
              have LP75 : ∀ (j : Nat) (kk : Int) (m2 : Nat → Int → Int) (hkk : 0 ≤ kk ∧ kk ≤ 169) (ha : ag kk (m2 40) (t3_0 x)) (fol : ∀ k : Nat, (k < 31 ∨ 44 < k) → m2 k = vl k) (hj : 169 - kk < (j : Int)), xv G K 10 (xk_Q G K (xp_l (fun z9 n1 t1 a1 b1 c1 => z9 = sp_trio x m w pt ∧ mq (vi 32) (vi 33) (vi 31 3) (vi 31 22) (vi 44) n tau vi vl vr n1 t1 a1 b1 c1)) 0 0) 0 0 n tau vi m2 vr 75 [(5, xa_i kk), (0, xa_r 31), (1, xa_i x), (2, xa_i m), (3, xa_i w), (4, xa_i pt)] [] := by
                intro j
                induction j with
                | zero => intro kk m2 hkk ha fol hj; exfalso; omega
                | succ j ih =>
                  intro kk m2 hkk ha fol hj
                  refine vx_iload hC 0 rfl eX12_trio_75 ?_
                  refine vx_sipush hC (by decide) eX12_trio_77 ?_
                  refine vx_icmp_ge hC (tgt := 121) (by omega) (by decide) eX12_trio_80 (fun c13 => ?_) (fun c13 => ?_)
                  · refine vx_lconst hC 0 (by decide) eX12_trio_121 ?_
                    refine vx_lstore hC (lv1 := [(5, xa_l 0), (0, xa_r 31), (1, xa_i x), (2, xa_i m), (3, xa_i w), (4, xa_i pt)]) (by decide) rfl eX12_trio_122 ?_
                    refine vx_lconst hC 1 (by decide) eX12_trio_124 ?_
                    refine vx_lstore hC (lv1 := [(7, xa_l 1), (5, xa_l 0), (0, xa_r 31), (1, xa_i x), (2, xa_i m), (3, xa_i w), (4, xa_i pt)]) (by decide) rfl eX12_trio_125 ?_
                    refine vx_iconst hC eX12_trio_127 ?_
                    refine vx_istore hC (lv1 := [(9, xa_i 0), (7, xa_l 1), (5, xa_l 0), (0, xa_r 31), (1, xa_i x), (2, xa_i m), (3, xa_i w), (4, xa_i pt)]) (by decide) rfl eX12_trio_128 ?_
                    have LP130 : ∀ (j : Nat) (cq : Nat) (tt : Nat) (T : Int → Int) (up : Int) (al : Int) (m3 : Nat → Int → Int) (hcq : (tt : Int) + (cq : Int) = m) (hres : t3_n (t3_S x) w cq T up = t3_n (t3_S x) w m.toNat (t3_0 x) 0) (hok : t3_ok (t3_S x) T) (hup : 0 ≤ up ∧ sq T 0 169 + up ≤ (6 : Int) ^ tt) (hal : al = (6 : Int) ^ tt) (aT : ag 169 (m3 40) T) (fol3 : ∀ k : Nat, (k < 31 ∨ 44 < k) → m3 k = vl k) (hj : (cq : Int) < (j : Int)), xv G K 10 (xk_Q G K (xp_l (fun z9 n1 t1 a1 b1 c1 => z9 = sp_trio x m w pt ∧ mq (vi 32) (vi 33) (vi 31 3) (vi 31 22) (vi 44) n tau vi vl vr n1 t1 a1 b1 c1)) 0 0) 0 0 n tau vi m3 vr 130 [(9, xa_i (tt : Int)), (7, xa_l al), (5, xa_l up), (0, xa_r 31), (1, xa_i x), (2, xa_i m), (3, xa_i w), (4, xa_i pt)] [] := by
                      intro j
                      induction j with
                      | zero => intro cq tt T up al m3 hcq hres hok hup hal aT fol3 hj; exfalso; omega
                      | succ j ihB =>
                        intro cq tt T up al m3 hcq hres hok hup hal aT fol3 hj
                        refine vx_iload hC 0 rfl eX12_trio_130 ?_
                        refine vx_iload_n hC 5 rfl eX12_trio_132 ?_
                        refine vx_icmp_ge hC (tgt := 181) (by omega) (by decide) eX12_trio_133 (fun c14 => ?_) (fun c14 => ?_)
                        · have hTr := t3_r (by omega) hok hup.1 hup.2
                          have h69 := six_le (t := tt) (by omega)
                          refine vx_lload hC 2 rfl eX12_trio_181 ?_
                          refine vx_lload hC 1 rfl eX12_trio_183 ?_
                          refine vx_iload hC 7 rfl eX12_trio_185 ?_
                          refine vx_callS_l hC (kX12_lowest G (d + 1) _ _ _ _ _ _ _ _ (by omega) (by omega) (by omega)) ly_X12_187 rfl hRm (by omega) (Nat.le_of_ble_eq_true rfl) rfl eX12_trio_187 (fun x15 n9 t9 a9 b9 c9 hx15 => ?_)
                          obtain ⟨hx15, rfl, rfl, rfl, rfl, rfl⟩ := hx15
                          exact vx_lret hC hM eX12_trio_190 (⟨_, rfl, by unfold sp_trio; first | (rw [if_pos (by omega)]; simp only [hx15]; rw [← hres, show cq = 0 by omega, t3_n, hal, show tt = m.toNat by omega]; done) | (rw [if_neg (by omega)]; rfl), rfl, rfl, rfl, rfl, rfl, rfl, rfl, rfl, fun k hk => ⟨rfl, fol3 k hk⟩⟩)
                        · obtain ⟨cq1, rfl⟩ : ∃ cq1, cq = cq1 + 1 := ⟨cq - 1, by omega⟩
                          have hS3 : 3 ≤ t3_S x ∧ t3_S x ≤ 12 := by unfold t3_S; omega
                          have hTr := t3_r (by omega) hok hup.1 hup.2
                          have hk1 := t3_ok_1 hS3.2 hok w
                          refine vx_ldc2 hC (6) wd_1220 eX12_trio_136 ?_
                          refine vx_lload hC 2 rfl eX12_trio_139 ?_
                          refine vx_lmul hC eX12_trio_141 ?_
                          refine vx_aload_n hC 3 rfl eX12_trio_142 ?_
                          refine vx_iload_n hC 4 rfl eX12_trio_143 ?_
                          refine vx_bipush hC (by decide) eX12_trio_144 ?_
                          refine vx_idiv hC (by omega) eX12_trio_146 ?_
                          refine vx_iload_n hC 4 rfl eX12_trio_147 ?_
                          refine vx_bipush hC (by decide) eX12_trio_148 ?_
                          refine vx_idiv hC (by omega) eX12_trio_150 ?_
                          refine vx_bipush hC (by decide) eX12_trio_151 ?_
                          refine vx_irem hC (by omega) eX12_trio_153 ?_
                          refine vx_iadd hC eX12_trio_154 ?_
                          refine vx_iload_n hC 4 rfl eX12_trio_155 ?_
                          refine vx_bipush hC (by decide) eX12_trio_156 ?_
                          refine vx_irem hC (by omega) eX12_trio_158 ?_
                          refine vx_iadd hC eX12_trio_159 ?_
                          refine vx_iload_n hC 6 rfl eX12_trio_160 ?_
                          refine vx_callV_l hC (kX12_threesOn G d _ _ _ _ _ hO T aT (t3_S x) (by omega) w (by omega) hok hTr.1) ly_X12_210 (ot_31 hO) rfl rfl rfl hRm (by omega) (Nat.le_of_ble_eq_true rfl) rfl eX12_trio_161 (fun x17 ng16 tg16 ag16 bg16 cg16 hg16 => ?_)
                          obtain ⟨hx9, qg16, rfl, rfl, rfl, rfl, frg16⟩ := hg16
                          have frlg16 : ∀ k : Nat, (k < 31 ∨ 44 < k) → bg16 k = vl k := fun k hk => ((frg16 k (by omega)).2).trans (fol3 k hk)
                          refine vx_ladd hC eX12_trio_164 ?_
                          refine vx_topl (fun x18 hx18 => ?_)
                          refine vx_lstore hC (lv1 := [(5, xa_l x18), (9, xa_i (tt : Int)), (7, xa_l al), (0, xa_r 31), (1, xa_i x), (2, xa_i m), (3, xa_i w), (4, xa_i pt)]) (by decide) rfl eX12_trio_165 ?_
                          refine vx_lload hC 2 rfl eX12_trio_167 ?_
                          refine vx_ldc2 hC (6) wd_1220 eX12_trio_169 ?_
                          refine vx_lmul hC eX12_trio_172 ?_
                          refine vx_topl (fun x19 hx19 => ?_)
                          refine vx_lstore hC (lv1 := [(7, xa_l x19), (5, xa_l x18), (9, xa_i (tt : Int)), (0, xa_r 31), (1, xa_i x), (2, xa_i m), (3, xa_i w), (4, xa_i pt)]) (by decide) rfl eX12_trio_173 ?_
                          refine vx_iinc hC (lv1 := [(9, xa_i ((tt : Int) + 1)), (7, xa_l x19), (5, xa_l x18), (0, xa_r 31), (1, xa_i x), (2, xa_i m), (3, xa_i w), (4, xa_i pt)]) 2 rfl (by decide) rfl eX12_trio_175 ?_
                          refine vx_goto hC (tgt := 130) (by decide) eX12_trio_178 ?_
                          exact ihB cq1 (tt + 1) (t3_T (t3_S x) (t3_N T)) x18 x19 bg16 (by omega) (by rw [← hres, t3_n, hx18, hx9]) hk1.1 (by rw [hx18, Int.pow_succ, hx9]; omega) (by rw [hx19, hal, Int.pow_succ]) qg16 frlg16 (by omega)
                    exact LP130 9 m.toNat 0 (t3_0 x) 0 1 m2 (by omega) rfl hk0.1 ⟨by omega, hk0.2⟩ rfl (by rw [show (169 : Int) = kk by omega]; exact ha) fol (by omega)
                  · refine vx_aload_n hC 1 rfl eX12_trio_83 ?_
                    refine vx_gr hC 17 (ot_31 hO) lf_X12_38 rfl (or_31_17 hO) eX12_trio_84 ?_
                    refine vx_iload hC 0 rfl eX12_trio_87 ?_
                    refine vx_iload hC 0 rfl eX12_trio_89 ?_
                    refine vx_iload_n hC 2 rfl eX12_trio_91 ?_
                    refine vx_bipush hC (by decide) eX12_trio_92 ?_
                    refine vx_idiv hC (by omega) eX12_trio_94 ?_
                    refine vx_bipush hC (by decide) eX12_trio_95 ?_
                    refine vx_imul hC eX12_trio_97 ?_
                    refine vx_iload_n hC 2 rfl eX12_trio_98 ?_
                    refine vx_bipush hC (by decide) eX12_trio_99 ?_
                    refine vx_idiv hC (by omega) eX12_trio_101 ?_
                    refine vx_bipush hC (by decide) eX12_trio_102 ?_
                    refine vx_irem hC (by omega) eX12_trio_104 ?_
                    refine vx_iadd hC eX12_trio_105 ?_
                    have J114_z20 : ∀ z20 : Int, ((kk = x / 100 * 13 + x / 10 % 10 ∧ z20 = 1) ∨ (¬ kk = x / 100 * 13 + x / 10 % 10 ∧ z20 = 0)) → xv G K 10 (xk_Q G K (xp_l (fun z9 n1 t1 a1 b1 c1 => z9 = sp_trio x m w pt ∧ mq (vi 32) (vi 33) (vi 31 3) (vi 31 22) (vi 44) n tau vi vl vr n1 t1 a1 b1 c1)) 0 0) 0 0 n tau vi m2 vr 114 [(5, xa_i kk), (0, xa_r 31), (1, xa_i x), (2, xa_i m), (3, xa_i w), (4, xa_i pt)] [xa_l z20, xa_i kk, xa_r 40] := by
                      intro z20 hz20
                      refine vx_lastore hC (ot_40 hO) (by omega) (by omega) eX12_trio_114 ?_
                      refine vx_vl (fun v21 hv21 => ?_)
                      obtain ⟨f22, hf22⟩ : ∃ f, f = fu (m2 40) kk z20 := ⟨_, rfl⟩
                      have hv21_40 : v21 40 = f22 := by rw [hv21, hf22, xu_k]
                      have frv21 : ∀ k : Nat, (k < 31 ∨ 44 < k) → v21 k = vl k := fun k hk => by rw [hv21, xu_c _ _ _ _ (by omega)]; exact fol k hk
                      refine vx_iinc hC (lv1 := [(5, xa_i (kk + 1)), (0, xa_r 31), (1, xa_i x), (2, xa_i m), (3, xa_i w), (4, xa_i pt)]) 0 rfl (by decide) rfl eX12_trio_115 ?_
                      refine vx_goto hC (tgt := 75) (by decide) eX12_trio_118 ?_
                      exact ih (kk + 1) v21 (by omega) (by rw [hv21_40, hf22]; exact ag_step ha rfl (by unfold t3_0; split <;> omega)) frv21 (by omega)
                    refine vx_icmp_ne hC (tgt := 113) (by omega) (by decide) eX12_trio_106 (fun c23 => ?_) (fun c23 => ?_)
                    · refine vx_lconst hC 0 (by decide) eX12_trio_113 ?_
                      exact J114_z20 _ (by omega)
                    · refine vx_lconst hC 1 (by decide) eX12_trio_109 ?_
                      refine vx_goto hC (tgt := 114) (by decide) eX12_trio_110 ?_
                      exact J114_z20 _ (by omega)
              exact LP75 170 0 vl (by omega) (ag_0 (by omega) _ _) (fun _ _ => rfl) (by omega)
            · refine vx_ldc2 hC (-9223372036854775808) wd_1167 eX12_trio_68 ?_
              exact vx_lret hC hM eX12_trio_71 (⟨_, rfl, by unfold sp_trio; first | (rw [if_pos (by omega)]; simp only []; rw [← hres, show cq = 0 by omega, t3_n, hal, show tt = m.toNat by omega]; done) | (rw [if_neg (by omega)]; rfl), rfl, rfl, rfl, rfl, rfl, rfl, rfl, rfl, fun k hk => ⟨rfl, rfl⟩⟩)
def sk_in (o : Int) (f : Int → Int) : Nat → Int → (Int → Int) → Int → Int
  | 0, _, N => N
  | c + 1, k, N => sk_in o f c (k + 1) (ad (ad N 0 (o * f k)) (k + 1) ((10 - o) * f k))
def sk_1 (o r : Int) (f : Int → Int) : Int → Int := ad (sk_in o f r.toNat 0 fz0) r (10 * f r)
def sk_n (o r : Int) : Nat → (Int → Int) → Int → Int
  | 0, f => f
  | c + 1, f => sk_n o r c (sk_1 o r f)
def sk_0 : Int → Int := fun k => if k = 0 then 1 else 0
def sp_streak (o r n pt : Int) : Int := if (0 ≤ o ∧ o ≤ 10) ∧ (1 ≤ r ∧ r ≤ 6) ∧ (0 ≤ n ∧ n ≤ 15) ∧ 0 ≤ pt ∧ pt ≤ 1 then mz_low (sk_n o r n.toNat sk_0 r) ((10 : Int) ^ n.toNat) pt else mNO
def sk_ok (t : Nat) (f : Int → Int) : Prop := (∀ k, 0 ≤ k → k < 7 → 0 ≤ f k) ∧ sq f 0 7 ≤ (10 : Int) ^ t
theorem sk_ad {N : Int → Int} {z x : Int} (h : ∀ k, 0 ≤ k → k < 7 → 0 ≤ N k) (hx : 0 ≤ x) (h1 : 0 ≤ z) (h2 : z < 7) : ∀ k, 0 ≤ k → k < 7 → 0 ≤ ad N z x k := by
  intro k k1 k2
  have a1 := h k k1 k2
  have a2 := h z h1 h2
  unfold ad fu
  split <;> omega
theorem sk_in_ok {o : Int} (ho : 0 ≤ o ∧ o ≤ 10) {f : Int → Int} (hf : ∀ k, 0 ≤ k → k < 7 → 0 ≤ f k) : ∀ (c : Nat) (k : Int) (N : Int → Int), 0 ≤ k → k + (c : Int) ≤ 6 → (∀ k, 0 ≤ k → k < 7 → 0 ≤ N k) → (∀ z, 0 ≤ z → z < 7 → 0 ≤ sk_in o f c k N z) ∧ sq (sk_in o f c k N) 0 7 = sq N 0 7 + 10 * sq f k c
  | 0, k, N, h1, h2, h => by rw [sk_in, show sq f k 0 = 0 from rfl]; exact ⟨h, by omega⟩
  | c + 1, k, N, h1, h2, h => by
    have hk := hf k h1 (by omega)
    have e1 : 0 ≤ o * f k := Int.mul_nonneg ho.1 hk
    have e2 : 0 ≤ (10 - o) * f k := Int.mul_nonneg (by omega) hk
    have e3 : (10 - o) * f k = 10 * f k - o * f k := Int.sub_mul _ _ _
    have ih := sk_in_ok ho hf c (k + 1) (ad (ad N 0 (o * f k)) (k + 1) ((10 - o) * f k)) (by omega) (by omega) (sk_ad (sk_ad h e1 (by omega) (by omega)) e2 (by omega) (by omega))
    rw [sq_ad 7 0 (by omega) (by omega), sq_ad 7 0 (by omega) (by omega)] at ih
    rw [sk_in, show sq f k (c + 1) = f k + sq f (k + 1) c from rfl]
    exact ⟨ih.1, by omega⟩
theorem sk_ok_1 {o r : Int} (ho : 0 ≤ o ∧ o ≤ 10) (hr : 1 ≤ r ∧ r ≤ 6) {t : Nat} {f : Int → Int} (h : sk_ok t f) : sk_ok (t + 1) (sk_1 o r f) := by
  obtain ⟨h1, h2⟩ := h
  have a := sk_in_ok ho h1 r.toNat 0 fz0 (by omega) (by omega) (fun _ _ _ => Int.le_refl 0)
  have z : sq fz0 0 7 = 0 := sq_z 7 0 (fun _ _ _ => rfl)
  have hfr := h1 r (by omega) (by omega)
  have b := sq_last (f := f) r.toNat 0
  rw [show (0 : Int) + (r.toNat : Int) = r by omega] at b
  have b2 := sq_le (f := f) (r.toNat + 1) 7 0 (by omega) (fun w w1 w2 => h1 w w1 (by omega))
  unfold sk_1
  refine ⟨sk_ad a.1 (by omega) (by omega) (by omega), ?_⟩
  rw [sq_ad 7 0 (by omega) (by omega), a.2, Int.pow_succ]
  omega
theorem sk_ok_0 : sk_ok 0 sk_0 := by
  refine ⟨fun k _ _ => ?_, by decide⟩
  unfold sk_0
  split <;> omega
theorem sk_ok_n {o r : Int} (ho : 0 ≤ o ∧ o ≤ 10) (hr : 1 ≤ r ∧ r ≤ 6) : ∀ (c t : Nat) (f : Int → Int), sk_ok t f → sk_ok (t + c) (sk_n o r c f)
  | 0, t, f, h => h
  | c + 1, t, f, h => by
    have := sk_ok_n ho hr c (t + 1) _ (sk_ok_1 ho hr h)
    rw [sk_n, show t + (c + 1) = t + 1 + c by omega]; exact this
set_option maxHeartbeats 4000000 in
set_option maxRecDepth 100000 in
theorem kX12_streak (G : xg_T) (d : Nat) (n : Nat) (tau : Nat → Nat × Nat) (vi vl : Nat → Int → Int) (vr : Nat → Int → Option Nat) (hI : MI n tau vi vr) (o r m pt : Int) (ho : -2147483648 ≤ o ∧ o < 2147483648) (hr9 : -2147483648 ≤ r ∧ r < 2147483648) (hm : -2147483648 ≤ m ∧ m < 2147483648) (hpt : -2147483648 ≤ pt ∧ pt < 2147483648) : xm G yX12_streak cX12_streak 7 (some .long) (d + 2) 0 0 [xa_r 31, xa_i o, xa_i r, xa_i m, xa_i pt] n tau vi vl vr (xp_l (fun z9 n1 t1 a1 b1 c1 => z9 = sp_streak o r m pt ∧ mq (vi 32) (vi 33) (vi 31 3) (vi 31 22) (vi 44) n tau vi vl vr n1 t1 a1 b1 c1)) := by
  refine xm.of (lv := [(0, xa_r 31), (1, xa_i o), (2, xa_i r), (3, xa_i m), (4, xa_i pt)]) (by decide) (Nat.le_of_ble_eq_true rfl) rfl (fun K hC hM hRm => ?_)
  obtain ⟨hO, ⟨⟨hr, h0, h1, h2, h3, h4, h5, h6, hp0, hrow, hwon, htape, htab⟩, h60⟩, him, hran, hz1, hz2⟩ := hI
  refine vx_iload_n hC 1 rfl eX12_streak_0 ?_
  refine vx_iconst hC eX12_streak_1 ?_
  refine vx_bipush hC (by decide) eX12_streak_2 ?_
  refine vx_callS_i hC (kX12_in G d _ _ _ _ _ _ _ _ (by omega) (by omega) (by omega)) ly_X12_57 rfl hRm (by omega) (Nat.le_of_ble_eq_true rfl) rfl eX12_streak_4 (fun x1 n9 t9 a9 b9 c9 hx1 => ?_)
  obtain ⟨hx1, rfl, rfl, rfl, rfl, rfl⟩ := hx1
  refine vx_if_eq hC (tgt := 40) (by omega) (by decide) eX12_streak_7 (fun c2 => ?_) (fun c2 => ?_)
  · refine vx_ldc2 hC (-9223372036854775808) wd_1167 eX12_streak_40 ?_
    exact vx_lret hC hM eX12_streak_43 (⟨_, rfl, by unfold sp_streak; first | (rw [if_pos (by omega), ← hF9]; simp only []; done) | (rw [if_neg (by omega)]; rfl), rfl, rfl, rfl, rfl, rfl, rfl, rfl, rfl, fun k hk => ⟨rfl, rfl⟩⟩)
  · refine vx_iload_n hC 2 rfl eX12_streak_10 ?_
    refine vx_iconst hC eX12_streak_11 ?_
    refine vx_bipush hC (by decide) eX12_streak_12 ?_
    refine vx_callS_i hC (kX12_in G d _ _ _ _ _ _ _ _ (by omega) (by omega) (by omega)) ly_X12_57 rfl hRm (by omega) (Nat.le_of_ble_eq_true rfl) rfl eX12_streak_14 (fun x3 n9 t9 a9 b9 c9 hx3 => ?_)
    obtain ⟨hx3, rfl, rfl, rfl, rfl, rfl⟩ := hx3
    refine vx_if_eq hC (tgt := 40) (by omega) (by decide) eX12_streak_17 (fun c4 => ?_) (fun c4 => ?_)
    · refine vx_ldc2 hC (-9223372036854775808) wd_1167 eX12_streak_40 ?_
      exact vx_lret hC hM eX12_streak_43 (⟨_, rfl, by unfold sp_streak; first | (rw [if_pos (by omega), ← hF9]; simp only []; done) | (rw [if_neg (by omega)]; rfl), rfl, rfl, rfl, rfl, rfl, rfl, rfl, rfl, fun k hk => ⟨rfl, rfl⟩⟩)
    · refine vx_iload_n hC 3 rfl eX12_streak_20 ?_
      refine vx_iconst hC eX12_streak_21 ?_
      refine vx_bipush hC (by decide) eX12_streak_22 ?_
      refine vx_callS_i hC (kX12_in G d _ _ _ _ _ _ _ _ (by omega) (by omega) (by omega)) ly_X12_57 rfl hRm (by omega) (Nat.le_of_ble_eq_true rfl) rfl eX12_streak_24 (fun x5 n9 t9 a9 b9 c9 hx5 => ?_)
      obtain ⟨hx5, rfl, rfl, rfl, rfl, rfl⟩ := hx5
      refine vx_if_eq hC (tgt := 40) (by omega) (by decide) eX12_streak_27 (fun c6 => ?_) (fun c6 => ?_)
      · refine vx_ldc2 hC (-9223372036854775808) wd_1167 eX12_streak_40 ?_
        exact vx_lret hC hM eX12_streak_43 (⟨_, rfl, by unfold sp_streak; first | (rw [if_pos (by omega), ← hF9]; simp only []; done) | (rw [if_neg (by omega)]; rfl), rfl, rfl, rfl, rfl, rfl, rfl, rfl, rfl, fun k hk => ⟨rfl, rfl⟩⟩)
      · refine vx_iload hC 4 rfl eX12_streak_30 ?_
        refine vx_iconst hC eX12_streak_32 ?_
        refine vx_iconst hC eX12_streak_33 ?_
        refine vx_callS_i hC (kX12_in G d _ _ _ _ _ _ _ _ (by omega) (by omega) (by omega)) ly_X12_57 rfl hRm (by omega) (Nat.le_of_ble_eq_true rfl) rfl eX12_streak_34 (fun x7 n9 t9 a9 b9 c9 hx7 => ?_)
        obtain ⟨hx7, rfl, rfl, rfl, rfl, rfl⟩ := hx7
        refine vx_if_ne hC (tgt := 44) (by omega) (by decide) eX12_streak_37 (fun c8 => ?_) (fun c8 => ?_)
        · refine vx_iconst hC eX12_streak_44 ?_
          refine vx_istore hC (lv1 := [(5, xa_i 0), (0, xa_r 31), (1, xa_i o), (2, xa_i r), (3, xa_i m), (4, xa_i pt)]) (by decide) rfl eX12_streak_45 ?_
          have LP47 : ∀ (j : Nat) (kk : Int) (m2 : Nat → Int → Int) (hkk : 0 ≤ kk ∧ kk ≤ 7) (ha : ag kk (m2 42) sk_0) (fol : ∀ k : Nat, (k < 31 ∨ 44 < k) → m2 k = vl k) (hj : 7 - kk < (j : Int)), xv G K 7 (xk_Q G K (xp_l (fun z9 n1 t1 a1 b1 c1 => z9 = sp_streak o r m pt ∧ mq (vi 32) (vi 33) (vi 31 3) (vi 31 22) (vi 44) n tau vi vl vr n1 t1 a1 b1 c1)) 0 0) 0 0 n tau vi m2 vr 47 [(5, xa_i kk), (0, xa_r 31), (1, xa_i o), (2, xa_i r), (3, xa_i m), (4, xa_i pt)] [] := by
            intro j
            induction j with
            | zero => intro kk m2 hkk ha fol hj; exfalso; omega
            | succ j ih =>
              intro kk m2 hkk ha fol hj
              refine vx_iload hC 0 rfl eX12_streak_47 ?_
              refine vx_bipush hC (by decide) eX12_streak_49 ?_
              refine vx_icmp_ge hC (tgt := 77) (by omega) (by decide) eX12_streak_51 (fun c9 => ?_) (fun c9 => ?_)
              · refine vx_iconst hC eX12_streak_77 ?_
                refine vx_istore hC (lv1 := [(5, xa_i 0), (0, xa_r 31), (1, xa_i o), (2, xa_i r), (3, xa_i m), (4, xa_i pt)]) (by decide) rfl eX12_streak_78 ?_
                have LP80 : ∀ (j : Nat) (cc : Nat) (tt : Nat) (F : Int → Int) (m3 : Nat → Int → Int) (hcc : (tt : Int) + (cc : Int) = m) (hres : sk_n o r cc F = sk_n o r m.toNat sk_0) (aF : ag 7 (m3 42) F) (fol3 : ∀ k : Nat, (k < 31 ∨ 44 < k) → m3 k = vl k) (hj : (cc : Int) < (j : Int)), xv G K 7 (xk_Q G K (xp_l (fun z9 n1 t1 a1 b1 c1 => z9 = sp_streak o r m pt ∧ mq (vi 32) (vi 33) (vi 31 3) (vi 31 22) (vi 44) n tau vi vl vr n1 t1 a1 b1 c1)) 0 0) 0 0 n tau vi m3 vr 80 [(5, xa_i (tt : Int)), (0, xa_r 31), (1, xa_i o), (2, xa_i r), (3, xa_i m), (4, xa_i pt)] [] := by
                  intro j
                  induction j with
                  | zero => intro cc tt F m3 hcc hres aF fol3 hj; exfalso; omega
                  | succ j ihB =>
                    intro cc tt F m3 hcc hres aF fol3 hj
                    refine vx_iload hC 0 rfl eX12_streak_80 ?_
                    refine vx_iload_n hC 4 rfl eX12_streak_82 ?_
                    refine vx_icmp_ge hC (tgt := 224) (by omega) (by decide) eX12_streak_83 (fun c10 => ?_) (fun c10 => ?_)
                    · have hF9 : F = sk_n o r m.toNat sk_0 := by rw [← hres, show cc = 0 by omega, sk_n]
                      have hok9 := sk_ok_n (o := o) (r := r) (by omega) (by omega) m.toNat 0 sk_0 sk_ok_0
                      rw [Nat.zero_add, ← hF9] at hok9
                      have ht10 := ten_le (t := m.toNat) (by omega)
                      have hr9 := hok9.1 r (by omega) (by omega)
                      have hr8 := sq_one (f := F) 7 0 r (by omega) (by omega) (fun w w1 w2 => hok9.1 w w1 (by omega))
                      have hr7 := hok9.2
                      refine vx_aload_n hC 1 rfl eX12_streak_224 ?_
                      refine vx_gr hC 19 (ot_31 hO) lf_X12_44 rfl (or_31_19 hO) eX12_streak_225 ?_
                      refine vx_iload_n hC 3 rfl eX12_streak_228 ?_
                      refine vx_laload hC (ot_42 hO) (by omega) (by omega) eX12_streak_229 ?_
                      refine vx_eql (aF _ (by omega) (by omega)) ?_
                      refine vx_iload_n hC 4 rfl eX12_streak_230 ?_
                      refine vx_callS_l hC (kX12_tens G d _ _ _ _ _ m (by omega)) ly_X12_183 rfl hRm (by omega) (Nat.le_of_ble_eq_true rfl) rfl eX12_streak_231 (fun x11 n9 t9 a9 b9 c9 hx11 => ?_)
                      obtain ⟨hx11, rfl, rfl, rfl, rfl, rfl⟩ := hx11
                      refine vx_iload hC 5 rfl eX12_streak_234 ?_
                      refine vx_callS_l hC (kX12_lowest G d _ _ _ _ _ _ _ _ (by omega) (by omega) (by omega)) ly_X12_187 rfl hRm (by omega) (Nat.le_of_ble_eq_true rfl) rfl eX12_streak_236 (fun x12 n9 t9 a9 b9 c9 hx12 => ?_)
                      obtain ⟨hx12, rfl, rfl, rfl, rfl, rfl⟩ := hx12
                      exact vx_lret hC hM eX12_streak_239 (⟨_, rfl, by unfold sp_streak; first | (rw [if_pos (by omega), ← hF9]; simp only [hx11, hx12]; done) | (rw [if_neg (by omega)]; rfl), rfl, rfl, rfl, rfl, rfl, rfl, rfl, rfl, fun k hk => ⟨rfl, fol3 k hk⟩⟩)
                    · obtain ⟨cc1, rfl⟩ : ∃ cc1, cc = cc1 + 1 := ⟨cc - 1, by omega⟩
                      refine vx_iconst hC eX12_streak_86 ?_
                      refine vx_istore hC (lv1 := [(6, xa_i 0), (5, xa_i (tt : Int)), (0, xa_r 31), (1, xa_i o), (2, xa_i r), (3, xa_i m), (4, xa_i pt)]) (by decide) rfl eX12_streak_87 ?_
                      have LP89 : ∀ (j : Nat) (kk : Int) (m4 : Nat → Int → Int) (hkk4 : 0 ≤ kk ∧ kk ≤ 7) (ha4 : ag kk (m4 43) fz0) (aF4 : ag 7 (m4 42) F) (fol4 : ∀ k : Nat, (k < 31 ∨ 44 < k) → m4 k = vl k) (hj : 7 - kk < (j : Int)), xv G K 7 (xk_Q G K (xp_l (fun z9 n1 t1 a1 b1 c1 => z9 = sp_streak o r m pt ∧ mq (vi 32) (vi 33) (vi 31 3) (vi 31 22) (vi 44) n tau vi vl vr n1 t1 a1 b1 c1)) 0 0) 0 0 n tau vi m4 vr 89 [(6, xa_i kk), (5, xa_i (tt : Int)), (0, xa_r 31), (1, xa_i o), (2, xa_i r), (3, xa_i m), (4, xa_i pt)] [] := by
                        intro j
                        induction j with
                        | zero => intro kk m4 hkk4 ha4 aF4 fol4 hj; exfalso; omega
                        | succ j ihC =>
                          intro kk m4 hkk4 ha4 aF4 fol4 hj
                          refine vx_iload hC 0 rfl eX12_streak_89 ?_
                          refine vx_bipush hC (by decide) eX12_streak_91 ?_
                          refine vx_icmp_ge hC (tgt := 110) (by omega) (by decide) eX12_streak_93 (fun c13 => ?_) (fun c13 => ?_)
                          · refine vx_iconst hC eX12_streak_110 ?_
                            refine vx_istore hC (lv1 := [(6, xa_i 0), (5, xa_i (tt : Int)), (0, xa_r 31), (1, xa_i o), (2, xa_i r), (3, xa_i m), (4, xa_i pt)]) (by decide) rfl eX12_streak_111 ?_
                            have LP113 : ∀ (j : Nat) (cq : Nat) (k5 : Int) (N : Int → Int) (m5 : Nat → Int → Int) (hcq : k5 + (cq : Int) = r ∧ 0 ≤ k5) (hin : sk_in o F cq k5 N = sk_in o F r.toNat 0 fz0) (aN : ag 7 (m5 43) N) (aF5 : ag 7 (m5 42) F) (fol5 : ∀ k : Nat, (k < 31 ∨ 44 < k) → m5 k = vl k) (hj : (cq : Int) < (j : Int)), xv G K 7 (xk_Q G K (xp_l (fun z9 n1 t1 a1 b1 c1 => z9 = sp_streak o r m pt ∧ mq (vi 32) (vi 33) (vi 31 3) (vi 31 22) (vi 44) n tau vi vl vr n1 t1 a1 b1 c1)) 0 0) 0 0 n tau vi m5 vr 113 [(6, xa_i k5), (5, xa_i (tt : Int)), (0, xa_r 31), (1, xa_i o), (2, xa_i r), (3, xa_i m), (4, xa_i pt)] [] := by
                              intro j
                              induction j with
                              | zero => intro cq k5 N m5 hcq hin aN aF5 fol5 hj; exfalso; omega
                              | succ j ihD =>
                                intro cq k5 N m5 hcq hin aN aF5 fol5 hj
                                refine vx_iload hC 0 rfl eX12_streak_113 ?_
                                refine vx_iload_n hC 4 rfl eX12_streak_115 ?_
                                refine vx_icmp_ge hC (tgt := 169) (by omega) (by decide) eX12_streak_116 (fun c14 => ?_) (fun c14 => ?_)
                                · refine vx_aload_n hC 2 rfl eX12_streak_169 ?_
                                  refine vx_gr hC 20 (ot_31 hO) lf_X12_47 rfl (or_31_20 hO) eX12_streak_170 ?_
                                  refine vx_iload_n hC 4 rfl eX12_streak_173 ?_
                                  refine vx_dup2 hC rfl rfl eX12_streak_174 ?_
                                  refine vx_laload hC (ot_43 hO) (by omega) (by omega) eX12_streak_175 ?_
                                  refine vx_eql (aN _ (by omega) (by omega)) ?_
                                  refine vx_ldc2 hC (10) wd_1172 eX12_streak_176 ?_
                                  refine vx_aload_n hC 2 rfl eX12_streak_179 ?_
                                  refine vx_gr hC 19 (ot_31 hO) lf_X12_44 rfl (or_31_19 hO) eX12_streak_180 ?_
                                  refine vx_iload_n hC 4 rfl eX12_streak_183 ?_
                                  refine vx_laload hC (ot_42 hO) (by omega) (by omega) eX12_streak_184 ?_
                                  refine vx_eql (aF5 _ (by omega) (by omega)) ?_
                                  refine vx_lmul hC eX12_streak_185 ?_
                                  refine vx_ladd hC eX12_streak_186 ?_
                                  refine vx_topl (fun x15 hx15 => ?_)
                                  refine vx_lastore hC (ot_43 hO) (by omega) (by omega) eX12_streak_187 ?_
                                  refine vx_vl (fun v16 hv16 => ?_)
                                  have hv16_42 : ag 7 (v16 42) (F) := by rw [hv16, xu_c _ _ _ _ (by decide)]; exact aF5
                                  obtain ⟨f17, hf17⟩ : ∃ f, f = fu (N) r x15 := ⟨_, rfl⟩
                                  have hv16_43 : ag 7 (v16 43) f17 := by rw [hv16, xu_k, hf17]; exact ag_fu aN
                                  have frv16 : ∀ k : Nat, (k < 31 ∨ 44 < k) → v16 k = vl k := fun k hk => by rw [hv16, xu_c _ _ _ _ (by omega)]; exact fol5 k hk
                                  have hG3 : f17 = sk_1 o r F := by rw [hf17]; unfold sk_1; rw [← hin, show cq = 0 by omega, sk_in]; exact ad_eq (by first | rfl | assumption) (by simp only [hx15])
                                  refine vx_iconst hC eX12_streak_188 ?_
                                  refine vx_istore hC (lv1 := [(6, xa_i 0), (5, xa_i (tt : Int)), (0, xa_r 31), (1, xa_i o), (2, xa_i r), (3, xa_i m), (4, xa_i pt)]) (by decide) rfl eX12_streak_189 ?_
                                  have LP191 : ∀ (j : Nat) (k6 : Int) (m6 : Nat → Int → Int) (hkk6 : 0 ≤ k6 ∧ k6 ≤ 7) (aG : ag k6 (m6 42) (sk_1 o r F)) (aT : ag 7 (m6 43) (sk_1 o r F)) (fol6 : ∀ k : Nat, (k < 31 ∨ 44 < k) → m6 k = vl k) (hj : 7 - k6 < (j : Int)), xv G K 7 (xk_Q G K (xp_l (fun z9 n1 t1 a1 b1 c1 => z9 = sp_streak o r m pt ∧ mq (vi 32) (vi 33) (vi 31 3) (vi 31 22) (vi 44) n tau vi vl vr n1 t1 a1 b1 c1)) 0 0) 0 0 n tau vi m6 vr 191 [(6, xa_i k6), (5, xa_i (tt : Int)), (0, xa_r 31), (1, xa_i o), (2, xa_i r), (3, xa_i m), (4, xa_i pt)] [] := by
                                    intro j
                                    induction j with
                                    | zero => intro k6 m6 hkk6 aG aT fol6 hj; exfalso; omega
                                    | succ j ihE =>
                                      intro k6 m6 hkk6 aG aT fol6 hj
                                      refine vx_iload hC 0 rfl eX12_streak_191 ?_
                                      refine vx_bipush hC (by decide) eX12_streak_193 ?_
                                      refine vx_icmp_ge hC (tgt := 218) (by omega) (by decide) eX12_streak_195 (fun c18 => ?_) (fun c18 => ?_)
                                      · refine vx_iinc hC (lv1 := [(5, xa_i ((tt : Int) + 1)), (6, xa_i k6), (0, xa_r 31), (1, xa_i o), (2, xa_i r), (3, xa_i m), (4, xa_i pt)]) 1 rfl (by decide) rfl eX12_streak_218 ?_
                                        refine vx_goto hC (tgt := 80) (by decide) eX12_streak_221 ?_
                                        refine vx_lv (lv1 := [(5, xa_i ((tt : Int) + 1)), (0, xa_r 31), (1, xa_i o), (2, xa_i r), (3, xa_i m), (4, xa_i pt)]) [0, 2, 3, 4, 5, 6] rfl ?_
                                        exact ihB cc1 (tt + 1) (sk_1 o r F) m6 (by omega) (by rw [← hres, sk_n]) (by rw [show (7 : Int) = k6 by omega]; exact aG) fol6 (by omega)
                                      · refine vx_aload_n hC 2 rfl eX12_streak_198 ?_
                                        refine vx_gr hC 19 (ot_31 hO) lf_X12_44 rfl (or_31_19 hO) eX12_streak_199 ?_
                                        refine vx_iload hC 0 rfl eX12_streak_202 ?_
                                        refine vx_aload_n hC 2 rfl eX12_streak_204 ?_
                                        refine vx_gr hC 20 (ot_31 hO) lf_X12_47 rfl (or_31_20 hO) eX12_streak_205 ?_
                                        refine vx_iload hC 0 rfl eX12_streak_208 ?_
                                        refine vx_laload hC (ot_43 hO) (by omega) (by omega) eX12_streak_210 ?_
                                        refine vx_eql (aT _ (by omega) (by omega)) ?_
                                        refine vx_topl (fun x19 hx19 => ?_)
                                        refine vx_lastore hC (ot_42 hO) (by omega) (by omega) eX12_streak_211 ?_
                                        refine vx_vl (fun v20 hv20 => ?_)
                                        obtain ⟨f21, hf21⟩ : ∃ f, f = fu (m6 42) k6 x19 := ⟨_, rfl⟩
                                        have hv20_42 : v20 42 = f21 := by rw [hv20, hf21, xu_k]
                                        have hv20_43 : ag 7 (v20 43) ((sk_1 o r F)) := by rw [hv20, xu_c _ _ _ _ (by decide)]; exact aT
                                        have frv20 : ∀ k : Nat, (k < 31 ∨ 44 < k) → v20 k = vl k := fun k hk => by rw [hv20, xu_c _ _ _ _ (by omega)]; exact fol6 k hk
                                        refine vx_iinc hC (lv1 := [(6, xa_i (k6 + 1)), (5, xa_i (tt : Int)), (0, xa_r 31), (1, xa_i o), (2, xa_i r), (3, xa_i m), (4, xa_i pt)]) 0 rfl (by decide) rfl eX12_streak_212 ?_
                                        refine vx_goto hC (tgt := 191) (by decide) eX12_streak_215 ?_
                                        exact ihE (k6 + 1) v20 (by omega) (by rw [hv20_42, hf21]; exact ag_step aG rfl hx19) hv20_43 frv20 (by omega)
                                  exact LP191 8 0 v16 (by omega) (ag_0 (by omega) _ _) (by rw [← hG3]; exact hv16_43) frv16 (by omega)
                                · obtain ⟨cq1, rfl⟩ : ∃ cq1, cq = cq1 + 1 := ⟨cq - 1, by omega⟩
                                  refine vx_aload_n hC 2 rfl eX12_streak_119 ?_
                                  refine vx_gr hC 20 (ot_31 hO) lf_X12_47 rfl (or_31_20 hO) eX12_streak_120 ?_
                                  refine vx_iconst hC eX12_streak_123 ?_
                                  refine vx_dup2 hC rfl rfl eX12_streak_124 ?_
                                  refine vx_laload hC (ot_43 hO) (by omega) (by omega) eX12_streak_125 ?_
                                  refine vx_eql (aN _ (by omega) (by omega)) ?_
                                  refine vx_iload_n hC 3 rfl eX12_streak_126 ?_
                                  refine vx_i2l hC (by omega) eX12_streak_127 ?_
                                  refine vx_aload_n hC 2 rfl eX12_streak_128 ?_
                                  refine vx_gr hC 19 (ot_31 hO) lf_X12_44 rfl (or_31_19 hO) eX12_streak_129 ?_
                                  refine vx_iload hC 0 rfl eX12_streak_132 ?_
                                  refine vx_laload hC (ot_42 hO) (by omega) (by omega) eX12_streak_134 ?_
                                  refine vx_eql (aF5 _ (by omega) (by omega)) ?_
                                  refine vx_lmul hC eX12_streak_135 ?_
                                  refine vx_ladd hC eX12_streak_136 ?_
                                  refine vx_topl (fun x22 hx22 => ?_)
                                  refine vx_lastore hC (ot_43 hO) (by omega) (by omega) eX12_streak_137 ?_
                                  refine vx_vl (fun v23 hv23 => ?_)
                                  have hv23_42 : ag 7 (v23 42) (F) := by rw [hv23, xu_c _ _ _ _ (by decide)]; exact aF5
                                  obtain ⟨f24, hf24⟩ : ∃ f, f = fu (N) 0 x22 := ⟨_, rfl⟩
                                  have hv23_43 : ag 7 (v23 43) f24 := by rw [hv23, xu_k, hf24]; exact ag_fu aN
                                  have frv23 : ∀ k : Nat, (k < 31 ∨ 44 < k) → v23 k = vl k := fun k hk => by rw [hv23, xu_c _ _ _ _ (by omega)]; exact fol5 k hk
                                  have hG1 : f24 = ad N 0 (o * F k5) := by rw [hf24]; exact ad_eq (by first | rfl | assumption) (by simp only [hx22])
                                  refine vx_aload_n hC 2 rfl eX12_streak_138 ?_
                                  refine vx_gr hC 20 (ot_31 hO) lf_X12_47 rfl (or_31_20 hO) eX12_streak_139 ?_
                                  refine vx_iload hC 0 rfl eX12_streak_142 ?_
                                  refine vx_iconst hC eX12_streak_144 ?_
                                  refine vx_iadd hC eX12_streak_145 ?_
                                  refine vx_dup2 hC rfl rfl eX12_streak_146 ?_
                                  refine vx_laload hC (ot_43 hO) (by omega) (by omega) eX12_streak_147 ?_
                                  refine vx_eql (hv23_43 _ (by omega) (by omega)) ?_
                                  refine vx_bipush hC (by decide) eX12_streak_148 ?_
                                  refine vx_iload_n hC 3 rfl eX12_streak_150 ?_
                                  refine vx_isub hC eX12_streak_151 ?_
                                  refine vx_i2l hC (by omega) eX12_streak_152 ?_
                                  refine vx_aload_n hC 2 rfl eX12_streak_153 ?_
                                  refine vx_gr hC 19 (ot_31 hO) lf_X12_44 rfl (or_31_19 hO) eX12_streak_154 ?_
                                  refine vx_iload hC 0 rfl eX12_streak_157 ?_
                                  refine vx_laload hC (ot_42 hO) (by omega) (by omega) eX12_streak_159 ?_
                                  refine vx_eql (hv23_42 _ (by omega) (by omega)) ?_
                                  refine vx_lmul hC eX12_streak_160 ?_
                                  refine vx_ladd hC eX12_streak_161 ?_
                                  refine vx_topl (fun x25 hx25 => ?_)
                                  refine vx_top2 (fun x26 hx26 => ?_)
                                  refine vx_lastore hC (ot_43 hO) (by omega) (by omega) eX12_streak_162 ?_
                                  refine vx_vl (fun v27 hv27 => ?_)
                                  have hv27_42 : ag 7 (v27 42) (F) := by rw [hv27, xu_c _ _ _ _ (by decide)]; exact hv23_42
                                  obtain ⟨f28, hf28⟩ : ∃ f, f = fu (f24) x26 x25 := ⟨_, rfl⟩
                                  have hv27_43 : ag 7 (v27 43) f28 := by rw [hv27, xu_k, hf28]; exact ag_fu hv23_43
                                  have frv27 : ∀ k : Nat, (k < 31 ∨ 44 < k) → v27 k = vl k := fun k hk => by rw [hv27, xu_c _ _ _ _ (by omega)]; exact frv23 k hk
                                  have hG2 : f28 = ad (ad N 0 (o * F k5)) (k5 + 1) ((10 - o) * F k5) := by rw [hf28, ← hG1]; exact ad_eq (by simp only [hx22, hx25, hx26]) (by simp only [hx22, hx25, hx26])
                                  refine vx_iinc hC (lv1 := [(6, xa_i (k5 + 1)), (5, xa_i (tt : Int)), (0, xa_r 31), (1, xa_i o), (2, xa_i r), (3, xa_i m), (4, xa_i pt)]) 0 rfl (by decide) rfl eX12_streak_163 ?_
                                  refine vx_goto hC (tgt := 113) (by decide) eX12_streak_166 ?_
                                  exact ihD cq1 (k5 + 1) f28 v27 (by omega) (by rw [← hin, sk_in, hG2]) hv27_43 hv27_42 frv27 (by omega)
                            exact LP113 8 r.toNat 0 fz0 m4 (by omega) rfl (by rw [show (7 : Int) = kk by omega]; exact ha4) aF4 fol4 (by omega)
                          · refine vx_aload_n hC 2 rfl eX12_streak_96 ?_
                            refine vx_gr hC 20 (ot_31 hO) lf_X12_47 rfl (or_31_20 hO) eX12_streak_97 ?_
                            refine vx_iload hC 0 rfl eX12_streak_100 ?_
                            refine vx_lconst hC 0 (by decide) eX12_streak_102 ?_
                            refine vx_lastore hC (ot_43 hO) (by omega) (by omega) eX12_streak_103 ?_
                            refine vx_vl (fun v29 hv29 => ?_)
                            have hv29_42 : ag 7 (v29 42) (F) := by rw [hv29, xu_c _ _ _ _ (by decide)]; exact aF4
                            obtain ⟨f30, hf30⟩ : ∃ f, f = fu (m4 43) kk 0 := ⟨_, rfl⟩
                            have hv29_43 : v29 43 = f30 := by rw [hv29, hf30, xu_k]
                            have frv29 : ∀ k : Nat, (k < 31 ∨ 44 < k) → v29 k = vl k := fun k hk => by rw [hv29, xu_c _ _ _ _ (by omega)]; exact fol4 k hk
                            refine vx_iinc hC (lv1 := [(6, xa_i (kk + 1)), (5, xa_i (tt : Int)), (0, xa_r 31), (1, xa_i o), (2, xa_i r), (3, xa_i m), (4, xa_i pt)]) 0 rfl (by decide) rfl eX12_streak_104 ?_
                            refine vx_goto hC (tgt := 89) (by decide) eX12_streak_107 ?_
                            exact ihC (kk + 1) v29 (by omega) (by rw [hv29_43, hf30]; exact ag_step ha4 rfl rfl) hv29_42 frv29 (by omega)
                      exact LP89 8 0 m3 (by omega) (ag_0 (by omega) _ _) aF fol3 (by omega)
                exact LP80 16 m.toNat 0 sk_0 m2 (by omega) rfl (by rw [show (7 : Int) = kk by omega]; exact ha) fol (by omega)
              · refine vx_aload_n hC 1 rfl eX12_streak_54 ?_
                refine vx_gr hC 19 (ot_31 hO) lf_X12_44 rfl (or_31_19 hO) eX12_streak_55 ?_
                refine vx_iload hC 0 rfl eX12_streak_58 ?_
                refine vx_iload hC 0 rfl eX12_streak_60 ?_
                have J70_z31 : ∀ z31 : Int, ((kk = 0 ∧ z31 = 1) ∨ (¬ kk = 0 ∧ z31 = 0)) → xv G K 7 (xk_Q G K (xp_l (fun z9 n1 t1 a1 b1 c1 => z9 = sp_streak o r m pt ∧ mq (vi 32) (vi 33) (vi 31 3) (vi 31 22) (vi 44) n tau vi vl vr n1 t1 a1 b1 c1)) 0 0) 0 0 n tau vi m2 vr 70 [(5, xa_i kk), (0, xa_r 31), (1, xa_i o), (2, xa_i r), (3, xa_i m), (4, xa_i pt)] [xa_l z31, xa_i kk, xa_r 42] := by
                  intro z31 hz31
                  refine vx_lastore hC (ot_42 hO) (by omega) (by omega) eX12_streak_70 ?_
                  refine vx_vl (fun v32 hv32 => ?_)
                  obtain ⟨f33, hf33⟩ : ∃ f, f = fu (m2 42) kk z31 := ⟨_, rfl⟩
                  have hv32_42 : v32 42 = f33 := by rw [hv32, hf33, xu_k]
                  have hv32_43 : v32 43 = m2 43 := by rw [hv32, xu_c _ _ _ _ (by decide)]
                  have frv32 : ∀ k : Nat, (k < 31 ∨ 44 < k) → v32 k = vl k := fun k hk => by rw [hv32, xu_c _ _ _ _ (by omega)]; exact fol k hk
                  refine vx_iinc hC (lv1 := [(5, xa_i (kk + 1)), (0, xa_r 31), (1, xa_i o), (2, xa_i r), (3, xa_i m), (4, xa_i pt)]) 0 rfl (by decide) rfl eX12_streak_71 ?_
                  refine vx_goto hC (tgt := 47) (by decide) eX12_streak_74 ?_
                  exact ih (kk + 1) v32 (by omega) (by rw [hv32_42, hf33]; exact ag_step ha rfl (by unfold sk_0; split <;> omega)) frv32 (by omega)
                refine vx_if_ne hC (tgt := 69) (by omega) (by decide) eX12_streak_62 (fun c34 => ?_) (fun c34 => ?_)
                · refine vx_lconst hC 0 (by decide) eX12_streak_69 ?_
                  exact J70_z31 _ (by omega)
                · refine vx_lconst hC 1 (by decide) eX12_streak_65 ?_
                  refine vx_goto hC (tgt := 70) (by decide) eX12_streak_66 ?_
                  exact J70_z31 _ (by omega)
          exact LP47 8 0 vl (by omega) (ag_0 (by omega) _ _) (fun _ _ => rfl) (by omega)
        · refine vx_ldc2 hC (-9223372036854775808) wd_1167 eX12_streak_40 ?_
          exact vx_lret hC hM eX12_streak_43 (⟨_, rfl, by unfold sp_streak; first | (rw [if_pos (by omega), ← hF9]; simp only []; done) | (rw [if_neg (by omega)]; rfl), rfl, rfl, rfl, rfl, rfl, rfl, rfl, rfl, fun k hk => ⟨rfl, rfl⟩⟩)
