section XV
variable {G : xg_T} {K : xk_T} {cc : ByteArray} {own : String} {nL : Nat} {Q : State → Prop} {cells slots n : Nat} {tau : Nat → Nat × Nat} {vi vl : Nat → Int → Int} {vr : Nat → Int → Option Nat} {pc pc1 : Nat} {lv : List (Nat × xa_T)} {st : List xa_T}
theorem vx_callX (hC : xk_C G K cc own nL) {d d1 mc ms mc1 ms1 nL1 : Nat} {y : MethodName} {cc1 : ByteArray} {ret1 : Option FieldType} {a : List xa_T} {stk : List xa_T} {post : xm_T} {i ix np : Nat} (hM : xm G y cc1 nL1 ret1 d mc ms (xa_r (1000002 + i) :: a) n tau vi vl vr post) (hy : xy_V own ix y cc1 nL1 ret1 np) (hi : i < 8) (hyc : y.cls = "java/lang/String") (hnp : a.length = np) (hRm : xk_Rm K d1 mc1 ms1) (hcs : d + 1 ≤ d1 ∧ nL1 ≤ 21 ∧ cells + mc ≤ mc1 ∧ slots + ms ≤ ms1) (hw8 : (st.map xa_c).sum ≤ 8) (hstk : stk = a.reverse ++ xa_r (1000002 + i) :: st) (hd : xd_D cc pc (.invokevirtual ix) 3 pc1) (kk : ∀ (r : Option xa_T) (n : Nat) (tau : Nat → Nat × Nat) (vi vl : Nat → Int → Int) (vr : Nat → Int → Option Nat), post r n tau vi vl vr → xv G K nL Q (cells + mc) (slots + ms) n tau vi vl vr pc1 lv (r.toList ++ st)) : xv G K nL Q cells slots n tau vi vl vr pc lv stk := by
  have hC0 := hC
  have hkp := xk_kept hC
  obtain ⟨hdg, rfl⟩ := hd
  subst hstk
  refine xv_run (A := #[]) hC0 ?_ kk
  obtain ⟨p, l, e, R, s, m, args, below, meth, c⟩ := K
  obtain ⟨hx, hb, hml, hown, hts, hE, hB, hB0⟩ := hC
  obtain ⟨r1, r2, r3, r4⟩ := hRm
  simp only [xk_R] at r1 r2 r3 r4
  intro H locs ls hR hS hl
  have hw9 : ((st.map (xa_tr G)).map fun v => v.category).sum ≤ 8 := by
    rw [List.map_map, show ((fun v : Value => v.category) ∘ xa_tr G) = xa_c from funext fun v => xa_tr_c G v]
    exact hw8
  obtain ⟨y1, y2, y3⟩ := hy
  have hrecv : ∃ cell : Cell, H[xg_ad G (1000002 + i)]? = some cell ∧ cell.vm.isStatics = false ∧ s.vm.findClass y.cls = some cell.cls := by
    rw [show 1000002 + i = 1000000 + (2 + i) by omega, xn_ad, hyc]
    exact va_Orecv ((hE.2.2.2.2.2.2.2.2 i hi).1.kept hkp) hS
  rw [List.map_append, List.map_reverse]
  exact va_runV (As := a.map (xa_tr G)) (rest := st.map (xa_tr G)) (b := xg_ad G (1000002 + i)) ⟨hx, hb, hml, hown, hts⟩ (hM l) (cwV np hts (xm_goods y1 y2) rfl rfl rfl ⟨rfl, y3⟩ ⟨by show d + 1 ≤ R.frames; omega, by show 8 + (nL1 + 11) + 40 * d ≤ R.locals; omega⟩) ⟨xm_blind, hrecv, fun U hU hW => ⟨rfl, by rw [hU]; exact hR, hE.warm hW⟩⟩ rfl (by rw [List.length_map]; exact hnp) hl.1 rfl (lv_room hw9) hdg ⟨by show cells + mc ≤ R.cells; omega, by show slots + ms ≤ R.slots; omega⟩

theorem vx_callX_i (hC : xk_C G K cc own nL) {d d1 mc ms mc1 ms1 nL1 : Nat} {y : MethodName} {cc1 : ByteArray} {ret1 : Option FieldType} {a : List xa_T} {stk : List xa_T} {post : Int → xp_W} {i ix np : Nat} (hM : xm G y cc1 nL1 ret1 d mc ms (xa_r (1000002 + i) :: a) n tau vi vl vr (xp_i post)) (hy : xy_V own ix y cc1 nL1 ret1 np) (hi : i < 8) (hyc : y.cls = "java/lang/String") (hnp : a.length = np) (hRm : xk_Rm K d1 mc1 ms1) (hcs : d + 1 ≤ d1 ∧ nL1 ≤ 21 ∧ cells + mc ≤ mc1 ∧ slots + ms ≤ ms1) (hw8 : (st.map xa_c).sum ≤ 8) (hstk : stk = a.reverse ++ (xa_r (1000002 + i) :: st)) (hd : xd_D cc pc (.invokevirtual ix) 3 pc1) (kk : ∀ (x : Int) (n : Nat) (tau : Nat → Nat × Nat) (vi vl : Nat → Int → Int) (vr : Nat → Int → Option Nat), post x n tau vi vl vr → xv G K nL Q (cells + mc) (slots + ms) n tau vi vl vr pc1 lv (xa_i x :: st)) : xv G K nL Q cells slots n tau vi vl vr pc lv stk :=
  vx_callX hC hM hy hi hyc hnp hRm hcs hw8 hstk hd (fun r n tau vi vl vr hp => by
    obtain ⟨x, rfl, hp⟩ := hp
    exact kk x n tau vi vl vr hp)

end XV
def tb (i : Nat) : List Int := xw_byt.getD i []
theorem tb_len (i : Nat) (hi : i < 8) : (Int32.ofInt ((xw_byt.getD i []).length : Int) >>> (Int32.ofInt 0 &&& 31)).toInt = ((xw_byt.getD i []).length : Int) := by
  have : ∀ i, i < 8 → (Int32.ofInt ((xw_byt.getD i []).length : Int) >>> (Int32.ofInt 0 &&& 31)).toInt = ((xw_byt.getD i []).length : Int) := by decide
  exact this i hi
theorem tb_l10 (i : Nat) (hi : i < 8) : (xw_byt.getD i []).length ≤ 10 := by
  have : ∀ i, i < 8 → (xw_byt.getD i []).length ≤ 10 := by decide
  exact this i hi
theorem tb_b (i : Nat) (hi : i < 8) (j : Nat) (hj : j < 10) : 0 ≤ (xw_byt.getD i []).getD j 0 ∧ (xw_byt.getD i []).getD j 0 ≤ 127 := by
  have : ∀ i, i < 8 → ∀ j, j < 10 → 0 ≤ (xw_byt.getD i []).getD j 0 ∧ (xw_byt.getD i []).getD j 0 ≤ 127 := by decide
  exact this i hi j hj
theorem tb_and (i : Nat) (hi : i < 8) (j : Nat) (hj : j < 10) : (Int32.ofInt ((xw_byt.getD i []).getD j 0) &&& Int32.ofInt 255).toInt = (xw_byt.getD i []).getD j 0 := by
  have : ∀ i, i < 8 → ∀ j, j < 10 → (Int32.ofInt ((xw_byt.getD i []).getD j 0) &&& Int32.ofInt 255).toInt = (xw_byt.getD i []).getD j 0 := by decide
  exact this i hi j hj
theorem tb_nc (i : Nat) (hi : i < 8) (j : Nat) (hj : j < 10) : narrow .char (.int (Int32.ofInt ((xw_byt.getD i []).getD j 0))) = .int (Int32.ofInt ((xw_byt.getD i []).getD j 0)) := by
  have : ∀ i, i < 8 → ∀ j, j < 10 → narrow .char (.int (Int32.ofInt ((xw_byt.getD i []).getD j 0))) = .int (Int32.ofInt ((xw_byt.getD i []).getD j 0)) := by decide
  exact this i hi j hj
/-- where a sign stands in a text -/
def tix (ch : Int) : List Int → Int → Int
  | [], _ => -1
  | x :: r, k => if x = ch then k else tix ch r (k + 1)
theorem tix_step {ch : Int} {L : List Int} {j : Nat} {k : Int} (h : j < L.length) : tix ch (L.drop j) k = if L.getD j 0 = ch then k else tix ch (L.drop (j + 1)) (k + 1) := by
  rw [List.drop_eq_getElem_cons h, tix]
  simp [List.getD, h]
theorem tix_end {ch : Int} {L : List Int} {j : Nat} {k : Int} (h : L.length ≤ j) : tix ch (L.drop j) k = -1 := by
  rw [List.drop_eq_nil_of_le h, tix]
theorem tix_r (ch : Int) : ∀ (L : List Int) (k : Int), 0 ≤ k → -1 ≤ tix ch L k ∧ tix ch L k < k + (L.length : Int)
  | [], k, h => by rw [tix]; simp; omega
  | x :: r, k, h => by
    have ih := tix_r ch r (k + 1) (by omega)
    rw [tix, List.length_cons]
    split <;> omega
set_option maxHeartbeats 4000000 in
set_option maxRecDepth 100000 in
theorem kJ0_coder_7d493 (G : xg_T) (d : Nat) (n : Nat) (tau : Nat → Nat × Nat) (vi vl : Nat → Int → Int) (vr : Nat → Int → Option Nat) (i : Nat) (hi : i < 8) : xm G yJ0_coder_7d493 cJ0_coder_7d493 1 (some .byte) (d + 1) 0 0 [xa_r (1000002 + i)] n tau vi vl vr (xp_i (fun z9 n1 t1 a1 b1 c1 => z9 = 0 ∧ xs_0 n tau vi vl vr n1 t1 a1 b1 c1)) := by
  refine xm.of (lv := [(0, xa_r (1000002 + i))]) (by decide) (Nat.le_of_ble_eq_true rfl) rfl (fun K hC hM hRm => ?_)
  refine vx_compact hC wd_286 eJ0_coder_7d493_0 ?_
  refine vx_if_eq hC (tgt := 13) (by omega) (by decide) eJ0_coder_7d493_3 (fun c1 => absurd c1 (by omega)) (fun c1 => ?_)
  refine vx_aload_n hC 0 rfl eJ0_coder_7d493_6 ?_
  refine vx_strCoder hC hi wd_1325 eJ0_coder_7d493_7 ?_
  refine vx_goto hC (tgt := 14) (by decide) eJ0_coder_7d493_10 ?_
  exact vx_iret hC hM (by decide) eJ0_coder_7d493_14 (⟨_, rfl, by rfl, xs_0.rf _ _ _ _ _⟩)
set_option maxHeartbeats 4000000 in
set_option maxRecDepth 100000 in
theorem kJ0_isLatin1_aae02 (G : xg_T) (d : Nat) (n : Nat) (tau : Nat → Nat × Nat) (vi vl : Nat → Int → Int) (vr : Nat → Int → Option Nat) (i : Nat) (hi : i < 8) : xm G yJ0_isLatin1_aae02 cJ0_isLatin1_aae02 1 (some .boolean) (d + 1) 0 0 [xa_r (1000002 + i)] n tau vi vl vr (xp_i (fun z9 n1 t1 a1 b1 c1 => z9 = 1 ∧ xs_0 n tau vi vl vr n1 t1 a1 b1 c1)) := by
  refine xm.of (lv := [(0, xa_r (1000002 + i))]) (by decide) (Nat.le_of_ble_eq_true rfl) rfl (fun K hC hM hRm => ?_)
  refine vx_compact hC wd_286 eJ0_isLatin1_aae02_0 ?_
  refine vx_if_eq hC (tgt := 17) (by omega) (by decide) eJ0_isLatin1_aae02_3 (fun c1 => absurd c1 (by omega)) (fun c1 => ?_)
  refine vx_aload_n hC 0 rfl eJ0_isLatin1_aae02_6 ?_
  refine vx_strCoder hC hi wd_1325 eJ0_isLatin1_aae02_7 ?_
  refine vx_if_ne hC (tgt := 17) (by omega) (by decide) eJ0_isLatin1_aae02_10 (fun c2 => absurd c2 (by omega)) (fun c2 => ?_)
  refine vx_iconst hC eJ0_isLatin1_aae02_13 ?_
  refine vx_goto hC (tgt := 18) (by decide) eJ0_isLatin1_aae02_14 ?_
  exact vx_iret hC hM (by decide) eJ0_isLatin1_aae02_18 (⟨_, rfl, by rfl, xs_0.rf _ _ _ _ _⟩)
set_option maxHeartbeats 4000000 in
set_option maxRecDepth 100000 in
theorem kJ0_length_8abf5 (G : xg_T) (d : Nat) (n : Nat) (tau : Nat → Nat × Nat) (vi vl : Nat → Int → Int) (vr : Nat → Int → Option Nat) (i : Nat) (hi : i < 8) : xm G yJ0_length_8abf5 cJ0_length_8abf5 1 (some .int) (d + 2) 0 0 [xa_r (1000002 + i)] n tau vi vl vr (xp_i (fun z9 n1 t1 a1 b1 c1 => z9 = ((xw_byt.getD i []).length : Int) ∧ xs_0 n tau vi vl vr n1 t1 a1 b1 c1)) := by
  refine xm.of (lv := [(0, xa_r (1000002 + i))]) (by decide) (Nat.le_of_ble_eq_true rfl) rfl (fun K hC hM hRm => ?_)
  refine vx_aload_n hC 0 rfl eJ0_length_8abf5_0 ?_
  refine vx_strValue hC hi wd_1324 eJ0_length_8abf5_1 ?_
  refine vx_strLen hC hi eJ0_length_8abf5_4 ?_
  refine vx_aload_n hC 0 rfl eJ0_length_8abf5_5 ?_
  refine vx_callX_i hC (kJ0_coder_7d493 G d _ _ _ _ _ _ hi) ly_J0_335 hi rfl rfl hRm (by omega) (Nat.le_of_ble_eq_true rfl) rfl eJ0_length_8abf5_6 (fun x1 n9 t9 a9 b9 c9 hx1 => ?_)
  obtain ⟨hx1, rfl, rfl, rfl, rfl, rfl⟩ := hx1
  subst hx1
  refine vx_ishr hC eJ0_length_8abf5_9 ?_
  refine vx_eqi (tb_len i hi) ?_
  exact vx_iret hC hM rfl eJ0_length_8abf5_10 (⟨_, rfl, by rfl, xs_0.rf _ _ _ _ _⟩)
set_option maxHeartbeats 4000000 in
set_option maxRecDepth 100000 in
theorem kJ3_checkIndex_8e157 (G : xg_T) (d : Nat) (n : Nat) (tau : Nat → Nat × Nat) (vi vl : Nat → Int → Int) (vr : Nat → Int → Option Nat) (z ln : Int) (hz : 0 ≤ z ∧ z < ln ∧ ln < 2147483648) (r : Option Nat) : xm G yJ3_checkIndex_8e157 cJ3_checkIndex_8e157 3 (some .int) (d + 1) 0 0 [xa_i z, xa_i ln, xa_q r] n tau vi vl vr (xp_i (fun z9 n1 t1 a1 b1 c1 => z9 = z ∧ xs_0 n tau vi vl vr n1 t1 a1 b1 c1)) := by
  refine xm.of (lv := [(0, xa_i z), (1, xa_i ln), (2, xa_q r)]) (by decide) (Nat.le_of_ble_eq_true rfl) rfl (fun K hC hM hRm => ?_)
  refine vx_iload_n hC 0 rfl eJ3_checkIndex_8e157_0 ?_
  refine vx_if_lt hC (tgt := 9) (by omega) (by decide) eJ3_checkIndex_8e157_1 (fun c1 => absurd c1 (by omega)) (fun c1 => ?_)
  refine vx_iload_n hC 0 rfl eJ3_checkIndex_8e157_4 ?_
  refine vx_iload_n hC 1 rfl eJ3_checkIndex_8e157_5 ?_
  refine vx_icmp_lt hC (tgt := 16) (by omega) (by decide) eJ3_checkIndex_8e157_6 (fun c2 => ?_) (fun c2 => absurd c2 (by omega))
  refine vx_iload_n hC 0 rfl eJ3_checkIndex_8e157_16 ?_
  exact vx_iret hC hM rfl eJ3_checkIndex_8e157_17 (⟨_, rfl, by rfl, xs_0.rf _ _ _ _ _⟩)
set_option maxHeartbeats 4000000 in
set_option maxRecDepth 100000 in
theorem kJ0_checkIndex_df160 (G : xg_T) (d : Nat) (n : Nat) (tau : Nat → Nat × Nat) (vi vl : Nat → Int → Int) (vr : Nat → Int → Option Nat) (z ln : Int) (hz : 0 ≤ z ∧ z < ln ∧ ln < 2147483648) : xm G yJ0_checkIndex_df160 cJ0_checkIndex_df160 2 none (d + 2) 0 0 [xa_i z, xa_i ln] n tau vi vl vr (xp_v (fun n1 t1 a1 b1 c1 => xs_0 n tau vi vl vr n1 t1 a1 b1 c1)) := by
  refine xm.of (lv := [(0, xa_i z), (1, xa_i ln)]) (by decide) (Nat.le_of_ble_eq_true rfl) rfl (fun K hC hM hRm => ?_)
  refine vx_iload_n hC 0 rfl eJ0_checkIndex_df160_0 ?_
  refine vx_iload_n hC 1 rfl eJ0_checkIndex_df160_1 ?_
  refine vx_sioobe hC wd_302 eJ0_checkIndex_df160_2 (fun r1 => ?_)
  refine vx_callS_i hC (kJ3_checkIndex_8e157 G d _ _ _ _ _ _ _ (by omega) _) ly_J0_1059 rfl hRm (by omega) (Nat.le_of_ble_eq_true rfl) rfl eJ0_checkIndex_df160_5 (fun x2 n9 t9 a9 b9 c9 hx2 => ?_)
  obtain ⟨hx2, rfl, rfl, rfl, rfl, rfl⟩ := hx2
  refine vx_pop hC rfl eJ0_checkIndex_df160_8 ?_
  exact vx_vret hC hM eJ0_checkIndex_df160_9 (⟨rfl, xs_0.rf _ _ _ _ _⟩)
set_option maxHeartbeats 4000000 in
set_option maxRecDepth 100000 in
theorem kJ1_charAt_3b067 (G : xg_T) (d : Nat) (n : Nat) (tau : Nat → Nat × Nat) (vi vl : Nat → Int → Int) (vr : Nat → Int → Option Nat) (i : Nat) (hi : i < 8) (z : Int) (hz : 0 ≤ z ∧ z < ((xw_byt.getD i []).length : Int)) : xm G yJ1_charAt_3b067 cJ1_charAt_3b067 2 (some .char) (d + 3) 0 0 [xa_r (1000010 + i), xa_i z] n tau vi vl vr (xp_i (fun z9 n1 t1 a1 b1 c1 => z9 = (xw_byt.getD i []).getD z.toNat 0 ∧ xs_0 n tau vi vl vr n1 t1 a1 b1 c1)) := by
  refine xm.of (lv := [(0, xa_r (1000010 + i)), (1, xa_i z)]) (by decide) (Nat.le_of_ble_eq_true rfl) rfl (fun K hC hM hRm => ?_)
  have h10 := tb_l10 i hi
  have hb := tb_b i hi z.toNat (by omega)
  refine vx_iload_n hC 1 rfl eJ1_charAt_3b067_0 ?_
  refine vx_aload_n hC 0 rfl eJ1_charAt_3b067_1 ?_
  refine vx_strLen hC hi eJ1_charAt_3b067_2 ?_
  refine vx_callS_v hC (kJ0_checkIndex_df160 G d _ _ _ _ _ _ _ (by omega)) ly_J1_9 rfl hRm (by omega) (Nat.le_of_ble_eq_true rfl) rfl eJ1_charAt_3b067_3 (fun n9 t9 a9 b9 c9 hx1 => ?_)
  obtain ⟨rfl, rfl, rfl, rfl, rfl⟩ := hx1
  refine vx_aload_n hC 0 rfl eJ1_charAt_3b067_6 ?_
  refine vx_iload_n hC 1 rfl eJ1_charAt_3b067_7 ?_
  refine vx_strByte hC hi (by omega) eJ1_charAt_3b067_8 ?_
  refine vx_sipush hC (by decide) eJ1_charAt_3b067_9 ?_
  refine vx_iand hC eJ1_charAt_3b067_12 ?_
  refine vx_eqi (tb_and i hi z.toNat (by omega)) ?_
  refine vx_i2c hC (by omega) eJ1_charAt_3b067_13 ?_
  exact vx_iret hC hM (tb_nc i hi z.toNat (by omega)) eJ1_charAt_3b067_14 (⟨_, rfl, by rfl, xs_0.rf _ _ _ _ _⟩)
set_option maxHeartbeats 4000000 in
set_option maxRecDepth 100000 in
theorem kJ0_charAt_5068e (G : xg_T) (d : Nat) (n : Nat) (tau : Nat → Nat × Nat) (vi vl : Nat → Int → Int) (vr : Nat → Int → Option Nat) (i : Nat) (hi : i < 8) (z : Int) (hz : 0 ≤ z ∧ z < ((xw_byt.getD i []).length : Int)) : xm G yJ0_charAt_5068e cJ0_charAt_5068e 2 (some .char) (d + 4) 0 0 [xa_r (1000002 + i), xa_i z] n tau vi vl vr (xp_i (fun z9 n1 t1 a1 b1 c1 => z9 = (xw_byt.getD i []).getD z.toNat 0 ∧ xs_0 n tau vi vl vr n1 t1 a1 b1 c1)) := by
  refine xm.of (lv := [(0, xa_r (1000002 + i)), (1, xa_i z)]) (by decide) (Nat.le_of_ble_eq_true rfl) rfl (fun K hC hM hRm => ?_)
  have h10 := tb_l10 i hi
  refine vx_aload_n hC 0 rfl eJ0_charAt_5068e_0 ?_
  refine vx_callX_i hC (kJ0_isLatin1_aae02 G (d + 2) _ _ _ _ _ _ hi) ly_J0_492 hi rfl rfl hRm (by omega) (Nat.le_of_ble_eq_true rfl) rfl eJ0_charAt_5068e_1 (fun x1 n9 t9 a9 b9 c9 hx1 => ?_)
  obtain ⟨hx1, rfl, rfl, rfl, rfl, rfl⟩ := hx1
  refine vx_if_eq hC (tgt := 16) (by omega) (by decide) eJ0_charAt_5068e_4 (fun c2 => absurd c2 (by omega)) (fun c2 => ?_)
  refine vx_aload_n hC 0 rfl eJ0_charAt_5068e_7 ?_
  refine vx_strValue hC hi wd_1324 eJ0_charAt_5068e_8 ?_
  refine vx_iload_n hC 1 rfl eJ0_charAt_5068e_11 ?_
  refine vx_callS_i hC (kJ1_charAt_3b067 G d _ _ _ _ _ _ hi z (by omega)) ly_J0_495 rfl hRm (by omega) (Nat.le_of_ble_eq_true rfl) rfl eJ0_charAt_5068e_12 (fun x3 n9 t9 a9 b9 c9 hx3 => ?_)
  obtain ⟨hx3, rfl, rfl, rfl, rfl, rfl⟩ := hx3
  exact vx_iret hC hM (by simp only [hx3]; exact tb_nc i hi z.toNat (by omega)) eJ0_charAt_5068e_15 (⟨_, rfl, by simp only [hx3], xs_0.rf _ _ _ _ _⟩)
set_option maxHeartbeats 4000000 in
set_option maxRecDepth 100000 in
theorem kJ1_canEncode_9a6ad (G : xg_T) (d : Nat) (n : Nat) (tau : Nat → Nat × Nat) (vi vl : Nat → Int → Int) (vr : Nat → Int → Option Nat) (ch : Int) (hc : -1 ≤ ch ∧ ch ≤ 127) : xm G yJ1_canEncode_9a6ad cJ1_canEncode_9a6ad 1 (some .boolean) (d + 1) 0 0 [xa_i ch] n tau vi vl vr (xp_i (fun z9 n1 t1 a1 b1 c1 => ((z9 = 1 ∧ 0 ≤ ch) ∨ (z9 = 0 ∧ ch < 0)) ∧ xs_0 n tau vi vl vr n1 t1 a1 b1 c1)) := by
  refine xm.of (lv := [(0, xa_i ch)]) (by decide) (Nat.le_of_ble_eq_true rfl) rfl (fun K hC hM hRm => ?_)
  refine vx_iload_n hC 0 rfl eJ1_canEncode_9a6ad_0 ?_
  refine vx_if_lt hC (tgt := 15) (by omega) (by decide) eJ1_canEncode_9a6ad_1 (fun c1 => ?_) (fun c1 => ?_)
  · refine vx_iconst hC eJ1_canEncode_9a6ad_15 ?_
    exact vx_iret hC hM (by decide) eJ1_canEncode_9a6ad_16 (⟨_, rfl, by omega, xs_0.rf _ _ _ _ _⟩)
  · refine vx_iload_n hC 0 rfl eJ1_canEncode_9a6ad_4 ?_
    refine vx_sipush hC (by decide) eJ1_canEncode_9a6ad_5 ?_
    refine vx_icmp_gt hC (tgt := 15) (by omega) (by decide) eJ1_canEncode_9a6ad_8 (fun c2 => ?_) (fun c2 => ?_)
    · refine vx_iconst hC eJ1_canEncode_9a6ad_15 ?_
      exact vx_iret hC hM (by decide) eJ1_canEncode_9a6ad_16 (⟨_, rfl, by omega, xs_0.rf _ _ _ _ _⟩)
    · refine vx_iconst hC eJ1_canEncode_9a6ad_11 ?_
      refine vx_goto hC (tgt := 16) (by decide) eJ1_canEncode_9a6ad_12 ?_
      exact vx_iret hC hM (by decide) eJ1_canEncode_9a6ad_16 (⟨_, rfl, by omega, xs_0.rf _ _ _ _ _⟩)
set_option maxHeartbeats 4000000 in
set_option maxRecDepth 100000 in
theorem kJ1_indexOfChar_4cfef (G : xg_T) (d : Nat) (n : Nat) (tau : Nat → Nat × Nat) (vi vl : Nat → Int → Int) (vr : Nat → Int → Option Nat) (i : Nat) (hi : i < 8) (ch : Int) (hc : 0 ≤ ch ∧ ch ≤ 127) : xm G yJ1_indexOfChar_4cfef cJ1_indexOfChar_4cfef 6 (some .int) (d + 1) 0 0 [xa_r (1000010 + i), xa_i ch, xa_i 0, xa_i ((xw_byt.getD i []).length : Int)] n tau vi vl vr (xp_i (fun z9 n1 t1 a1 b1 c1 => z9 = tix ch (xw_byt.getD i []) 0 ∧ xs_0 n tau vi vl vr n1 t1 a1 b1 c1)) := by
  refine xm.of (lv := [(0, xa_r (1000010 + i)), (1, xa_i ch), (2, xa_i 0), (3, xa_i ((xw_byt.getD i []).length : Int))]) (by decide) (Nat.le_of_ble_eq_true rfl) rfl (fun K hC hM hRm => ?_)
  have h10 := tb_l10 i hi
  refine vx_iload_n hC 1 rfl eJ1_indexOfChar_4cfef_0 ?_
  refine vx_i2b hC (by omega) eJ1_indexOfChar_4cfef_1 ?_
  refine vx_istore hC (lv1 := [(4, xa_i ch), (0, xa_r (1000010 + i)), (1, xa_i ch), (2, xa_i 0), (3, xa_i ((xw_byt.getD i []).length : Int))]) (by decide) rfl eJ1_indexOfChar_4cfef_2 ?_
  refine vx_iload_n hC 3 rfl eJ1_indexOfChar_4cfef_4 ?_
  refine vx_istore hC (lv1 := [(5, xa_i 0), (4, xa_i ch), (0, xa_r (1000010 + i)), (1, xa_i ch), (2, xa_i 0), (3, xa_i ((xw_byt.getD i []).length : Int))]) (by decide) rfl eJ1_indexOfChar_4cfef_5 ?_
  have LP7 : ∀ (j : Nat) (jj : Int) (hj0 : 0 ≤ jj ∧ jj ≤ ((xw_byt.getD i []).length : Int)) (hres : tix ch ((xw_byt.getD i []).drop jj.toNat) jj = tix ch (xw_byt.getD i []) 0) (hj : ((xw_byt.getD i []).length : Int) - jj < (j : Int)), xv G K 6 (xk_Q G K (xp_i (fun z9 n1 t1 a1 b1 c1 => z9 = tix ch (xw_byt.getD i []) 0 ∧ xs_0 n tau vi vl vr n1 t1 a1 b1 c1)) 0 0) 0 0 n tau vi vl vr 7 [(5, xa_i jj), (4, xa_i ch), (0, xa_r (1000010 + i)), (1, xa_i ch), (2, xa_i 0), (3, xa_i ((xw_byt.getD i []).length : Int))] [] := by
    intro j
    induction j with
    | zero => intro jj hj0 hres hj; exfalso; omega
    | succ j ih =>
      intro jj hj0 hres hj
      refine vx_iload hC 0 rfl eJ1_indexOfChar_4cfef_7 ?_
      refine vx_iload_n hC 5 rfl eJ1_indexOfChar_4cfef_9 ?_
      refine vx_icmp_ge hC (tgt := 31) (by omega) (by decide) eJ1_indexOfChar_4cfef_10 (fun c1 => ?_) (fun c1 => ?_)
      · refine vx_iconst hC eJ1_indexOfChar_4cfef_31 ?_
        exact vx_iret hC hM rfl eJ1_indexOfChar_4cfef_32 (⟨_, rfl, by rw [← hres]; first | (rw [tix_end (by omega)]) | (rw [tix_step (by omega), if_pos (by omega)]), xs_0.rf _ _ _ _ _⟩)
      · have hb := tb_b i hi jj.toNat (by omega)
        refine vx_aload_n hC 2 rfl eJ1_indexOfChar_4cfef_13 ?_
        refine vx_iload hC 0 rfl eJ1_indexOfChar_4cfef_14 ?_
        refine vx_strByte hC hi (by omega) eJ1_indexOfChar_4cfef_16 ?_
        refine vx_iload hC 1 rfl eJ1_indexOfChar_4cfef_17 ?_
        refine vx_icmp_ne hC (tgt := 25) (by omega) (by decide) eJ1_indexOfChar_4cfef_19 (fun c2 => ?_) (fun c2 => ?_)
        · refine vx_iinc hC (lv1 := [(5, xa_i (jj + 1)), (4, xa_i ch), (0, xa_r (1000010 + i)), (1, xa_i ch), (2, xa_i 0), (3, xa_i ((xw_byt.getD i []).length : Int))]) 0 rfl (by decide) rfl eJ1_indexOfChar_4cfef_25 ?_
          refine vx_goto hC (tgt := 7) (by decide) eJ1_indexOfChar_4cfef_28 ?_
          exact ih (jj + 1) (by omega) (by rw [← hres, tix_step (j := jj.toNat) (k := jj) (by omega), if_neg (by omega), show (jj + 1).toNat = jj.toNat + 1 by omega]) (by omega)
        · refine vx_iload hC 0 rfl eJ1_indexOfChar_4cfef_22 ?_
          exact vx_iret hC hM rfl eJ1_indexOfChar_4cfef_24 (⟨_, rfl, by rw [← hres]; first | (rw [tix_end (by omega)]) | (rw [tix_step (by omega), if_pos (by omega)]), xs_0.rf _ _ _ _ _⟩)
  exact LP7 11 0 (by omega) rfl (by omega)
set_option maxHeartbeats 4000000 in
set_option maxRecDepth 100000 in
theorem kJ1_indexOf_4cfef (G : xg_T) (d : Nat) (n : Nat) (tau : Nat → Nat × Nat) (vi vl : Nat → Int → Int) (vr : Nat → Int → Option Nat) (i : Nat) (hi : i < 8) (ch : Int) (hc : 0 ≤ ch ∧ ch ≤ 127) : xm G yJ1_indexOf_4cfef cJ1_indexOf_4cfef 4 (some .int) (d + 2) 0 0 [xa_r (1000010 + i), xa_i ch, xa_i 0, xa_i ((xw_byt.getD i []).length : Int)] n tau vi vl vr (xp_i (fun z9 n1 t1 a1 b1 c1 => z9 = tix ch (xw_byt.getD i []) 0 ∧ xs_0 n tau vi vl vr n1 t1 a1 b1 c1)) := by
  refine xm.of (lv := [(0, xa_r (1000010 + i)), (1, xa_i ch), (2, xa_i 0), (3, xa_i ((xw_byt.getD i []).length : Int))]) (by decide) (Nat.le_of_ble_eq_true rfl) rfl (fun K hC hM hRm => ?_)
  have h10 := tb_l10 i hi
  have h0l : 0 < (xw_byt.getD i []).length := by have : ∀ i, i < 8 → 0 < (xw_byt.getD i []).length := (by decide); exact this i hi
  refine vx_iload_n hC 1 rfl eJ1_indexOf_4cfef_0 ?_
  refine vx_callS_i hC (kJ1_canEncode_9a6ad G d _ _ _ _ _ _ (by omega)) ly_J1_88 rfl hRm (by omega) (Nat.le_of_ble_eq_true rfl) rfl eJ1_indexOf_4cfef_1 (fun x1 n9 t9 a9 b9 c9 hx1 => ?_)
  obtain ⟨hx1, rfl, rfl, rfl, rfl, rfl⟩ := hx1
  refine vx_if_ne hC (tgt := 9) (by omega) (by decide) eJ1_indexOf_4cfef_4 (fun c2 => ?_) (fun c2 => absurd c2 (by omega))
  refine vx_iload_n hC 2 rfl eJ1_indexOf_4cfef_9 ?_
  refine vx_iconst hC eJ1_indexOf_4cfef_10 ?_
  refine vx_mmax hC (by omega) ly_J1_92 hRm (by omega) (Nat.le_of_ble_eq_true rfl) eJ1_indexOf_4cfef_11 ?_
  refine vx_eqi (y := 0) (by split <;> omega) ?_
  refine vx_istore_n hC (lv1 := [(2, xa_i 0), (0, xa_r (1000010 + i)), (1, xa_i ch), (3, xa_i ((xw_byt.getD i []).length : Int))]) (by decide) rfl eJ1_indexOf_4cfef_14 ?_
  refine vx_iload_n hC 3 rfl eJ1_indexOf_4cfef_15 ?_
  refine vx_aload_n hC 1 rfl eJ1_indexOf_4cfef_16 ?_
  refine vx_strLen hC hi eJ1_indexOf_4cfef_17 ?_
  refine vx_mmin hC (by omega) ly_J1_38 hRm (by omega) (Nat.le_of_ble_eq_true rfl) eJ1_indexOf_4cfef_18 ?_
  refine vx_eqi (y := ((xw_byt.getD i []).length : Int)) (by split <;> omega) ?_
  refine vx_istore_n hC (lv1 := [(3, xa_i ((xw_byt.getD i []).length : Int)), (2, xa_i 0), (0, xa_r (1000010 + i)), (1, xa_i ch)]) (by decide) rfl eJ1_indexOf_4cfef_21 ?_
  refine vx_iload_n hC 1 rfl eJ1_indexOf_4cfef_22 ?_
  refine vx_iload_n hC 0 rfl eJ1_indexOf_4cfef_23 ?_
  refine vx_icmp_lt hC (tgt := 29) (by omega) (by decide) eJ1_indexOf_4cfef_24 (fun c3 => ?_) (fun c3 => absurd c3 (by omega))
  refine vx_aload_n hC 2 rfl eJ1_indexOf_4cfef_29 ?_
  refine vx_iload_n hC 3 rfl eJ1_indexOf_4cfef_30 ?_
  refine vx_iload_n hC 1 rfl eJ1_indexOf_4cfef_31 ?_
  refine vx_iload_n hC 0 rfl eJ1_indexOf_4cfef_32 ?_
  refine vx_callS_i hC (kJ1_indexOfChar_4cfef G d _ _ _ _ _ _ hi _ (by omega)) ly_J1_95 rfl hRm (by omega) (Nat.le_of_ble_eq_true rfl) rfl eJ1_indexOf_4cfef_33 (fun x4 n9 t9 a9 b9 c9 hx4 => ?_)
  obtain ⟨hx4, rfl, rfl, rfl, rfl, rfl⟩ := hx4
  exact vx_iret hC hM rfl eJ1_indexOf_4cfef_36 (⟨_, rfl, by simp only [hx4], xs_0.rf _ _ _ _ _⟩)
set_option maxHeartbeats 4000000 in
set_option maxRecDepth 100000 in
theorem kJ0_indexOf_7cf53 (G : xg_T) (d : Nat) (n : Nat) (tau : Nat → Nat × Nat) (vi vl : Nat → Int → Int) (vr : Nat → Int → Option Nat) (i : Nat) (hi : i < 8) (ch : Int) (hc : 0 ≤ ch ∧ ch ≤ 127) : xm G yJ0_indexOf_7cf53 cJ0_indexOf_7cf53 3 (some .int) (d + 3) 0 0 [xa_r (1000002 + i), xa_i ch, xa_i 0] n tau vi vl vr (xp_i (fun z9 n1 t1 a1 b1 c1 => z9 = tix ch (xw_byt.getD i []) 0 ∧ xs_0 n tau vi vl vr n1 t1 a1 b1 c1)) := by
  refine xm.of (lv := [(0, xa_r (1000002 + i)), (1, xa_i ch), (2, xa_i 0)]) (by decide) (Nat.le_of_ble_eq_true rfl) rfl (fun K hC hM hRm => ?_)
  refine vx_aload_n hC 0 rfl eJ0_indexOf_7cf53_0 ?_
  refine vx_callX_i hC (kJ0_isLatin1_aae02 G (d + 1) _ _ _ _ _ _ hi) ly_J0_492 hi rfl rfl hRm (by omega) (Nat.le_of_ble_eq_true rfl) rfl eJ0_indexOf_7cf53_1 (fun x1 n9 t9 a9 b9 c9 hx1 => ?_)
  obtain ⟨hx1, rfl, rfl, rfl, rfl, rfl⟩ := hx1
  refine vx_if_eq hC (tgt := 23) (by omega) (by decide) eJ0_indexOf_7cf53_4 (fun c2 => absurd c2 (by omega)) (fun c2 => ?_)
  refine vx_aload_n hC 0 rfl eJ0_indexOf_7cf53_7 ?_
  refine vx_strValue hC hi wd_1324 eJ0_indexOf_7cf53_8 ?_
  refine vx_iload_n hC 1 rfl eJ0_indexOf_7cf53_11 ?_
  refine vx_iload_n hC 2 rfl eJ0_indexOf_7cf53_12 ?_
  refine vx_aload_n hC 0 rfl eJ0_indexOf_7cf53_13 ?_
  refine vx_callX_i hC (kJ0_length_8abf5 G d _ _ _ _ _ _ hi) ly_J0_505 hi rfl rfl hRm (by omega) (Nat.le_of_ble_eq_true rfl) rfl eJ0_indexOf_7cf53_14 (fun x3 n9 t9 a9 b9 c9 hx3 => ?_)
  obtain ⟨hx3, rfl, rfl, rfl, rfl, rfl⟩ := hx3
  subst hx3
  refine vx_callS_i hC (kJ1_indexOf_4cfef G d _ _ _ _ _ _ hi _ (by omega)) ly_J0_637 rfl hRm (by omega) (Nat.le_of_ble_eq_true rfl) rfl eJ0_indexOf_7cf53_17 (fun x4 n9 t9 a9 b9 c9 hx4 => ?_)
  obtain ⟨hx4, rfl, rfl, rfl, rfl, rfl⟩ := hx4
  refine vx_goto hC (tgt := 36) (by decide) eJ0_indexOf_7cf53_20 ?_
  exact vx_iret hC hM rfl eJ0_indexOf_7cf53_36 (⟨_, rfl, by simp only [hx4], xs_0.rf _ _ _ _ _⟩)
set_option maxHeartbeats 4000000 in
set_option maxRecDepth 100000 in
theorem kJ0_indexOf_0f7a4 (G : xg_T) (d : Nat) (n : Nat) (tau : Nat → Nat × Nat) (vi vl : Nat → Int → Int) (vr : Nat → Int → Option Nat) (i : Nat) (hi : i < 8) (ch : Int) (hc : 0 ≤ ch ∧ ch ≤ 127) : xm G yJ0_indexOf_0f7a4 cJ0_indexOf_0f7a4 2 (some .int) (d + 4) 0 0 [xa_r (1000002 + i), xa_i ch] n tau vi vl vr (xp_i (fun z9 n1 t1 a1 b1 c1 => z9 = tix ch (xw_byt.getD i []) 0 ∧ xs_0 n tau vi vl vr n1 t1 a1 b1 c1)) := by
  refine xm.of (lv := [(0, xa_r (1000002 + i)), (1, xa_i ch)]) (by decide) (Nat.le_of_ble_eq_true rfl) rfl (fun K hC hM hRm => ?_)
  refine vx_aload_n hC 0 rfl eJ0_indexOf_0f7a4_0 ?_
  refine vx_iload_n hC 1 rfl eJ0_indexOf_0f7a4_1 ?_
  refine vx_iconst hC eJ0_indexOf_0f7a4_2 ?_
  refine vx_callX_i hC (kJ0_indexOf_7cf53 G d _ _ _ _ _ _ hi _ (by omega)) ly_J0_633 hi rfl rfl hRm (by omega) (Nat.le_of_ble_eq_true rfl) rfl eJ0_indexOf_0f7a4_3 (fun x1 n9 t9 a9 b9 c9 hx1 => ?_)
  obtain ⟨hx1, rfl, rfl, rfl, rfl, rfl⟩ := hx1
  exact vx_iret hC hM rfl eJ0_indexOf_0f7a4_6 (⟨_, rfl, by simp only [hx1], xs_0.rf _ _ _ _ _⟩)
