theorem b3_andN {a b : Nat} (ha : a < 2147483648) (hb : b < 2147483648) : (Int32.ofInt (a : Int) &&& Int32.ofInt (b : Int)).toInt = ((a &&& b : Nat) : Int) := by
  have hle : a &&& b ≤ a := Nat.and_le_left
  rw [b3_of (m := a &&& b) ?_ (by omega)]
  show ((Int32.ofInt (a : Int)).toBitVec &&& (Int32.ofInt (b : Int)).toBitVec).toNat = _
  rw [BitVec.toNat_and, b3_tn ha, b3_tn hb]
theorem b3_us : ∀ {k : Nat}, k < 25 → ((Int32.ofInt (k : Int)).toUInt32 &&& Int32.toUInt32 31).toNat % 32 = k := by decide
theorem b3_ushr {a k : Nat} (ha : a < 2147483648) (hk : k < 25) : ((Int32.ofInt (a : Int)).toUInt32 >>> ((Int32.ofInt (k : Int)).toUInt32 &&& Int32.toUInt32 31)).toInt32.toInt = ((a / 2 ^ k : Nat) : Int) := by
  have hle : a / 2 ^ k ≤ a := Nat.div_le_self _ _
  rw [b3_of (m := a / 2 ^ k) ?_ (by omega)]
  show ((Int32.ofInt (a : Int)).toUInt32 >>> ((Int32.ofInt (k : Int)).toUInt32 &&& Int32.toUInt32 31)).toNat = _
  rw [UInt32.toNat_shiftRight, b3_us hk, Nat.shiftRight_eq_div_pow]
  show (Int32.ofInt (a : Int)).toBitVec.toNat / _ = _
  rw [b3_tn ha]
theorem and_byte {a c m M : Nat} (ha : a < 256) (hm : m < 256) : (256 * c + a) &&& (256 * M + m) = 256 * (c &&& M) + (a &&& m) := by
  have hle : a &&& m ≤ a := Nat.and_le_left
  apply Nat.eq_of_testBit_eq
  intro i
  rw [Nat.testBit_and, show 256 * c + a = 2 ^ 8 * c + a from rfl, show 256 * M + m = 2 ^ 8 * M + m from rfl, show 256 * (c &&& M) + (a &&& m) = 2 ^ 8 * (c &&& M) + (a &&& m) from rfl, Nat.testBit_two_pow_mul_add _ (by omega), Nat.testBit_two_pow_mul_add _ (by omega), Nat.testBit_two_pow_mul_add _ (by omega)]
  split
  · rw [Nat.testBit_and]
  · rw [Nat.testBit_and]
theorem and_3 {a b c m M N : Nat} (ha : a < 256) (hb : b < 256) (hm : m < 256) (hM : M < 256) : (65536 * c + 256 * b + a) &&& (65536 * N + 256 * M + m) = 65536 * (c &&& N) + 256 * (b &&& M) + (a &&& m) := by
  rw [show 65536 * c + 256 * b + a = 256 * (256 * c + b) + a by omega, show 65536 * N + 256 * M + m = 256 * (256 * N + M) + m by omega, and_byte ha hm, and_byte hb hM]
  omega
def pop8 (b : Nat) : Nat := b % 2 + b / 2 % 2 + b / 4 % 2 + b / 8 % 2 + b / 16 % 2 + b / 32 % 2 + b / 64 % 2 + b / 128 % 2
def bc_1 (b : Nat) : Nat := b - ((b / 2) &&& 85)
def bc_2 (y : Nat) : Nat := (y &&& 51) + ((y / 4) &&& 51)
def bc_3 (z : Nat) : Nat := (z + z / 16) &&& 15
theorem bc_p : ∀ b : Nat, b < 256 → bc_3 (bc_2 (bc_1 b)) = pop8 b ∧ pop8 b ≤ 8 ∧ ((b / 2) &&& 85) ≤ b ∧ bc_2 (bc_1 b) ≤ 68 ∧ bc_2 (bc_1 b) % 16 ≤ 4 := by decide +kernel
theorem bc_c1 : ∀ b : Nat, b < 256 → ∀ c : Nat, c < 2 → ((b / 2 + 128 * c) &&& 85) = ((b / 2) &&& 85) := by decide +kernel
theorem bc_c2 : ∀ b : Nat, b < 256 → ∀ c : Nat, c < 4 → ((b / 4 + 64 * c) &&& 51) = ((b / 4) &&& 51) := by decide +kernel
theorem bc_c3 : ∀ z : Nat, z < 69 → ∀ c : Nat, c < 5 → ((z + z / 16 + 16 * c) &&& 15) = bc_3 z := by decide +kernel
theorem bc_s1 {b0 b1 b2 : Nat} (h0 : b0 < 256) (h1 : b1 < 256) (h2 : b2 < 256) : ((65536 * b2 + 256 * b1 + b0) / 2) &&& 1431655765 = 65536 * ((b2 / 2) &&& 85) + 256 * ((b1 / 2) &&& 85) + ((b0 / 2) &&& 85) := by
  rw [show (65536 * b2 + 256 * b1 + b0) / 2 = 65536 * (b2 / 2) + 256 * (b1 / 2 + 128 * (b2 % 2)) + (b0 / 2 + 128 * (b1 % 2)) by omega, show (1431655765 : Nat) = 65536 * 21845 + 256 * 85 + 85 from rfl, and_3 (by omega) (by omega) (by decide) (by decide), bc_c1 b0 h0 _ (by omega), bc_c1 b1 h1 _ (by omega)]
  rw [show (21845 : Nat) = 256 * 85 + 85 from rfl]
  have := and_byte (a := b2 / 2) (c := 0) (m := 85) (M := 85) (by omega) (by decide)
  rw [Nat.mul_zero, Nat.zero_add, Nat.zero_and, Nat.mul_zero, Nat.zero_add] at this
  rw [this]
theorem and_top {a m M : Nat} (ha : a < 256) (hm : m < 256) : a &&& (256 * M + m) = a &&& m := by
  have := and_byte (a := a) (c := 0) (m := m) (M := M) ha hm
  rw [Nat.mul_zero, Nat.zero_add, Nat.zero_and, Nat.mul_zero, Nat.zero_add] at this
  exact this
theorem bc_s2 {b0 b1 b2 : Nat} (h0 : b0 < 256) (h1 : b1 < 256) (h2 : b2 < 256) : ((65536 * b2 + 256 * b1 + b0) / 4) &&& 858993459 = 65536 * ((b2 / 4) &&& 51) + 256 * ((b1 / 4) &&& 51) + ((b0 / 4) &&& 51) := by
  rw [show (65536 * b2 + 256 * b1 + b0) / 4 = 65536 * (b2 / 4) + 256 * (b1 / 4 + 64 * (b2 % 4)) + (b0 / 4 + 64 * (b1 % 4)) by omega, show (858993459 : Nat) = 65536 * 13107 + 256 * 51 + 51 from rfl, and_3 (by omega) (by omega) (by decide) (by decide), bc_c2 b0 h0 _ (by omega), bc_c2 b1 h1 _ (by omega), show (13107 : Nat) = 256 * 51 + 51 from rfl, and_top (by omega) (by decide)]
theorem bc_s2b {b0 b1 b2 : Nat} (h0 : b0 < 256) (h1 : b1 < 256) (h2 : b2 < 256) : (65536 * b2 + 256 * b1 + b0) &&& 858993459 = 65536 * (b2 &&& 51) + 256 * (b1 &&& 51) + (b0 &&& 51) := by
  rw [show (858993459 : Nat) = 65536 * 13107 + 256 * 51 + 51 from rfl, and_3 (by omega) (by omega) (by decide) (by decide), show (13107 : Nat) = 256 * 51 + 51 from rfl, and_top (by omega) (by decide)]
theorem bc_s3 {z0 z1 z2 : Nat} (h0 : z0 ≤ 68 ∧ z0 % 16 ≤ 4) (h1 : z1 ≤ 68 ∧ z1 % 16 ≤ 4) (h2 : z2 ≤ 68 ∧ z2 % 16 ≤ 4) : ((65536 * z2 + 256 * z1 + z0) + (65536 * z2 + 256 * z1 + z0) / 16) &&& 252645135 = 65536 * bc_3 z2 + 256 * bc_3 z1 + bc_3 z0 := by
  rw [show (65536 * z2 + 256 * z1 + z0) + (65536 * z2 + 256 * z1 + z0) / 16 = 65536 * (z2 + z2 / 16 + 16 * 0) + 256 * (z1 + z1 / 16 + 16 * (z2 % 16)) + (z0 + z0 / 16 + 16 * (z1 % 16)) by omega, show (252645135 : Nat) = 65536 * 3855 + 256 * 15 + 15 from rfl, and_3 (by omega) (by omega) (by decide) (by decide), show (3855 : Nat) = 256 * 15 + 15 from rfl, and_top (by omega) (by decide), bc_c3 z0 (by omega) _ (by omega), bc_c3 z1 (by omega) _ (by omega), bc_c3 z2 (by omega) _ (by omega)]
def bcn (B : Nat) : Nat := pop8 (B / 65536) + pop8 (B / 256 % 256) + pop8 (B % 256)
/-- the steps of the count, each as a sum of bytes -/
theorem bc_all {B : Nat} (h : B < 16777216) : ∃ y z w : Nat, y = B - ((B / 2) &&& 1431655765) ∧ ((B / 2) &&& 1431655765) ≤ B ∧ z = (y &&& 858993459) + ((y / 4) &&& 858993459) ∧ z < 16777216 ∧ w = ((z + z / 16) &&& 252645135) ∧ w < 16777216 ∧ ((w + w / 256) + (w + w / 256) / 65536) &&& 63 = bcn B := by
  have eB : B = 65536 * (B / 65536) + 256 * (B / 256 % 256) + B % 256 := by omega
  have g2 : B / 65536 < 256 := by omega
  have g1 : B / 256 % 256 < 256 := by omega
  have g0 : B % 256 < 256 := by omega
  unfold bcn
  generalize B / 65536 = b2 at *
  generalize B / 256 % 256 = b1 at *
  generalize B % 256 = b0 at *
  subst eB
  obtain ⟨p1, p2, p3, p4, p5⟩ := bc_p b0 g0
  obtain ⟨q1, q2, q3, q4, q5⟩ := bc_p b1 g1
  obtain ⟨r1, r2, r3, r4, r5⟩ := bc_p b2 g2
  have l0 : bc_1 b0 < 256 := by unfold bc_1; omega
  have l1 : bc_1 b1 < 256 := by unfold bc_1; omega
  have l2 : bc_1 b2 < 256 := by unfold bc_1; omega
  refine ⟨65536 * bc_1 b2 + 256 * bc_1 b1 + bc_1 b0, 65536 * bc_2 (bc_1 b2) + 256 * bc_2 (bc_1 b1) + bc_2 (bc_1 b0), 65536 * bc_3 (bc_2 (bc_1 b2)) + 256 * bc_3 (bc_2 (bc_1 b1)) + bc_3 (bc_2 (bc_1 b0)), ?_, ?_, ?_, by omega, ?_, by omega, ?_⟩
  · rw [bc_s1 g0 g1 g2]; unfold bc_1; omega
  · rw [bc_s1 g0 g1 g2]; omega
  · rw [bc_s2 l0 l1 l2, bc_s2b l0 l1 l2]; unfold bc_2; omega
  · rw [bc_s3 ⟨p4, p5⟩ ⟨q4, q5⟩ ⟨r4, r5⟩]
  · rw [p1, q1, r1]
    generalize pop8 b2 = x2 at *
    generalize pop8 b1 = x1 at *
    generalize pop8 b0 = x0 at *
    have e : ((65536 * x2 + 256 * x1 + x0) + (65536 * x2 + 256 * x1 + x0) / 256) + ((65536 * x2 + 256 * x1 + x0) + (65536 * x2 + 256 * x1 + x0) / 256) / 65536 = 256 * (256 * x2 + x1 + x2) + (x0 + x1 + x2) := by omega
    have := and_byte (a := x0 + x1 + x2) (c := 256 * x2 + x1 + x2) (m := 63) (M := 0) (by omega) (by decide)
    rw [e]
    rw [Nat.mul_zero, Nat.zero_add, Nat.and_zero, Nat.mul_zero, Nat.zero_add] at this
    rw [this]
    have e6 : (x0 + x1 + x2) &&& 63 = (x0 + x1 + x2) % 64 := Nat.and_two_pow_sub_one_eq_mod _ 6
    rw [e6]
    omega
def popn (b : Nat) : Nat → Nat
  | 0 => 0
  | k + 1 => popn b k + b / 2 ^ k % 2
theorem pn_a {b : Nat} : popn b 8 = 0 + pop8 (b % 256) := by
  show 0 + b / 2 ^ 0 % 2 + b / 2 ^ 1 % 2 + b / 2 ^ 2 % 2 + b / 2 ^ 3 % 2 + b / 2 ^ 4 % 2 + b / 2 ^ 5 % 2 + b / 2 ^ 6 % 2 + b / 2 ^ 7 % 2 = _
  unfold pop8
  rw [show b / 2 ^ 0 % 2 = (b % 256) % 2 by omega, show b / 2 ^ 1 % 2 = (b % 256) / 2 % 2 by omega, show b / 2 ^ 2 % 2 = (b % 256) / 4 % 2 by omega, show b / 2 ^ 3 % 2 = (b % 256) / 8 % 2 by omega, show b / 2 ^ 4 % 2 = (b % 256) / 16 % 2 by omega, show b / 2 ^ 5 % 2 = (b % 256) / 32 % 2 by omega, show b / 2 ^ 6 % 2 = (b % 256) / 64 % 2 by omega, show b / 2 ^ 7 % 2 = (b % 256) / 128 % 2 by omega]
  simp only [Nat.add_assoc]
theorem pn_b {b : Nat} : popn b 16 = popn b 8 + pop8 (b / 256 % 256) := by
  show popn b 8 + b / 2 ^ 8 % 2 + b / 2 ^ 9 % 2 + b / 2 ^ 10 % 2 + b / 2 ^ 11 % 2 + b / 2 ^ 12 % 2 + b / 2 ^ 13 % 2 + b / 2 ^ 14 % 2 + b / 2 ^ 15 % 2 = _
  unfold pop8
  rw [show b / 2 ^ 8 % 2 = (b / 256 % 256) % 2 by omega, show b / 2 ^ 9 % 2 = (b / 256 % 256) / 2 % 2 by omega, show b / 2 ^ 10 % 2 = (b / 256 % 256) / 4 % 2 by omega, show b / 2 ^ 11 % 2 = (b / 256 % 256) / 8 % 2 by omega, show b / 2 ^ 12 % 2 = (b / 256 % 256) / 16 % 2 by omega, show b / 2 ^ 13 % 2 = (b / 256 % 256) / 32 % 2 by omega, show b / 2 ^ 14 % 2 = (b / 256 % 256) / 64 % 2 by omega, show b / 2 ^ 15 % 2 = (b / 256 % 256) / 128 % 2 by omega]
  simp only [Nat.add_assoc]
theorem pn_c {b : Nat} : popn b 24 = popn b 16 + pop8 (b / 65536) := by
  show popn b 16 + b / 2 ^ 16 % 2 + b / 2 ^ 17 % 2 + b / 2 ^ 18 % 2 + b / 2 ^ 19 % 2 + b / 2 ^ 20 % 2 + b / 2 ^ 21 % 2 + b / 2 ^ 22 % 2 + b / 2 ^ 23 % 2 = _
  unfold pop8
  rw [show b / 2 ^ 16 % 2 = (b / 65536) % 2 by omega, show b / 2 ^ 17 % 2 = (b / 65536) / 2 % 2 by omega, show b / 2 ^ 18 % 2 = (b / 65536) / 4 % 2 by omega, show b / 2 ^ 19 % 2 = (b / 65536) / 8 % 2 by omega, show b / 2 ^ 20 % 2 = (b / 65536) / 16 % 2 by omega, show b / 2 ^ 21 % 2 = (b / 65536) / 32 % 2 by omega, show b / 2 ^ 22 % 2 = (b / 65536) / 64 % 2 by omega, show b / 2 ^ 23 % 2 = (b / 65536) / 128 % 2 by omega]
  simp only [Nat.add_assoc]
theorem bcn_p (b : Nat) : bcn b = popn b 24 := by
  unfold bcn
  rw [pn_c, pn_b, pn_a]
  omega
theorem wb_won {s : Int → Int} {n : Nat} (hn : n ≤ 24) (h : ∀ k : Nat, k < n → 0 ≤ s (42 + (k : Int)) ∧ s (42 + (k : Int)) ≤ 1) : ((bcn (wb s n).toNat : Nat) : Int) = ms_won s n := by
  have hr := wb_r (s := s) n h
  have hpw : (2 : Int) ^ n ≤ 16777216 := by have g9 := b3_pw (t := n) (by omega); have e9 : (2 : Int) ^ n = ((2 ^ n : Nat) : Int) := (by simp); rw [e9]; omega
  have e0 : (((wb s n).toNat : Nat) : Int) = wb s n := by omega
  rw [bcn_p]
  have eb : ∀ k : Nat, (((wb s n).toNat / 2 ^ k % 2 : Nat) : Int) = wb s n / (2 : Int) ^ k % 2 := by
    intro k
    rw [Int.natCast_emod, Int.natCast_ediv, e0]
    simp
  have e1 : ∀ k : Nat, k ≤ n → ((popn (wb s n).toNat k : Nat) : Int) = ms_won s k := by
    intro k
    induction k with
    | zero => intro _; rfl
    | succ k ih =>
      intro hk
      rw [popn, ms_won, Int.natCast_add, ih (by omega), eb, wb_bit n k (by omega) h]
  have e2 : ∀ k : Nat, popn (wb s n).toNat (n + k) = popn (wb s n).toNat n := by
    intro k
    induction k with
    | zero => rfl
    | succ k ih =>
      rw [show n + (k + 1) = (n + k) + 1 by omega, popn, ih]
      have hp : (2 : Nat) ^ n ≤ 2 ^ (n + k) := Nat.pow_le_pow_right (by decide) (by omega)
      have e9 : (2 : Int) ^ n = ((2 ^ n : Nat) : Int) := by simp
      rw [e9] at hr
      rw [Nat.div_eq_of_lt (by omega)]; rfl
  have e3 := e2 (24 - n)
  rw [show n + (24 - n) = 24 by omega] at e3
  rw [e3, e1 n (Nat.le_refl _)]
theorem sm_0 (w t : Int) : sm_run w t 11 0 (-5) 0 = sm_run w t 10 1 0 (ab (10 * w - 0 * t)) := by rw [sm_run, if_pos (Or.inl rfl)]; rfl
section XV
variable {G : xg_T} {K : xk_T} {cc : ByteArray} {own : String} {nL : Nat} {Q : State → Prop} {cells slots n : Nat} {tau : Nat → Nat × Nat} {vi vl : Nat → Int → Int} {vr : Nat → Int → Option Nat} {pc pc1 : Nat} {lv : List (Nat × xa_T)} {st : List xa_T}
theorem vx_ldcw (hC : xk_C G K cc own nL) {ix : Nat} (z : Int) (hw : Cond.constant own ix (Int32.ofInt z) ∈ xw_tbl) (hd : xd_D cc pc (.ldc_w ix) 3 pc1) (k : xv G K nL Q cells slots n tau vi vl vr pc1 lv (xa_i z :: st)) : xv G K nL Q cells slots n tau vi vl vr pc lv st := by
  obtain ⟨p, l, e, R, s, m, args, below, meth, c⟩ := K
  obtain ⟨hx, hb, hml, hown, hts, hE, hB, hB0⟩ := hC
  obtain ⟨hd, rfl⟩ := hd
  intro H locs ls hR hS hl
  exact lv_ldcw hx hb hown (hts _ hw) hd (k H locs ls hR hS hl)
end XV
set_option maxHeartbeats 4000000 in
set_option maxRecDepth 100000 in
theorem kJ6_bitCount_0f7a4 (G : xg_T) (d : Nat) (n : Nat) (tau : Nat → Nat × Nat) (vi vl : Nat → Int → Int) (vr : Nat → Int → Option Nat) (b : Nat) (hb : b < 16777216) : xm G yJ6_bitCount_0f7a4 cJ6_bitCount_0f7a4 1 (some .int) (d + 1) 0 0 [xa_i (b : Int)] n tau vi vl vr (xp_i (fun z9 n1 t1 a1 b1 c1 => z9 = ((bcn b : Nat) : Int) ∧ xs_0 n tau vi vl vr n1 t1 a1 b1 c1)) := by
  refine xm.of (lv := [(0, xa_i (b : Int))]) (by decide) (Nat.le_of_ble_eq_true rfl) rfl (fun K hC hM hRm => ?_)
  obtain ⟨y, z, w, hy1, hy2, hz1, hz2, hw1, hw2, hall⟩ := bc_all hb
  have hy3 : y < 2147483648 := by omega
  refine vx_iload_n hC 0 rfl eJ6_bitCount_0f7a4_0 ?_
  refine vx_iload_n hC 0 rfl eJ6_bitCount_0f7a4_1 ?_
  refine vx_iconst hC eJ6_bitCount_0f7a4_2 ?_
  refine vx_iushr hC eJ6_bitCount_0f7a4_3 ?_
  refine vx_eqi (y := ((b / 2 : Nat) : Int)) (b3_ushr (a := b) (k := 1) (by omega) (by decide)) ?_
  refine vx_ldcw hC (1431655765) wd_824 eJ6_bitCount_0f7a4_4 ?_
  refine vx_iand hC eJ6_bitCount_0f7a4_7 ?_
  refine vx_eqi (y := (((b / 2) &&& 1431655765 : Nat) : Int)) (b3_andN (a := b / 2) (b := 1431655765) (by omega) (by decide)) ?_
  refine vx_isub hC eJ6_bitCount_0f7a4_8 ?_
  refine vx_eqi (y := (y : Int)) (by omega) ?_
  refine vx_istore_n hC (lv1 := [(0, xa_i (y : Int))]) (by decide) rfl eJ6_bitCount_0f7a4_9 ?_
  refine vx_iload_n hC 0 rfl eJ6_bitCount_0f7a4_10 ?_
  refine vx_ldcw hC (858993459) wd_825 eJ6_bitCount_0f7a4_11 ?_
  refine vx_iand hC eJ6_bitCount_0f7a4_14 ?_
  refine vx_eqi (y := ((y &&& 858993459 : Nat) : Int)) (b3_andN (a := y) (b := 858993459) (by omega) (by decide)) ?_
  refine vx_iload_n hC 0 rfl eJ6_bitCount_0f7a4_15 ?_
  refine vx_iconst hC eJ6_bitCount_0f7a4_16 ?_
  refine vx_iushr hC eJ6_bitCount_0f7a4_17 ?_
  refine vx_eqi (y := ((y / 4 : Nat) : Int)) (b3_ushr (a := y) (k := 2) (by omega) (by decide)) ?_
  refine vx_ldcw hC (858993459) wd_825 eJ6_bitCount_0f7a4_18 ?_
  refine vx_iand hC eJ6_bitCount_0f7a4_21 ?_
  refine vx_eqi (y := (((y / 4) &&& 858993459 : Nat) : Int)) (b3_andN (a := y / 4) (b := 858993459) (by omega) (by decide)) ?_
  refine vx_iadd hC eJ6_bitCount_0f7a4_22 ?_
  refine vx_eqi (y := (z : Int)) (by omega) ?_
  refine vx_istore_n hC (lv1 := [(0, xa_i (z : Int))]) (by decide) rfl eJ6_bitCount_0f7a4_23 ?_
  refine vx_iload_n hC 0 rfl eJ6_bitCount_0f7a4_24 ?_
  refine vx_iload_n hC 0 rfl eJ6_bitCount_0f7a4_25 ?_
  refine vx_iconst hC eJ6_bitCount_0f7a4_26 ?_
  refine vx_iushr hC eJ6_bitCount_0f7a4_27 ?_
  refine vx_eqi (y := ((z / 16 : Nat) : Int)) (b3_ushr (a := z) (k := 4) (by omega) (by decide)) ?_
  refine vx_iadd hC eJ6_bitCount_0f7a4_28 ?_
  refine vx_eqi (y := ((z + z / 16 : Nat) : Int)) (by omega) ?_
  refine vx_ldcw hC (252645135) wd_826 eJ6_bitCount_0f7a4_29 ?_
  refine vx_iand hC eJ6_bitCount_0f7a4_32 ?_
  refine vx_eqi (y := (w : Int)) (by rw [hw1]; exact b3_andN (a := z + z / 16) (b := 252645135) (by omega) (by decide)) ?_
  refine vx_istore_n hC (lv1 := [(0, xa_i (w : Int))]) (by decide) rfl eJ6_bitCount_0f7a4_33 ?_
  refine vx_iload_n hC 0 rfl eJ6_bitCount_0f7a4_34 ?_
  refine vx_iload_n hC 0 rfl eJ6_bitCount_0f7a4_35 ?_
  refine vx_bipush hC (by decide) eJ6_bitCount_0f7a4_36 ?_
  refine vx_iushr hC eJ6_bitCount_0f7a4_38 ?_
  refine vx_eqi (y := ((w / 256 : Nat) : Int)) (b3_ushr (a := w) (k := 8) (by omega) (by decide)) ?_
  refine vx_iadd hC eJ6_bitCount_0f7a4_39 ?_
  refine vx_eqi (y := ((w + w / 256 : Nat) : Int)) (by omega) ?_
  refine vx_istore_n hC (lv1 := [(0, xa_i ((w + w / 256 : Nat) : Int))]) (by decide) rfl eJ6_bitCount_0f7a4_40 ?_
  refine vx_iload_n hC 0 rfl eJ6_bitCount_0f7a4_41 ?_
  refine vx_iload_n hC 0 rfl eJ6_bitCount_0f7a4_42 ?_
  refine vx_bipush hC (by decide) eJ6_bitCount_0f7a4_43 ?_
  refine vx_iushr hC eJ6_bitCount_0f7a4_45 ?_
  refine vx_eqi (y := (((w + w / 256) / 65536 : Nat) : Int)) (b3_ushr (a := w + w / 256) (k := 16) (by omega) (by decide)) ?_
  refine vx_iadd hC eJ6_bitCount_0f7a4_46 ?_
  refine vx_eqi (y := (((w + w / 256) + (w + w / 256) / 65536 : Nat) : Int)) (by omega) ?_
  refine vx_istore_n hC (lv1 := [(0, xa_i (((w + w / 256) + (w + w / 256) / 65536 : Nat) : Int))]) (by decide) rfl eJ6_bitCount_0f7a4_47 ?_
  refine vx_iload_n hC 0 rfl eJ6_bitCount_0f7a4_48 ?_
  refine vx_bipush hC (by decide) eJ6_bitCount_0f7a4_49 ?_
  refine vx_iand hC eJ6_bitCount_0f7a4_51 ?_
  refine vx_eqi (y := ((bcn b : Nat) : Int)) (by rw [← hall]; exact b3_andN (a := (w + w / 256) + (w + w / 256) / 65536) (b := 63) (by omega) (by decide)) ?_
  exact vx_iret hC hM rfl eJ6_bitCount_0f7a4_52 (⟨_, rfl, rfl, xs_0.rf _ _ _ _ _⟩)
set_option maxHeartbeats 4000000 in
set_option maxRecDepth 100000 in
theorem kX6_seemingOdds (G : xg_T) (d : Nat) (n : Nat) (tau : Nat → Nat × Nat) (vi vl : Nat → Int → Int) (vr : Nat → Int → Option Nat) (hO : xo n tau vr) (s : Int → Int) (hS : rp_S 1 s n tau vi vr) (hV : ms_V s)  : xm G yX6_seemingOdds cX6_seemingOdds 4 (some .int) (d + 2) 0 0 [xa_r 1] n tau vi vl vr (xp_i (fun z9 n1 t1 a1 b1 c1 => z9 = ms_seems s ∧ xs_0 n tau vi vl vr n1 t1 a1 b1 c1)) := by
  refine xm.of (lv := [(0, xa_r 1)]) (by decide) (Nat.le_of_ble_eq_true rfl) rfl (fun K hC hM hRm => ?_)
  obtain ⟨q1, q3, q7, q8, q9, q10, qt, qp, qr, qpl, qtb⟩ := id hS
  have hW : ms_W s := hV.1
  have h60 := hV.2
  obtain ⟨hr, h0, h1, h2, h3, h4, h5, h6, hp0, hrow, hwon, htape, htab⟩ := id hW
  have hwn : ∀ k : Nat, k < (s 2).toNat → 0 ≤ s (42 + (k : Int)) ∧ s (42 + (k : Int)) ≤ 1 := fun k hk => hwon (42 + (k : Int)) (by omega) (by omega)
  have hwr := wb_r (s := s) (s 2).toNat hwn
  have hpw : (2 : Int) ^ (s 2).toNat ≤ 16777216 := by have g9 := b3_pw (t := (s 2).toNat) (by omega); have e9 : (2 : Int) ^ (s 2).toNat = ((2 ^ (s 2).toNat : Nat) : Int) := (by simp); rw [e9]; omega
  have hcn := wb_won (s := s) (n := (s 2).toNat) (by omega) hwn
  have hw9 := ms_won_r hwon (s 2).toNat (by omega)
  refine vx_aload_n hC 0 rfl eX6_seemingOdds_0 ?_
  refine vx_gi hC 9 (ot_1 hO) lf_X6_56 rfl eX6_seemingOdds_1 ?_
  refine vx_eqi q9 ?_
  refine vx_if_ne hC (tgt := 10) (by omega) (by decide) eX6_seemingOdds_4 (fun c1 => ?_) (fun c1 => ?_)
  · refine vx_bipush hC (by decide) eX6_seemingOdds_10 ?_
    refine vx_aload_n hC 0 rfl eX6_seemingOdds_12 ?_
    refine vx_gi hC 10 (ot_1 hO) lf_X6_59 rfl eX6_seemingOdds_13 ?_
    refine vx_eqi q10 ?_
    refine vx_eqi (y := (((wb s (s 2).toNat).toNat : Nat) : Int)) (by omega) ?_
    refine vx_callS_i hC (kJ6_bitCount_0f7a4 G d _ _ _ _ _ (wb s (s 2).toNat).toNat (by omega)) ly_X6_101 rfl hRm (by omega) (Nat.le_of_ble_eq_true rfl) rfl eX6_seemingOdds_16 (fun x2 n9 t9 a9 b9 c9 hx2 => ?_)
    obtain ⟨hx2, rfl, rfl, rfl, rfl, rfl⟩ := hx2
    refine vx_imul hC eX6_seemingOdds_19 ?_
    refine vx_top (fun x3 hx3 => ?_)
    refine vx_istore_n hC (lv1 := [(1, xa_i x3), (0, xa_r 1)]) (by decide) rfl eX6_seemingOdds_20 ?_
    refine vx_iconst hC eX6_seemingOdds_21 ?_
    refine vx_istore_n hC (lv1 := [(2, xa_i 0), (1, xa_i x3), (0, xa_r 1)]) (by decide) rfl eX6_seemingOdds_22 ?_
    refine vx_iconst hC eX6_seemingOdds_23 ?_
    refine vx_istore_n hC (lv1 := [(3, xa_i 1), (2, xa_i 0), (1, xa_i x3), (0, xa_r 1)]) (by decide) rfl eX6_seemingOdds_24 ?_
    have LP25 : ∀ (j : Nat) (cz : Nat) (oo : Int) (be : Int) (hcq : oo + (cz : Int) = 11 ∧ 1 ≤ oo) (hbl : 0 ≤ be ∧ be < oo) (hres : sm_run (ms_won s (s 2).toNat) (s 2) cz oo be (ab (10 * (ms_won s (s 2).toNat) - be * s 2)) = ms_seems s) (hj : (cz : Int) < (j : Int)), xv G K 4 (xk_Q G K (xp_i (fun z9 n1 t1 a1 b1 c1 => z9 = ms_seems s ∧ xs_0 n tau vi vl vr n1 t1 a1 b1 c1)) 0 0) 0 0 n tau vi vl vr 25 [(3, xa_i oo), (2, xa_i be), (1, xa_i x3), (0, xa_r 1)] [] := by
      intro j
      induction j with
      | zero => intro cz oo be hcq hbl hres hj; exfalso; omega
      | succ j ih =>
        intro cz oo be hcq hbl hres hj
        refine vx_iload_n hC 0 rfl eX6_seemingOdds_25 ?_
        refine vx_bipush hC (by decide) eX6_seemingOdds_26 ?_
        refine vx_icmp_gt hC (tgt := 64) (by omega) (by decide) eX6_seemingOdds_28 (fun c4 => ?_) (fun c4 => ?_)
        · refine vx_iload_n hC 1 rfl eX6_seemingOdds_64 ?_
          exact vx_iret hC hM rfl eX6_seemingOdds_65 (⟨_, rfl, (by rw [← hres, show cz = 0 by omega, sm_run]), xs_0.rf _ _ _ _ _⟩)
        · obtain ⟨cz1, rfl⟩ : ∃ cz1, cz = cz1 + 1 := ⟨cz - 1, by omega⟩
          have hm1 : 0 ≤ oo * s 2 ∧ oo * s 2 ≤ 240 := ⟨Int.mul_nonneg (by omega) (by omega), by have := Int.mul_le_mul (show oo ≤ 10 by omega) (show s 2 ≤ 24 by omega) (by omega) (by omega); omega⟩
          have hm2 : 0 ≤ be * s 2 ∧ be * s 2 ≤ 240 := ⟨Int.mul_nonneg (by omega) (by omega), by have := Int.mul_le_mul (show be ≤ 10 by omega) (show s 2 ≤ 24 by omega) (by omega) (by omega); omega⟩
          refine vx_iload_n hC 2 rfl eX6_seemingOdds_31 ?_
          refine vx_iload_n hC 0 rfl eX6_seemingOdds_32 ?_
          refine vx_aload_n hC 3 rfl eX6_seemingOdds_33 ?_
          refine vx_gi hC 9 (ot_1 hO) lf_X6_56 rfl eX6_seemingOdds_34 ?_
          refine vx_eqi q9 ?_
          refine vx_imul hC eX6_seemingOdds_37 ?_
          refine vx_isub hC eX6_seemingOdds_38 ?_
          refine vx_mabs hC (by omega) ly_X6_107 hRm (by omega) (Nat.le_of_ble_eq_true rfl) eX6_seemingOdds_39 ?_
          refine vx_top (fun x5 hx5 => ?_)
          have rx5 := mabs_r hx5
          refine vx_iload_n hC 2 rfl eX6_seemingOdds_42 ?_
          refine vx_iload_n hC 1 rfl eX6_seemingOdds_43 ?_
          refine vx_aload_n hC 3 rfl eX6_seemingOdds_44 ?_
          refine vx_gi hC 9 (ot_1 hO) lf_X6_56 rfl eX6_seemingOdds_45 ?_
          refine vx_eqi q9 ?_
          refine vx_imul hC eX6_seemingOdds_48 ?_
          refine vx_isub hC eX6_seemingOdds_49 ?_
          refine vx_mabs hC (by omega) ly_X6_107 hRm (by omega) (Nat.le_of_ble_eq_true rfl) eX6_seemingOdds_50 ?_
          refine vx_top (fun x6 hx6 => ?_)
          have rx6 := mabs_r hx6
          have hab1 : ab (10 * ms_won s (s 2).toNat - oo * s 2) = x5 := by unfold ab; split <;> omega
          have hab2 : ab (10 * ms_won s (s 2).toNat - be * s 2) = x6 := by unfold ab; split <;> omega
          refine vx_icmp_ge hC (tgt := 58) (by omega) (by decide) eX6_seemingOdds_53 (fun c7 => ?_) (fun c7 => ?_)
          · refine vx_iinc hC (lv1 := [(3, xa_i (oo + 1)), (2, xa_i be), (1, xa_i x3), (0, xa_r 1)]) 0 rfl (by decide) rfl eX6_seemingOdds_58 ?_
            refine vx_goto hC (tgt := 25) (by decide) eX6_seemingOdds_61 ?_
            exact ih cz1 (oo + 1) be (by omega) (by omega) (by rw [← hres, sm_run, hab2, hab1]; split <;> (first | rfl | (exfalso; omega))) (by omega)
          · refine vx_iload_n hC 0 rfl eX6_seemingOdds_56 ?_
            refine vx_istore_n hC (lv1 := [(2, xa_i oo), (3, xa_i oo), (1, xa_i x3), (0, xa_r 1)]) (by decide) rfl eX6_seemingOdds_57 ?_
            refine vx_iinc hC (lv1 := [(3, xa_i (oo + 1)), (2, xa_i oo), (1, xa_i x3), (0, xa_r 1)]) 1 rfl (by decide) rfl eX6_seemingOdds_58 ?_
            refine vx_goto hC (tgt := 25) (by decide) eX6_seemingOdds_61 ?_
            exact ih cz1 (oo + 1) oo (by omega) (by omega) (by rw [← hres, sm_run, hab2, hab1]; split <;> (first | rfl | (exfalso; omega))) (by omega)
    exact LP25 12 10 1 0 (by omega) (by omega) (by unfold ms_seems; rw [if_neg (by omega), sm_0]) (by omega)
  · refine vx_bipush hC (by decide) eX6_seemingOdds_7 ?_
    exact vx_iret hC hM rfl eX6_seemingOdds_9 (⟨_, rfl, (by unfold ms_seems; rw [if_pos (by omega)]), xs_0.rf _ _ _ _ _⟩)
set_option maxHeartbeats 4000000 in
set_option maxRecDepth 100000 in
theorem kX6_longestRun (G : xg_T) (d : Nat) (n : Nat) (tau : Nat → Nat × Nat) (vi vl : Nat → Int → Int) (vr : Nat → Int → Option Nat) (hO : xo n tau vr) (s : Int → Int) (hS : rp_S 1 s n tau vi vr) (hV : ms_V s)  : xm G yX6_longestRun cX6_longestRun 4 (some .int) (d + 2) 0 0 [xa_r 1] n tau vi vl vr (xp_i (fun z9 n1 t1 a1 b1 c1 => z9 = ms_long s ∧ xs_0 n tau vi vl vr n1 t1 a1 b1 c1)) := by
  refine xm.of (lv := [(0, xa_r 1)]) (by decide) (Nat.le_of_ble_eq_true rfl) rfl (fun K hC hM hRm => ?_)
  obtain ⟨q1, q3, q7, q8, q9, q10, qt, qp, qr, qpl, qtb⟩ := id hS
  have hW : ms_W s := hV.1
  have h60 := hV.2
  obtain ⟨hr, h0, h1, h2, h3, h4, h5, h6, hp0, hrow, hwon, htape, htab⟩ := id hW
  refine vx_iconst hC eX6_longestRun_0 ?_
  refine vx_istore_n hC (lv1 := [(1, xa_i 0), (0, xa_r 1)]) (by decide) rfl eX6_longestRun_1 ?_
  refine vx_iconst hC eX6_longestRun_2 ?_
  refine vx_istore_n hC (lv1 := [(2, xa_i 0), (1, xa_i 0), (0, xa_r 1)]) (by decide) rfl eX6_longestRun_3 ?_
  refine vx_iconst hC eX6_longestRun_4 ?_
  refine vx_istore_n hC (lv1 := [(3, xa_i 0), (2, xa_i 0), (1, xa_i 0), (0, xa_r 1)]) (by decide) rfl eX6_longestRun_5 ?_
  have LP6 : ∀ (j : Nat) (cz : Nat) (kk : Int) (mo : Int) (ru : Int) (hcq : kk + (cz : Int) = s 2 ∧ 0 ≤ kk) (hmr : 0 ≤ mo ∧ mo ≤ kk ∧ 0 ≤ ru ∧ ru ≤ kk) (hres : lg_run s cz kk mo ru = ms_long s) (hj : (cz : Int) < (j : Int)), xv G K 4 (xk_Q G K (xp_i (fun z9 n1 t1 a1 b1 c1 => z9 = ms_long s ∧ xs_0 n tau vi vl vr n1 t1 a1 b1 c1)) 0 0) 0 0 n tau vi vl vr 6 [(3, xa_i kk), (2, xa_i ru), (1, xa_i mo), (0, xa_r 1)] [] := by
    intro j
    induction j with
    | zero => intro cz kk mo ru hcq hmr hres hj; exfalso; omega
    | succ j ih =>
      intro cz kk mo ru hcq hmr hres hj
      refine vx_iload_n hC 0 rfl eX6_longestRun_6 ?_
      refine vx_aload_n hC 3 rfl eX6_longestRun_7 ?_
      refine vx_gi hC 9 (ot_1 hO) lf_X6_56 rfl eX6_longestRun_8 ?_
      refine vx_eqi q9 ?_
      refine vx_icmp_ge hC (tgt := 53) (by omega) (by decide) eX6_longestRun_11 (fun c1 => ?_) (fun c1 => ?_)
      · refine vx_iload_n hC 2 rfl eX6_longestRun_53 ?_
        exact vx_iret hC hM rfl eX6_longestRun_54 (⟨_, rfl, (by rw [← hres, show cz = 0 by omega, lg_run]), xs_0.rf _ _ _ _ _⟩)
      · obtain ⟨cz1, rfl⟩ : ∃ cz1, cz = cz1 + 1 := ⟨cz - 1, by omega⟩
        have hq1 := hr (42 + kk)
        have hq2 := hr (42 + kk - 1)
        have hq3 : s (42 + (kk - 1)) = s (42 + kk - 1) := by rw [show 42 + (kk - 1) = 42 + kk - 1 by omega]
        refine vx_iload_n hC 0 rfl eX6_longestRun_14 ?_
        refine vx_if_le hC (tgt := 39) (by omega) (by decide) eX6_longestRun_15 (fun c2 => ?_) (fun c2 => ?_)
        · refine vx_iconst hC eX6_longestRun_39 ?_
          refine vx_istore_n hC (lv1 := [(2, xa_i 1), (3, xa_i kk), (1, xa_i mo), (0, xa_r 1)]) (by decide) rfl eX6_longestRun_40 ?_
          refine vx_iload_n hC 2 rfl eX6_longestRun_41 ?_
          refine vx_iload_n hC 0 rfl eX6_longestRun_42 ?_
          refine vx_mmax hC (by omega) ly_X6_94 hRm (by omega) (Nat.le_of_ble_eq_true rfl) eX6_longestRun_43 ?_
          refine vx_top (fun x3 hx3 => ?_)
          have rx3 := mmax_r hx3
          refine vx_istore_n hC (lv1 := [(1, xa_i x3), (2, xa_i 1), (3, xa_i kk), (0, xa_r 1)]) (by decide) rfl eX6_longestRun_46 ?_
          refine vx_iinc hC (lv1 := [(3, xa_i (kk + 1)), (1, xa_i x3), (2, xa_i 1), (0, xa_r 1)]) 2 rfl (by decide) rfl eX6_longestRun_47 ?_
          refine vx_goto hC (tgt := 6) (by decide) eX6_longestRun_50 ?_
          refine vx_lv (lv1 := [(3, xa_i (kk + 1)), (2, xa_i 1), (1, xa_i x3), (0, xa_r 1)]) [0, 2, 1, 3] rfl ?_
          exact ih cz1 (kk + 1) x3 1 (by omega) (by omega) (by rw [← hres, lg_run]; (first | (rw [if_pos (by omega)]; congr 1 <;> (try split) <;> omega) | (rw [if_neg (by omega)]; congr 1 <;> (try split) <;> omega))) (by omega)
        · refine vx_aload_n hC 3 rfl eX6_longestRun_18 ?_
          refine vx_iload_n hC 0 rfl eX6_longestRun_19 ?_
          refine vx_callV_i hC (kX6_isWon G d _ _ _ _ _ hO s hS hV kk (by omega)) ly_X6_110 (ot_1 hO) rfl rfl rfl hRm (by omega) (Nat.le_of_ble_eq_true rfl) rfl eX6_longestRun_20 (fun x4 n9 t9 a9 b9 c9 hx4 => ?_)
          obtain ⟨hx4, rfl, rfl, rfl, rfl, rfl⟩ := hx4
          refine vx_aload_n hC 3 rfl eX6_longestRun_23 ?_
          refine vx_iload_n hC 0 rfl eX6_longestRun_24 ?_
          refine vx_iconst hC eX6_longestRun_25 ?_
          refine vx_isub hC eX6_longestRun_26 ?_
          refine vx_callV_i hC (kX6_isWon G d _ _ _ _ _ hO s hS hV (kk - 1) (by omega)) ly_X6_110 (ot_1 hO) rfl rfl rfl hRm (by omega) (Nat.le_of_ble_eq_true rfl) rfl eX6_longestRun_27 (fun x5 n9 t9 a9 b9 c9 hx5 => ?_)
          obtain ⟨hx5, rfl, rfl, rfl, rfl, rfl⟩ := hx5
          refine vx_icmp_ne hC (tgt := 39) (by omega) (by decide) eX6_longestRun_30 (fun c6 => ?_) (fun c6 => ?_)
          · refine vx_iconst hC eX6_longestRun_39 ?_
            refine vx_istore_n hC (lv1 := [(2, xa_i 1), (3, xa_i kk), (1, xa_i mo), (0, xa_r 1)]) (by decide) rfl eX6_longestRun_40 ?_
            refine vx_iload_n hC 2 rfl eX6_longestRun_41 ?_
            refine vx_iload_n hC 0 rfl eX6_longestRun_42 ?_
            refine vx_mmax hC (by omega) ly_X6_94 hRm (by omega) (Nat.le_of_ble_eq_true rfl) eX6_longestRun_43 ?_
            refine vx_top (fun x7 hx7 => ?_)
            have rx7 := mmax_r hx7
            refine vx_istore_n hC (lv1 := [(1, xa_i x7), (2, xa_i 1), (3, xa_i kk), (0, xa_r 1)]) (by decide) rfl eX6_longestRun_46 ?_
            refine vx_iinc hC (lv1 := [(3, xa_i (kk + 1)), (1, xa_i x7), (2, xa_i 1), (0, xa_r 1)]) 2 rfl (by decide) rfl eX6_longestRun_47 ?_
            refine vx_goto hC (tgt := 6) (by decide) eX6_longestRun_50 ?_
            refine vx_lv (lv1 := [(3, xa_i (kk + 1)), (2, xa_i 1), (1, xa_i x7), (0, xa_r 1)]) [0, 2, 1, 3] rfl ?_
            exact ih cz1 (kk + 1) x7 1 (by omega) (by omega) (by rw [← hres, lg_run]; (first | (rw [if_pos (by omega)]; congr 1 <;> (try split) <;> omega) | (rw [if_neg (by omega)]; congr 1 <;> (try split) <;> omega))) (by omega)
          · refine vx_iload_n hC 1 rfl eX6_longestRun_33 ?_
            refine vx_iconst hC eX6_longestRun_34 ?_
            refine vx_iadd hC eX6_longestRun_35 ?_
            refine vx_goto hC (tgt := 40) (by decide) eX6_longestRun_36 ?_
            refine vx_istore_n hC (lv1 := [(2, xa_i (ru + 1)), (3, xa_i kk), (1, xa_i mo), (0, xa_r 1)]) (by decide) rfl eX6_longestRun_40 ?_
            refine vx_iload_n hC 2 rfl eX6_longestRun_41 ?_
            refine vx_iload_n hC 0 rfl eX6_longestRun_42 ?_
            refine vx_mmax hC (by omega) ly_X6_94 hRm (by omega) (Nat.le_of_ble_eq_true rfl) eX6_longestRun_43 ?_
            refine vx_top (fun x8 hx8 => ?_)
            have rx8 := mmax_r hx8
            refine vx_istore_n hC (lv1 := [(1, xa_i x8), (2, xa_i (ru + 1)), (3, xa_i kk), (0, xa_r 1)]) (by decide) rfl eX6_longestRun_46 ?_
            refine vx_iinc hC (lv1 := [(3, xa_i (kk + 1)), (1, xa_i x8), (2, xa_i (ru + 1)), (0, xa_r 1)]) 2 rfl (by decide) rfl eX6_longestRun_47 ?_
            refine vx_goto hC (tgt := 6) (by decide) eX6_longestRun_50 ?_
            refine vx_lv (lv1 := [(3, xa_i (kk + 1)), (2, xa_i (ru + 1)), (1, xa_i x8), (0, xa_r 1)]) [0, 2, 1, 3] rfl ?_
            exact ih cz1 (kk + 1) x8 (ru + 1) (by omega) (by omega) (by rw [← hres, lg_run]; (first | (rw [if_pos (by omega)]; congr 1 <;> (try split) <;> omega) | (rw [if_neg (by omega)]; congr 1 <;> (try split) <;> omega))) (by omega)
  exact LP6 25 (s 2).toNat 0 0 0 (by omega) (by omega) rfl (by omega)
set_option maxHeartbeats 4000000 in
set_option maxRecDepth 100000 in
theorem kX11_seen (G : xg_T) (d : Nat) (n : Nat) (tau : Nat → Nat × Nat) (vi vl : Nat → Int → Int) (vr : Nat → Int → Option Nat) (hO : xo n tau vr) (s im : Int → Int) (has ran : Int) (bod : Int → Int) (hR : RCl s im has ran bod n tau vi vr) (hV : ms_V s) (x : Int) (hx : -2147483648 ≤ x ∧ x < 2147483648) : xm G yX11_seen cX11_seen 2 (some .int) (d + 3) 0 0 [xa_r 0, xa_i x] n tau vi vl vr (xp_i (fun z9 n1 t1 a1 b1 c1 => z9 = sp_seen s x ∧ cq (s) (im) (has) (ran) (bod) n tau vi vl n1 t1 a1 b1 c1)) := by
  refine xm.of (lv := [(0, xa_r 0), (1, xa_i x)]) (by decide) (Nat.le_of_ble_eq_true rfl) rfl (fun K hC hM hRm => ?_)
  have hS : rp_S 1 s n tau vi vr := hR.1
  obtain ⟨q1, q3, q7, q8, q9, q10, qt, qp, qr, qpl, qtb⟩ := id hS
  have hW : ms_W s := hV.1
  have h60 := hV.2
  obtain ⟨hr, h0, h1, h2, h3, h4, h5, h6, hp0, hrow, hwon, htape, htab⟩ := id hW
  obtain ⟨-, R2, R3, R4, R5, R6, R7, R8, R9, R10⟩ := id hR
  refine vx_iload_n hC 1 rfl eX11_seen_0 ?_
  rcases (show x = 0 ∨ x = 1 ∨ (¬ x = 0 ∧ ¬ x = 1) by omega) with c1 | c1 | c1
  · refine vx_lookup hC (tgt := 28) (by omega) (by decide) (by rw [c1] <;> rfl) (by decide) eX11_seen_1 ?_
    refine vx_aload_n hC 0 rfl eX11_seen_28 ?_
    refine vx_gr hC 0 (ot_0 hO) lf_X11_12 rfl (or_0_0 hO) eX11_seen_29 ?_
    refine vx_callV_i hC (kX6_seemingOdds G d _ _ _ _ _ hO s hS hV) ly_X11_209 (ot_1 hO) rfl rfl rfl hRm (by omega) (Nat.le_of_ble_eq_true rfl) rfl eX11_seen_32 (fun x2 n9 t9 a9 b9 c9 hx2 => ?_)
    obtain ⟨hx2, rfl, rfl, rfl, rfl, rfl⟩ := hx2
    exact vx_iret hC hM rfl eX11_seen_35 (⟨_, rfl, by unfold sp_seen; (repeat (first | rw [if_pos (by omega)] | rw [if_neg (by omega)])); all_goals (first | rfl | omega), cq_ro hO hR (fun k hk => rfl) (fun k hk => rfl)⟩)
  · refine vx_lookup hC (tgt := 36) (by omega) (by decide) (by rw [c1] <;> rfl) (by decide) eX11_seen_1 ?_
    refine vx_aload_n hC 0 rfl eX11_seen_36 ?_
    refine vx_gr hC 0 (ot_0 hO) lf_X11_12 rfl (or_0_0 hO) eX11_seen_37 ?_
    refine vx_callV_i hC (kX6_longestRun G d _ _ _ _ _ hO s hS hV) ly_X11_212 (ot_1 hO) rfl rfl rfl hRm (by omega) (Nat.le_of_ble_eq_true rfl) rfl eX11_seen_40 (fun x3 n9 t9 a9 b9 c9 hx3 => ?_)
    obtain ⟨hx3, rfl, rfl, rfl, rfl, rfl⟩ := hx3
    exact vx_iret hC hM rfl eX11_seen_43 (⟨_, rfl, by unfold sp_seen; (repeat (first | rw [if_pos (by omega)] | rw [if_neg (by omega)])); all_goals (first | rfl | omega), cq_ro hO hR (fun k hk => rfl) (fun k hk => rfl)⟩)
  · refine vx_lookup hC (tgt := 44) (by omega) (by decide) (xn_osw c1) (by decide) eX11_seen_1 ?_
    refine vx_iconst hC eX11_seen_44 ?_
    exact vx_iret hC hM rfl eX11_seen_45 (⟨_, rfl, by unfold sp_seen; (repeat (first | rw [if_pos (by omega)] | rw [if_neg (by omega)])); all_goals (first | rfl | omega), cq_ro hO hR (fun k hk => rfl) (fun k hk => rfl)⟩)
