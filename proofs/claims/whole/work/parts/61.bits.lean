theorem sr1 (b : Nat) : b >>> 1 = b / 2 := rfl
theorem b6_of {x : Int64} {m : Nat} (h : x.toBitVec.toNat = m) (hm : m < 9223372036854775808) : x.toInt = (m : Int) := by
  show x.toBitVec.toInt = _
  rw [BitVec.toInt_eq_toNat_of_lt (by omega), h]
theorem b6_tn {b : Nat} (h : b < 9223372036854775808) : (Int64.ofInt (b : Int)).toBitVec.toNat = b := by
  show (BitVec.ofInt 64 (b : Int)).toNat = b
  rw [BitVec.toNat_ofInt]
  omega
theorem b6_and1 {B : Int} (h : 0 ≤ B ∧ B < 4611686018427387904) : (Int64.ofInt B &&& Int64.ofInt 1).toInt = B % 2 := by
  obtain ⟨b, rfl⟩ := Int.eq_ofNat_of_zero_le h.1
  have h2 : b < 4611686018427387904 := by omega
  rw [b6_of (m := b % 2) ?_ (by omega)]
  · omega
  · show ((Int64.ofInt (b : Int)).toBitVec &&& (Int64.ofInt ((1 : Nat) : Int)).toBitVec).toNat = _
    rw [BitVec.toNat_and, b6_tn (by omega), b6_tn (by omega), Nat.and_one_is_mod]
theorem b6_xor1 {B : Int} (h : 0 ≤ B ∧ B < 4611686018427387904) : (Int64.ofInt B ^^^ Int64.ofInt 1).toInt = B + 1 - 2 * (B % 2) := by
  obtain ⟨b, rfl⟩ := Int.eq_ofNat_of_zero_le h.1
  have h2 : b < 4611686018427387904 := by omega
  have key : b ^^^ 1 = b + 1 - 2 * (b % 2) := by
    have e1 : (b ^^^ 1) / 2 = b / 2 := by rw [← sr1 (b ^^^ 1), Nat.shiftRight_xor_distrib]; simp [sr1]
    have e2 : (b ^^^ 1) % 2 = (b + 1) % 2 := by
      have := Nat.xor_mod_two_pow (a := b) (b := 1) (n := 1)
      simp only [Nat.pow_one] at this
      rw [this]
      rw [show (b + 1) % 2 = 1 - b % 2 by omega]
      rcases Nat.mod_two_eq_zero_or_one b with h | h <;> rw [h] <;> rfl
    omega
  rw [b6_of (m := b ^^^ 1) ?_ (by omega)]
  · rw [key]; omega
  · show ((Int64.ofInt (b : Int)).toBitVec ^^^ (Int64.ofInt ((1 : Nat) : Int)).toBitVec).toNat = _
    rw [BitVec.toNat_xor, b6_tn (by omega), b6_tn (by omega)]
theorem b6_s1 : ((Int32.ofInt 1).toInt64 &&& 63) = Int64.ofInt 1 := by decide
theorem b6_shr {B : Int} (h : 0 ≤ B ∧ B < 4611686018427387904) : (Int64.ofInt B >>> ((Int32.ofInt 1).toInt64 &&& 63)).toInt = B / 2 := by
  obtain ⟨b, rfl⟩ := Int.eq_ofNat_of_zero_le h.1
  have h2 : b < 4611686018427387904 := by omega
  rw [b6_s1, b6_of (m := b / 2) ?_ (by omega)]
  · omega
  · show (BitVec.sshiftRight' (Int64.ofInt (b : Int)).toBitVec ((Int64.ofInt 1).toBitVec.smod 64)).toNat = _
    rw [show ((Int64.ofInt 1).toBitVec.smod 64) = 1#64 by decide]
    show (BitVec.sshiftRight (Int64.ofInt (b : Int)).toBitVec 1).toNat = _
    rw [BitVec.toNat_sshiftRight_of_msb_false, b6_tn (by omega), sr1]
    rw [BitVec.msb_eq_decide, b6_tn (by omega)]
    simp; omega
theorem b6_shl {B : Int} (h : 0 ≤ B ∧ B < 2305843009213693952) : (Int64.ofInt B <<< ((Int32.ofInt 1).toInt64 &&& 63)).toInt = 2 * B := by
  obtain ⟨b, rfl⟩ := Int.eq_ofNat_of_zero_le h.1
  have h2 : b < 2305843009213693952 := by omega
  rw [b6_s1, b6_of (m := 2 * b) ?_ (by omega)]
  · omega
  · show ((Int64.ofInt (b : Int)).toBitVec <<< ((Int64.ofInt 1).toBitVec.smod 64)).toNat = _
    rw [show ((Int64.ofInt 1).toBitVec.smod 64) = 1#64 by decide]
    show ((Int64.ofInt (b : Int)).toBitVec <<< 1).toNat = _
    rw [BitVec.toNat_shiftLeft, b6_tn (by omega), Nat.shiftLeft_eq]
    omega
theorem nat_or1 (b c : Nat) (hc : c = 0 ∨ c = 1) : b ||| c = b - b % 2 + (if c = 0 then b % 2 else 1) := by
  have e1 : (b ||| c) / 2 = b / 2 := by
    rw [← sr1 (b ||| c), Nat.shiftRight_or_distrib]
    rcases hc with rfl | rfl <;> simp [sr1]
  have e2 : (b ||| c) % 2 = (if c = 0 then b % 2 else 1) := by
    have := Nat.or_mod_two_pow (a := b) (b := c) (n := 1)
    simp only [Nat.pow_one] at this
    rw [this]
    rcases hc with rfl | rfl
    · simp
    · rcases Nat.mod_two_eq_zero_or_one b with h | h <;> rw [h] <;> simp
  rw [← e2]
  omega
theorem b6_or {B c : Int} (h : 0 ≤ B ∧ B < 4611686018427387904) (hc : c = 0 ∨ c = 1) : (Int64.ofInt B ||| Int64.ofInt c).toInt = B - B % 2 + (if c = 0 then B % 2 else 1) := by
  obtain ⟨b, rfl⟩ := Int.eq_ofNat_of_zero_le h.1
  obtain ⟨d, rfl⟩ := Int.eq_ofNat_of_zero_le (show 0 ≤ c by omega)
  have h2 : b < 4611686018427387904 := by omega
  have hd : d = 0 ∨ d = 1 := by omega
  rw [b6_of (m := b ||| d) ?_ ?_]
  · rw [nat_or1 b d hd]
    rcases hd with rfl | rfl
    · simp; omega
    · simp; omega
  · show ((Int64.ofInt (b : Int)).toBitVec ||| (Int64.ofInt (d : Int)).toBitVec).toNat = _
    rw [BitVec.toNat_or, b6_tn (by omega), b6_tn (by omega)]
  · rw [nat_or1 b d hd]; split <;> omega
theorem b6_m2 {c : Int} (hc : c = 0 ∨ c = 1) : (Int64.ofInt c ||| Int64.ofInt (-2)).toInt = c - 2 := by rcases hc with rfl | rfl <;> decide
theorem b6_and2 {B c : Int} (h : 0 ≤ B ∧ B < 4611686018427387904) (hc : c = 0 ∨ c = 1) : (Int64.ofInt B &&& Int64.ofInt (c - 2)).toInt = if c = 0 then B - B % 2 else B := by
  obtain ⟨b, rfl⟩ := Int.eq_ofNat_of_zero_le h.1
  have h2 : b < 4611686018427387904 := by omega
  rcases hc with rfl | rfl
  · rw [if_pos rfl, b6_of (m := b - b % 2) ?_ (by omega)]
    · omega
    · show ((Int64.ofInt (b : Int)).toBitVec &&& (Int64.ofInt ((0 : Int) - 2)).toBitVec).toNat = _
      rw [BitVec.toNat_and, b6_tn (by omega), show (Int64.ofInt ((0 : Int) - 2)).toBitVec.toNat = 18446744073709551614 by decide]
      have e1 : (b &&& 18446744073709551614) / 2 = b / 2 := by
        rw [← sr1 (b &&& _), Nat.shiftRight_and_distrib, show 18446744073709551614 >>> 1 = 2 ^ 63 - 1 by decide, Nat.and_two_pow_sub_one_eq_mod, sr1]
        omega
      have e2 : (b &&& 18446744073709551614) % 2 = 0 := by
        have := Nat.and_mod_two_pow (a := b) (b := 18446744073709551614) (n := 1)
        simp only [Nat.pow_one] at this
        rw [this]; simp
      omega
  · rw [if_neg (by decide), b6_of (m := b) ?_ (by omega)]
    show ((Int64.ofInt (b : Int)).toBitVec &&& (Int64.ofInt ((1 : Int) - 2)).toBitVec).toNat = _
    rw [show (Int64.ofInt ((1 : Int) - 2)).toBitVec = BitVec.allOnes 64 by decide, BitVec.and_allOnes, b6_tn (by omega)]
/-- open answers as the bits of a number -/
def bt : List Int → Int
  | [] => 0
  | x :: r => x + 2 * bt r
theorem bt_r : ∀ (L : List Int), (∀ x ∈ L, x = 0 ∨ x = 1) → 0 ≤ bt L ∧ bt L < (2 : Int) ^ L.length
  | [], _ => by simp [bt]
  | x :: r, h => by
    have ih := bt_r r (fun y hy => h y (List.mem_cons_of_mem _ hy))
    have hx := h x (List.mem_cons_self)
    rw [bt, List.length_cons, Int.pow_succ]
    omega
theorem two_le : ∀ {t : Nat}, t ≤ 60 → (2 : Int) ^ t ≤ 1152921504606846976 := by decide
theorem bt_r60 {L : List Int} (h : ∀ x ∈ L, x = 0 ∨ x = 1) (hl : L.length ≤ 60) : 0 ≤ bt L ∧ bt L < 1152921504606846976 := by
  have := bt_r L h
  have := two_le hl
  omega
theorem and3 {q : Int} (h : 0 ≤ q ∧ q ≤ 12) : (Int32.ofInt q &&& Int32.ofInt 3).toInt = q % 4 := by
  obtain ⟨k, rfl⟩ := Int.eq_ofNat_of_zero_le h.1
  have : ∀ k : Nat, k < 13 → (Int32.ofInt (k : Int) &&& Int32.ofInt 3).toInt = (k : Int) % 4 := by decide
  exact this k (by omega)
