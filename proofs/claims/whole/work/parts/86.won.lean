theorem b3_s : ∀ {k : Nat}, k < 25 → ((Int32.ofInt (k : Int) &&& 31).toBitVec.smod 32).toNat = k := by decide
theorem b3_shr {B : Int} {k : Nat} (hk : k < 25) (h : 0 ≤ B ∧ B < 16777216) : (Int32.ofInt B >>> (Int32.ofInt (k : Int) &&& 31)).toInt = B / (2 : Int) ^ k := by
  obtain ⟨b, rfl⟩ := Int.eq_ofNat_of_zero_le h.1
  have h2 : b < 16777216 := by omega
  have hle : b / 2 ^ k ≤ b := Nat.div_le_self _ _
  rw [b3_of (m := b / 2 ^ k) ?_ (by omega)]
  · rw [Int.natCast_ediv]; simp
  · show (BitVec.sshiftRight (Int32.ofInt (b : Int)).toBitVec ((Int32.ofInt (k : Int) &&& 31).toBitVec.smod 32).toNat).toNat = _
    rw [b3_s hk, BitVec.toNat_sshiftRight_of_msb_false, b3_tn (by omega), Nat.shiftRight_eq_div_pow]
    rw [BitVec.msb_eq_decide, b3_tn (by omega)]
    simp; omega
theorem b3_and1 {B : Int} (h : 0 ≤ B ∧ B < 16777216) : (Int32.ofInt B &&& Int32.ofInt 1).toInt = B % 2 := by
  obtain ⟨b, rfl⟩ := Int.eq_ofNat_of_zero_le h.1
  have h2 : b < 16777216 := by omega
  rw [b3_of (m := b % 2) ?_ (by omega)]
  · omega
  · show ((Int32.ofInt (b : Int)).toBitVec &&& (Int32.ofInt ((1 : Nat) : Int)).toBitVec).toNat = _
    rw [BitVec.toNat_and, b3_tn (by omega), b3_tn (by omega), Nat.and_one_is_mod]
theorem wb_bit {s : Int → Int} : ∀ (n k : Nat), k < n → (∀ k : Nat, k < n → 0 ≤ s (42 + (k : Int)) ∧ s (42 + (k : Int)) ≤ 1) → wb s n / (2 : Int) ^ k % 2 = s (42 + (k : Int))
  | 0, _, h, _ => absurd h (by omega)
  | n + 1, k, hk, h => by
    have hn := h n (by omega)
    have hp : (0 : Int) < (2 : Int) ^ k := Int.pow_pos (by decide)
    have hr := wb_r (s := s) n (fun k hk => h k (by omega))
    rw [wb]
    by_cases e : k = n
    · subst e
      rw [Int.add_mul_ediv_right _ _ (by omega), Int.ediv_eq_zero_of_lt hr.1 hr.2]
      omega
    · obtain ⟨d, rfl⟩ : ∃ d, n = k + (d + 1) := ⟨n - k - 1, by omega⟩
      have ih := wb_bit (s := s) (k + (d + 1)) k (by omega) (fun k hk => h k (by omega))
      rw [show s (42 + ((k + (d + 1) : Nat) : Int)) * (2 : Int) ^ (k + (d + 1)) = (s (42 + ((k + (d + 1) : Nat) : Int)) * (2 : Int) ^ d * 2) * (2 : Int) ^ k by rw [Int.pow_add, Int.pow_succ]; simp only [Int.mul_assoc, Int.mul_comm, Int.mul_left_comm], Int.add_mul_ediv_right _ _ (by omega), Int.add_mul_emod_self_right]
      exact ih
