theorem b3_of {x : Int32} {m : Nat} (h : x.toBitVec.toNat = m) (hm : m < 2147483648) : x.toInt = (m : Int) := by
  show x.toBitVec.toInt = _
  rw [BitVec.toInt_eq_toNat_of_lt (by omega), h]
theorem b3_tn {b : Nat} (h : b < 2147483648) : (Int32.ofInt (b : Int)).toBitVec.toNat = b := by
  show (BitVec.ofInt 32 (b : Int)).toNat = b
  rw [BitVec.toNat_ofInt]
  omega
theorem b3_pw : ∀ {t : Nat}, t < 25 → (2 : Nat) ^ t ≤ 16777216 := by decide
theorem b3_sl : ∀ {t : Nat}, t < 25 → (Int32.ofInt 1 <<< (Int32.ofInt (t : Int) &&& 31)).toInt = (2 : Int) ^ t := by decide
theorem b3_or {B : Int} {t : Nat} (ht : t < 25) (h : 0 ≤ B ∧ B < (2 : Int) ^ t) : (Int32.ofInt B ||| Int32.ofInt ((2 : Int) ^ t)).toInt = B + (2 : Int) ^ t := by
  obtain ⟨b, rfl⟩ := Int.eq_ofNat_of_zero_le h.1
  have e2 : (2 : Int) ^ t = ((2 ^ t : Nat) : Int) := by simp
  have hp := b3_pw ht
  rw [e2] at h ⊢
  have hb : b < 2 ^ t := by omega
  rw [b3_of (m := 2 ^ t + b) ?_ (by omega)]
  · omega
  · show ((Int32.ofInt (b : Int)).toBitVec ||| (Int32.ofInt ((2 ^ t : Nat) : Int)).toBitVec).toNat = _
    rw [BitVec.toNat_or, b3_tn (by omega), b3_tn (by omega), Nat.or_comm]
    have := Nat.two_pow_add_eq_or_of_lt hb 1
    rw [Nat.mul_one] at this
    exact this.symm
theorem wb_r {s : Int → Int} : ∀ (n : Nat), (∀ k : Nat, k < n → 0 ≤ s (42 + (k : Int)) ∧ s (42 + (k : Int)) ≤ 1) → 0 ≤ wb s n ∧ wb s n < (2 : Int) ^ n
  | 0, _ => ⟨Int.le_refl 0, by show (0 : Int) < 1; decide⟩
  | n + 1, h => by
    have ih := wb_r n (fun k hk => h k (by omega))
    have hn := h n (by omega)
    have hp : (0 : Int) < (2 : Int) ^ n := Int.pow_pos (by decide)
    rw [wb, Int.pow_succ]
    rcases (show s (42 + (n : Int)) = 0 ∨ s (42 + (n : Int)) = 1 by omega) with e | e <;> rw [e] <;> omega
