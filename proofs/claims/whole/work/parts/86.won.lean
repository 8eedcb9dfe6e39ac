theorem wb_bit {s : Int → Int} : ∀ (n k : Nat), k < n → (∀ k : Nat, k < n → 0 ≤ s (42 + (k : Int)) ∧ s (42 + (k : Int)) ≤ 1) → wb s n / (2 : Int) ^ k % 2 = s (42 + (k : Int))
  | 0, _, h, _ => absurd h (by omega)
  | n + 1, k, hk, h => by
    have hn := h n (by omega)
    have hp : (0 : Int) < (2 : Int) ^ k := Int.pow_pos (by decide)
    have hr := wb_r (s := s) n (fun k hk => h k (by omega))
    rw [wb]
    by_cases e : k = n
    · subst e
      rw [Int.add_mul_ediv_right _ _ (by omega), Int.ediv_eq_zero_of_lt hr.1 hr.2]
      omega
    · obtain ⟨d, rfl⟩ : ∃ d, n = k + (d + 1) := ⟨n - k - 1, by omega⟩
      have ih := wb_bit (s := s) (k + (d + 1)) k (by omega) (fun k hk => h k (by omega))
      rw [show s (42 + ((k + (d + 1) : Nat) : Int)) * (2 : Int) ^ (k + (d + 1)) = (s (42 + ((k + (d + 1) : Nat) : Int)) * (2 : Int) ^ d * 2) * (2 : Int) ^ k by rw [Int.pow_add, Int.pow_succ]; simp only [Int.mul_assoc, Int.mul_comm, Int.mul_left_comm], Int.add_mul_ediv_right _ _ (by omega), Int.add_mul_emod_self_right]
      exact ih
