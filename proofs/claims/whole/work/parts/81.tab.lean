theorem msl_list (f : Int → Int) : ∀ (L : List Int) (a : Int), (∀ j : Nat, j < L.length → f (a + (j : Int)) = L.getD j 0) → msl f a L.length = L
  | [], _, _ => rfl
  | x :: L, a, h => by
    have h0 := h 0 (by simp)
    rw [show a + ((0 : Nat) : Int) = a by omega] at h0
    show f a :: msl f (a + 1) L.length = x :: L
    rw [h0, msl_list f L (a + 1) (fun j hj => ?_)]
    · rfl
    · have := h (j + 1) (by simp; omega)
      rw [show a + ((j + 1 : Nat) : Int) = a + 1 + (j : Int) by omega] at this
      rw [this]; rfl
theorem tbU_lo {s : Int → Int} (h1 : 0 ≤ s 1) {z : Int} (h : z < 166) (h3 : ¬ z = 3) : tbU s z = s z := by
  unfold tbU; rw [pput_lo _ _ _ h1 (by omega), fu_n _ _ _ (by omega), fu_n _ _ _ h3]
theorem tbU_3 {s : Int → Int} (h1 : 0 ≤ s 1) : tbU s 3 = 0 := by
  unfold tbU; rw [pput_lo _ _ _ h1 (by omega), fu_n _ _ _ (by omega), fu_s]
theorem tbU_lim {s : Int → Int} (h1 : 0 ≤ s 1 ∧ s 1 ≤ 4) : tbU s (166 + s 1) = (tbR s).2.2.1 := by
  unfold tbU; rw [pput_lo _ _ _ h1.1 (by omega), fu_s]
theorem tbU_oldl {s : Int → Int} (h1 : 0 ≤ s 1 ∧ s 1 ≤ 4) {t : Int} (ht : 0 ≤ t ∧ t < s 1) : tbU s (166 + t) = s (166 + t) := by
  unfold tbU; rw [pput_lo _ _ _ h1.1 (by omega), fu_n _ _ _ (by omega), fu_n _ _ _ (by omega)]
theorem tbU_olds {s : Int → Int} (h1 : 0 ≤ s 1 ∧ s 1 ≤ 4) {t : Int} (ht : 0 ≤ t ∧ t < s 1) (hc : s (171 + t) ≤ 140) : ms_steps (tbU s) t = ms_steps s t := by
  have e0 : tbU s (171 + t) = s (171 + t) := by
    unfold tbU pput; rw [if_neg (by omega), if_neg (by omega), fu_n _ _ _ (by omega), fu_n _ _ _ (by omega)]
  unfold ms_steps
  rw [e0]
  refine msl_congr _ _ (fun z z1 z2 => ?_)
  unfold tbU pput; rw [if_neg (by omega), if_neg (by omega), fu_n _ _ _ (by omega), fu_n _ _ _ (by omega)]
theorem tbU_new {s : Int → Int} (h1 : 0 ≤ s 1 ∧ s 1 ≤ 4) : ms_steps (tbU s) (s 1) = (tbR s).2.2.2.1 := by
  unfold ms_steps tbU
  rw [pput_m, show ((((tbR s).2.2.2.1).length : Int)).toNat = ((tbR s).2.2.2.1).length by omega]
  refine msl_list _ _ _ (fun j hj => ?_)
  unfold pput
  rw [if_neg (by omega), if_pos (by omega)]
  congr 1
  omega
theorem rp_T.ms {s s2 : Int → Int} {t : Int} {k n : Nat} {tau : Nat → Nat × Nat} {vi : Nat → Int → Int} {vr : Nat → Int → Option Nat} (h : rp_T s t k n tau vi vr) (h1 : s2 (166 + t) = s (166 + t)) (h2 : ms_steps s2 t = ms_steps s t) : rp_T s2 t k n tau vi vr := by
  obtain ⟨g1, g2, g3, kw, ke, kc, cl, g4, g5, g6, g7, g8, g9, g10, g11⟩ := h
  exact ⟨g1, g2, by rw [h1]; exact g3, kw, ke, kc, cl, g4, g5, g6, g7, g8, g9, by rw [h2]; exact g10, g11⟩
theorem ph_at {s : Int → Int} {z : Int} (h : 0 ≤ z ∧ z < s 3) : ph s (s 3) z = s (66 + z) := by unfold ph; rw [if_pos h]
