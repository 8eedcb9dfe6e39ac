theorem msl_list (f : Int → Int) : ∀ (L : List Int) (a : Int), (∀ j : Nat, j < L.length → f (a + (j : Int)) = L.getD j 0) → msl f a L.length = L
  | [], _, _ => rfl
  | x :: L, a, h => by
    have h0 := h 0 (by simp)
    rw [show a + ((0 : Nat) : Int) = a by omega] at h0
    show f a :: msl f (a + 1) L.length = x :: L
    rw [h0, msl_list f L (a + 1) (fun j hj => ?_)]
    · rfl
    · have := h (j + 1) (by simp; omega)
      rw [show a + ((j + 1 : Nat) : Int) = a + 1 + (j : Int) by omega] at this
      rw [this]; rfl
theorem tbU_lo {s : Int → Int} (h1 : 0 ≤ s 1) {z : Int} (h : z < 166) (h3 : ¬ z = 3) : tbU s z = s z := by
  unfold tbU; rw [pput_lo _ _ _ h1 (by omega), fu_n _ _ _ (by omega), fu_n _ _ _ h3]
theorem tbU_3 {s : Int → Int} (h1 : 0 ≤ s 1) : tbU s 3 = 0 := by
  unfold tbU; rw [pput_lo _ _ _ h1 (by omega), fu_n _ _ _ (by omega), fu_s]
theorem tbU_lim {s : Int → Int} (h1 : 0 ≤ s 1 ∧ s 1 ≤ 4) : tbU s (166 + s 1) = (tbR s).2.2.1 := by
  unfold tbU; rw [pput_lo _ _ _ h1.1 (by omega), fu_s]
theorem tbU_oldl {s : Int → Int} (h1 : 0 ≤ s 1 ∧ s 1 ≤ 4) {t : Int} (ht : 0 ≤ t ∧ t < s 1) : tbU s (166 + t) = s (166 + t) := by
  unfold tbU; rw [pput_lo _ _ _ h1.1 (by omega), fu_n _ _ _ (by omega), fu_n _ _ _ (by omega)]
theorem tbU_olds {s : Int → Int} (h1 : 0 ≤ s 1 ∧ s 1 ≤ 4) {t : Int} (ht : 0 ≤ t ∧ t < s 1) (hc : s (171 + t) ≤ 140) : ms_steps (tbU s) t = ms_steps s t := by
  have e0 : tbU s (171 + t) = s (171 + t) := by
    unfold tbU pput; rw [if_neg (by omega), if_neg (by omega), fu_n _ _ _ (by omega), fu_n _ _ _ (by omega)]
  unfold ms_steps
  rw [e0]
  refine msl_congr _ _ (fun z z1 z2 => ?_)
  unfold tbU pput; rw [if_neg (by omega), if_neg (by omega), fu_n _ _ _ (by omega), fu_n _ _ _ (by omega)]
theorem tbU_new {s : Int → Int} (h1 : 0 ≤ s 1 ∧ s 1 ≤ 4) : ms_steps (tbU s) (s 1) = (tbR s).2.2.2.1 := by
  unfold ms_steps tbU
  rw [pput_m, show ((((tbR s).2.2.2.1).length : Int)).toNat = ((tbR s).2.2.2.1).length by omega]
  refine msl_list _ _ _ (fun j hj => ?_)
  unfold pput
  rw [if_neg (by omega), if_pos (by omega)]
  congr 1
  omega
theorem rp_T.ms {s s2 : Int → Int} {t : Int} {k n : Nat} {tau : Nat → Nat × Nat} {vi : Nat → Int → Int} {vr : Nat → Int → Option Nat} (h : rp_T s t k n tau vi vr) (h1 : s2 (166 + t) = s (166 + t)) (h2 : ms_steps s2 t = ms_steps s t) : rp_T s2 t k n tau vi vr := by
  obtain ⟨g1, g2, g3, kw, ke, kc, cl, g4, g5, g6, g7, g8, g9, g10, g11⟩ := h
  exact ⟨g1, g2, by rw [h1]; exact g3, kw, ke, kc, cl, g4, g5, g6, g7, g8, g9, by rw [h2]; exact g10, g11⟩
theorem ph_at {s : Int → Int} {z : Int} (h : 0 ≤ z ∧ z < s 3) : ph s (s 3) z = s (66 + z) := by unfold ph; rw [if_pos h]
theorem cs_tab {s s2 : Int → Int} {n n1 : Nat} {tau t1 : Nat → Nat × Nat} {vi vl a b : Nat → Int → Int} {vr c : Nat → Int → Option Nat} (h : rp_S 1 s n tau vi vr) (hV : ms_V s) (hlo : ∀ z, z < 166 → ¬ z = 3 → ¬ z = 1 → ¬ z = 4 → s2 z = s z) (h3 : s2 3 = 0) (e1 : a 1 1 = 0) (e3 : a 1 3 = s2 1) (e7 : a 1 7 = s 0) (e8 : a 1 8 = s 5) (e9 : a 1 9 = s 2) (e10 : a 1 10 = wb s (s 2).toNat) (c5 : a 5 = vi 5) (c6 : a 6 = vi 6) (hk : ∀ k, 45 ≤ k ∧ k < n → a k = vi k) (hn : n ≤ n1) (ht : ∀ k, k < n → t1 k = tau k) (hv : c 4 = vr 4) (htb : ∀ t, 0 ≤ t → t < s2 1 → ∃ k, c 3 t = some k ∧ rp_T s2 t k n1 t1 a c) : rp_S 1 s2 n1 t1 a c := by
  obtain ⟨q1, q3, q7, q8, q9, q10, qt, qp, qr, qP, qT⟩ := h
  obtain ⟨hr, h0, h1, h2, h3a, h4, h5, h6, hp0, hrow, hwon, htape, htab⟩ := hV.1
  have z0 := hlo 0 (by omega) (by omega) (by omega) (by omega)
  have z2 := hlo 2 (by omega) (by omega) (by omega) (by omega)
  refine ⟨by rw [e1, h3], e3, by rw [e7, z0], by rw [e8, hlo 5 (by omega) (by omega) (by omega) (by omega)], by rw [e9, z2], ?_, fun z y1 y2 => absurd y2 (by rw [h3]; omega), ?_, ?_, ?_, htb⟩
  · rw [e10, z2]
    exact (wb_congr _ (fun k hk => hlo _ (by omega) (by omega) (by omega) (by omega))).symm
  · intro z y1 y2
    rw [z0] at y2
    show a 5 z = _
    rw [c5, hlo _ (by omega) (by omega) (by omega) (by omega)]; exact qp z y1 y2
  · intro z y1 y2
    rw [z0] at y2
    show a 6 z = _
    rw [c6, hlo _ (by omega) (by omega) (by omega) (by omega)]; exact qr z y1 y2
  · intro p p1 p2
    rw [z0] at p2
    obtain ⟨k, k1, k2⟩ := qP p p1 p2
    refine ⟨k, by show c 4 p = _; rw [hv]; exact k1, ?_⟩
    have := k2.fr hk hn ht
    unfold rp_P at this ⊢
    rw [hlo (10 + p) (by omega) (by omega) (by omega) (by omega), hlo (14 + p) (by omega) (by omega) (by omega) (by omega), hlo (18 + p) (by omega) (by omega) (by omega) (by omega)]
    exact this
theorem cq_tab {s s2 im : Int → Int} {has ran : Int} {bod : Int → Int} {n n1 : Nat} {tau t1 : Nat → Nat × Nat} {vi vl a b : Nat → Int → Int} {vr c : Nat → Int → Option Nat} (hO : xo n tau vr) (hO1 : xo n1 t1 c) (hR : RCl s im has ran bod n tau vi vr) (hS : rp_S 1 s2 n1 t1 a c) (hn : n ≤ n1 ∧ n1 ≤ n + 4) (ht : ∀ k, k < n → t1 k = tau k) (ha : ∀ k, k < n → ¬ k = 1 → ¬ (26 ≤ k ∧ k ≤ 29) → a k = vi k) (hb : ∀ k, 31 ≤ k ∧ k ≤ 44 → b k = vl k) (hc : ∀ k, k < n → ¬ k = 26 → ¬ k = 3 → c k = vr k) (hc3 : ∀ z k, c 3 z = some k → vr 3 z = some k ∨ (k < n1 ∧ t1 k = (8, 0))) : cq s2 im has ran bod n tau vi vl n1 t1 a b c := by
  have h45 := hO.1
  obtain ⟨h1, h2, h3, h4, h5, h6, h7, h8, h9, h10⟩ := hR
  refine ⟨hn, ht, hO1, ⟨hS, ?_, ?_, ?_, ?_, h6, ?_, ?_, ?_, ?_⟩, fun k hk => ⟨ha k (by omega) (by omega) (by omega), hb k hk⟩⟩
  · rcases h2 with h2 | h2
    · exact Or.inl h2
    · exact Or.inr ⟨h2.1, h2.2.fr (fun k q => ha k (by omega) (by omega) (by omega)) hn.1 ht (fun k q => hc k (by omega) (by omega) (by omega))⟩
  · rw [ha 0 (by omega) (by omega) (by omega)]; exact h3
  · rw [ha 30 (by omega) (by omega) (by omega)]; exact h4
  · rw [ha 30 (by omega) (by omega) (by omega)]; exact h5
  · unfold tri; rw [hc 15 (by omega) (by omega) (by omega)]; exact h7
  · rw [ha 2 (by omega) (by omega) (by omega)]; exact h8
  · rw [ha 9 (by omega) (by omega) (by omega)]; exact h9
  · intro z k
    refine ⟨fun q => ?_, fun q => ?_⟩
    · rw [hc 10 (by omega) (by omega) (by omega)] at q
      have old : vr 3 z = some k ∨ vr 10 z = some k → k < n1 ∧ t1 k = (8, 0) := fun q => by
        have := (h10 z k).1 q
        exact ⟨by omega, by rw [ht k this.1]; exact this.2⟩
      rcases q with q | q
      · rcases hc3 z k q with g | g
        · exact old (Or.inl g)
        · exact g
      · exact old (Or.inr q)
    · rw [hc 4 (by omega) (by omega) (by omega), hc 11 (by omega) (by omega) (by omega)] at q
      have := (h10 z k).2 q
      exact ⟨by omega, by rw [ht k this.1]; exact this.2⟩
