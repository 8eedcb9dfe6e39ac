theorem xo_up {n n1 : Nat} {tau t1 : Nat → Nat × Nat} {vr c : Nat → Int → Option Nat} (h : xo n tau vr) (hn : n ≤ n1 ∧ n1 ≤ 100000) (ht : ∀ k, k < 45 → t1 k = tau k ∧ c k = vr k) : xo n1 t1 c := by
  have h45 := h.1
  refine ⟨by omega, fun k hk => by rw [(ht k hk).1]; exact h.2.1 k hk, fun q hq => ?_⟩
  have : ∀ q ∈ xo_rl, q.1 < 45 := by decide
  have := this q hq
  rw [(ht _ this).2]; exact h.2.2 q hq
theorem ms_14 (u : Int → Int) (x y t : Int) (ht : 0 ≤ t) : ms_steps (fu (fu u 1 x) 4 y) t = ms_steps u t := by
  unfold ms_steps
  rw [fu_n _ _ _ (by omega), fu_n _ _ _ (by omega)]
  exact msl_congr _ _ (fun z z1 z2 => by rw [fu_n _ _ _ (by omega), fu_n _ _ _ (by omega)])
theorem spt_F {s : Int → Int} (h : ¬ s 1 = 5) (h2 : ¬ ((tbR s).1 = 0 ∧ (tbR s).2.1 = s 3)) : sp_table s = (-10 - (tbR s).2.1, tbU s) := by unfold sp_table; rw [if_neg h, if_neg h2]
theorem spt_G {s : Int → Int} (h : ¬ s 1 = 5) (h2 : (tbR s).1 = 0 ∧ (tbR s).2.1 = s 3) : sp_table s = (s 1, fu (fu (tbU s) 1 (s 1 + 1)) 4 (s 1)) := by unfold sp_table; rw [if_neg h, if_pos h2]
theorem spt_5 {s : Int → Int} (h : s 1 = 5) : sp_table s = (-4, s) := by unfold sp_table; rw [if_pos h]
