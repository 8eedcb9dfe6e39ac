def pn (kd : Int) : Nat := if kd = 1 then 0 else if kd = 2 then 9 else if kd = 3 then 7 else if kd = 4 then 3 else if kd = 5 then 1 else if kd = 6 then 10 else 4
theorem xp_pn (kd : Int) : xp_K 4 (pn kd) := by unfold pn; (repeat' split) <;> simp [xp_K]
def rp_P (s : Int → Int) (p : Int) (k n : Nat) (tau : Nat → Nat × Nat) (vi : Nat → Int → Int) : Prop := (45 ≤ k ∧ k < n) ∧ tau k = (pn (s (10 + p)), 0) ∧ vi k 0 = s (10 + p) ∧ vi k 1 = p ∧ vi k 2 = s (14 + p) ∧ vi k 3 = s (18 + p)
def trc (t : Int) : Int := if t < 0 then t else (t % 8 * 3 + t / 8 % 4) * 100 + t / 32
/-- clauses as the class's rows have them -/
def tr_ok (W E C : Int → Int) : List (List Int × Int) → Int → Int → Prop
  | [], _, _ => True
  | q :: r, i, f => E i = f + (q.1.length : Int) ∧ W i = mwt q.2 ∧ q.2 ≤ -10 ∧ (∀ x ∈ q.1, -10 < x) ∧ (∀ j : Nat, j < q.1.length → C (f + (j : Int)) = trc (q.1.getD j 0)) ∧ tr_ok W E C r (i + 1) (f + (q.1.length : Int))
def fl : List (List Int × Int) → List Int
  | [] => []
  | q :: r => q.1 ++ q.2 :: fl r
def cln : List (List Int × Int) → Nat
  | [] => 0
  | q :: r => q.1.length + cln r
def rp_T (s : Int → Int) (t : Int) (k : Nat) (n : Nat) (tau : Nat → Nat × Nat) (vi : Nat → Int → Int) (vr : Nat → Int → Option Nat) : Prop := (45 ≤ k ∧ k < n) ∧ tau k = (8, 0) ∧ vi k 3 = s (166 + t) ∧ ∃ (kw ke kc : Nat) (cl : List (List Int × Int)), ((45 ≤ kw ∧ kw < n) ∧ tau kw = (14, cl.length)) ∧ ((45 ≤ ke ∧ ke < n) ∧ tau ke = (14, cl.length)) ∧ ((45 ≤ kc ∧ kc < n) ∧ tau kc = (14, cln cl)) ∧ vr k 0 = some kw ∧ vr k 1 = some ke ∧ vr k 2 = some kc ∧ ms_steps s t = fl cl ∧ cl.length ≤ 10 ∧ cln cl ≤ 100 ∧ tr_ok (vi kw) (vi ke) (vi kc) cl 0 0
/-- the throws told by hand as bits -/
def wb (s : Int → Int) : Nat → Int
  | 0 => 0
  | n + 1 => wb s n + s (42 + (n : Int)) * (2 : Int) ^ n
def rp_S (b : Nat) (s : Int → Int) (n : Nat) (tau : Nat → Nat × Nat) (vi : Nat → Int → Int) (vr : Nat → Int → Option Nat) : Prop := vi b 1 = s 3 ∧ vi b 3 = s 1 ∧ vi b 7 = s 0 ∧ vi b 8 = s 5 ∧ vi b 9 = s 2 ∧ vi b 10 = wb s (s 2).toNat ∧ (∀ z, 0 ≤ z → z < s 3 → vi (b + 1) z = s (66 + z)) ∧ (∀ z, 0 ≤ z → z < s 0 → vi (b + 4) z = s (22 + z)) ∧ (∀ z, 0 ≤ z → z < 4 * s 0 → vi (b + 5) z = s (26 + z)) ∧ (∀ p, 0 ≤ p → p < s 0 → ∃ k, vr (b + 3) p = some k ∧ rp_P s p k n tau vi) ∧ (∀ t, 0 ≤ t → t < s 1 → ∃ k, vr (b + 2) t = some k ∧ rp_T s t k n tau vi vr)
def tri (vr : Nat → Int → Option Nat) : Prop := (vr 15 8 = some 22 ∧ vr 15 9 = some 23) ∨ (vr 15 8 = some 23 ∧ vr 15 9 = some 22)
def byt (f : Int → Int) : Prop := ∀ z : Int, 0 ≤ z → z < ((100 : Nat) : Int) → -128 ≤ f z ∧ f z < 128
/-- what lies in the rows of tables and of players is of those kinds -/
def rvl (n : Nat) (tau : Nat → Nat × Nat) (vr : Nat → Int → Option Nat) : Prop := ∀ (z : Int) (k : Nat), ((vr 3 z = some k ∨ vr 10 z = some k) → k < n ∧ tau k = (8, 0)) ∧ ((vr 4 z = some k ∨ vr 11 z = some k) → k < n ∧ xp_K 4 (tau k).1 ∧ (tau k).2 = 0)
theorem rvl.fr {n n1 : Nat} {tau t1 : Nat → Nat × Nat} {vr c1 : Nat → Int → Option Nat} (h : rvl n tau vr) (hn : n ≤ n1) (ht : ∀ k, k < n → t1 k = tau k) (hv : ∀ k, k = 3 ∨ k = 10 ∨ k = 4 ∨ k = 11 → c1 k = vr k) : rvl n1 t1 c1 := by
  intro z k
  rw [hv 3 (by omega), hv 10 (by omega), hv 4 (by omega), hv 11 (by omega)]
  refine ⟨fun q => ?_, fun q => ?_⟩
  · have := (h z k).1 q
    exact ⟨by omega, by rw [ht k this.1]; exact this.2⟩
  · have := (h z k).2 q
    exact ⟨by omega, by rw [ht k this.1]; exact this.2⟩
/-- the class stands for the row s, the image im (if has is 1), the trace -/
def RCl (s im : Int → Int) (has ran : Int) (bod : Int → Int) (n : Nat) (tau : Nat → Nat × Nat) (vi : Nat → Int → Int) (vr : Nat → Int → Option Nat) : Prop := rp_S 1 s n tau vi vr ∧ (has = 0 ∨ (has = 1 ∧ rp_S 8 im n tau vi vr)) ∧ vi 0 2 = has ∧ vi 30 0 = ran ∧ (∀ z, 0 ≤ z → z < ran → vi 30 (1 + z) = bod z) ∧ (0 ≤ ran ∧ ran ≤ 20) ∧ tri vr ∧ byt (vi 2) ∧ byt (vi 9) ∧ rvl n tau vr
theorem rp_P.fr {s : Int → Int} {p : Int} {k : Nat} {n n1 : Nat} {tau t1 : Nat → Nat × Nat} {vi a : Nat → Int → Int} (h : rp_P s p k n tau vi) (hk : ∀ k, 45 ≤ k ∧ k < n → a k = vi k) (hn : n ≤ n1) (ht : ∀ k, k < n → t1 k = tau k) : rp_P s p k n1 t1 a := by
  obtain ⟨h1, h2, h3, h4, h5, h6⟩ := h
  refine ⟨⟨h1.1, by omega⟩, by rw [ht k h1.2]; exact h2, ?_⟩
  rw [hk k h1]
  exact ⟨h3, h4, h5, h6⟩
theorem rp_T.fr {s : Int → Int} {t : Int} {k : Nat} {n n1 : Nat} {tau t1 : Nat → Nat × Nat} {vi a : Nat → Int → Int} {vr c1 : Nat → Int → Option Nat} (h : rp_T s t k n tau vi vr) (hk : ∀ k, 45 ≤ k ∧ k < n → a k = vi k) (hn : n ≤ n1) (ht : ∀ k, k < n → t1 k = tau k) (hv : ∀ k, 45 ≤ k ∧ k < n → c1 k = vr k) : rp_T s t k n1 t1 a c1 := by
  obtain ⟨h1, h2, h3, kw, ke, kc, cl, h4, h5, h6, h7, h8, h9, h10⟩ := h
  refine ⟨⟨h1.1, by omega⟩, by rw [ht k h1.2]; exact h2, by rw [hk k h1]; exact h3, kw, ke, kc, cl, ⟨⟨h4.1.1, by omega⟩, by rw [ht kw h4.1.2]; exact h4.2⟩, ⟨⟨h5.1.1, by omega⟩, by rw [ht ke h5.1.2]; exact h5.2⟩, ⟨⟨h6.1.1, by omega⟩, by rw [ht kc h6.1.2]; exact h6.2⟩, ?_⟩
  rw [hv k h1, hk kw h4.1, hk ke h5.1, hk kc h6.1]
  exact ⟨h7, h8, h9, h10⟩
theorem rp_S.fr {b : Nat} {s : Int → Int} {n n1 : Nat} {tau t1 : Nat → Nat × Nat} {vi a : Nat → Int → Int} {vr c1 : Nat → Int → Option Nat} (h : rp_S b s n tau vi vr) (hk : ∀ k, (b ≤ k ∧ k < b + 6) ∨ (45 ≤ k ∧ k < n) → a k = vi k) (hn : n ≤ n1) (ht : ∀ k, k < n → t1 k = tau k) (hv : ∀ k, (k = b + 2 ∨ k = b + 3) ∨ (45 ≤ k ∧ k < n) → c1 k = vr k) : rp_S b s n1 t1 a c1 := by
  obtain ⟨h1, h2, h3, h4, h5, h6, h7, h8, h9, h10, h11⟩ := h
  have e0 := hk b (by omega)
  have e1 := hk (b + 1) (by omega)
  have e4 := hk (b + 4) (by omega)
  have e5 := hk (b + 5) (by omega)
  unfold rp_S
  rw [e0, e1, e4, e5, hv (b + 2) (by omega), hv (b + 3) (by omega)]
  refine ⟨h1, h2, h3, h4, h5, h6, h7, h8, h9, fun p p1 p2 => ?_, fun t t1 t2 => ?_⟩
  · obtain ⟨k, k1, k2⟩ := h10 p p1 p2
    exact ⟨k, k1, k2.fr (fun k hk1 => hk k (Or.inr hk1)) hn ht⟩
  · obtain ⟨k, k1, k2⟩ := h11 t t1 t2
    exact ⟨k, k1, k2.fr (fun k hk1 => hk k (Or.inr hk1)) hn ht (fun k hk1 => hv k (Or.inr hk1))⟩
theorem RCl.fr {s im : Int → Int} {has ran : Int} {bod : Int → Int} {n n1 : Nat} {tau t1 : Nat → Nat × Nat} {vi a : Nat → Int → Int} {vr c1 : Nat → Int → Option Nat} (h : RCl s im has ran bod n tau vi vr) (hk : ∀ k, k < 7 ∨ (8 ≤ k ∧ k < 14) ∨ k = 30 ∨ (45 ≤ k ∧ k < n) → a k = vi k) (hn : n ≤ n1) (ht : ∀ k, k < n → t1 k = tau k) (hv : ∀ k, k < 7 ∨ (8 ≤ k ∧ k < 14) ∨ k = 15 ∨ (45 ≤ k ∧ k < n) → c1 k = vr k) : RCl s im has ran bod n1 t1 a c1 := by
  obtain ⟨h1, h2, h3, h4, h5, h6, h7, h8, h9, h10⟩ := h
  refine ⟨h1.fr (fun k q => hk k (by omega)) hn ht (fun k q => hv k (by omega)), ?_, ?_, ?_, ?_, h6, ?_, ?_, ?_, h10.fr hn ht (fun k q => hv k (by omega))⟩
  · rcases h2 with h2 | h2
    · exact Or.inl h2
    · exact Or.inr ⟨h2.1, h2.2.fr (fun k q => hk k (by omega)) hn ht (fun k q => hv k (by omega))⟩
  · rw [hk 0 (by omega)]; exact h3
  · rw [hk 30 (by omega)]; exact h4
  · rw [hk 30 (by omega)]; exact h5
  · unfold tri; rw [hv 15 (by omega)]; exact h7
  · rw [hk 2 (by omega)]; exact h8
  · rw [hk 9 (by omega)]; exact h9
theorem rp_S.mk {b : Nat} {s s2 : Int → Int} {n : Nat} {tau : Nat → Nat × Nat} {vi a : Nat → Int → Int} {vr : Nat → Int → Option Nat} (h : rp_S b s n tau vi vr) (e1 : a b 1 = s2 3) (e3 : a b 3 = s2 1) (e7 : a b 7 = s2 0) (e8 : a b 8 = s2 5) (e9 : a b 9 = s2 2) (e10 : a b 10 = wb s2 (s2 2).toNat) (et : ∀ z, 0 ≤ z → z < s2 3 → a (b + 1) z = s2 (66 + z)) (ep : ∀ z, 0 ≤ z → z < s2 0 → a (b + 4) z = s2 (22 + z)) (er : ∀ z, 0 ≤ z → z < 4 * s2 0 → a (b + 5) z = s2 (26 + z)) (h0 : s2 0 = s 0) (h1 : s2 1 = s 1) (h15 : s 1 ≤ 5) (hp : ∀ p, 0 ≤ p → p < s 0 → s2 (10 + p) = s (10 + p) ∧ s2 (14 + p) = s (14 + p) ∧ s2 (18 + p) = s (18 + p)) (hz : ∀ z, 166 ≤ z → s2 z = s z) (hk : ∀ k, 45 ≤ k ∧ k < n → a k = vi k) : rp_S b s2 n tau a vr := by
  obtain ⟨q1, q2, q3, q4, q5, q6, q7, q8, q9, q10, q11⟩ := h
  refine ⟨e1, e3, e7, e8, e9, e10, et, ep, er, fun p p1 p2 => ?_, fun t t1 t2 => ?_⟩
  · rw [h0] at p2
    obtain ⟨k, k1, k2⟩ := q10 p p1 p2
    obtain ⟨r1, r2, r3⟩ := hp p p1 p2
    have := k2.fr hk (Nat.le_refl _) (fun _ _ => rfl)
    unfold rp_P at this ⊢
    rw [r1, r2, r3]
    exact ⟨k, k1, this⟩
  · rw [h1] at t2
    obtain ⟨k, k1, k2⟩ := q11 t t1 t2
    have := k2.fr hk (Nat.le_refl _) (fun _ _ => rfl) (fun _ _ => rfl)
    have em : ms_steps s2 t = ms_steps s t := by
      unfold ms_steps
      rw [hz (171 + t) (by omega), msl_congr (s := s) _ _ (fun z z1 z2 => hz z (by omega))]
    unfold rp_T at this ⊢
    rw [em, hz (166 + t) (by omega)]
    exact ⟨k, k1, this⟩
/-- how a call of the class leaves the heap -/
def cq (s2 im2 : Int → Int) (has2 ran2 : Int) (bod2 : Int → Int) (n : Nat) (tau : Nat → Nat × Nat) (vi vl : Nat → Int → Int) : xp_W := fun n1 t1 a1 b1 c1 => (n ≤ n1 ∧ n1 ≤ n + 4) ∧ (∀ k, k < n → t1 k = tau k) ∧ xo n1 t1 c1 ∧ RCl s2 im2 has2 ran2 bod2 n1 t1 a1 c1 ∧ ∀ k, 31 ≤ k ∧ k ≤ 44 → a1 k = vi k ∧ b1 k = vl k
theorem cq_ro {s im : Int → Int} {has ran : Int} {bod : Int → Int} {n : Nat} {tau : Nat → Nat × Nat} {vi vl a b : Nat → Int → Int} {vr : Nat → Int → Option Nat} (hO : xo n tau vr) (hR : RCl s im has ran bod n tau vi vr) (ha : ∀ k, k < 7 ∨ (8 ≤ k ∧ k < 14) ∨ 30 ≤ k → a k = vi k) (hb : ∀ k, 31 ≤ k ∧ k ≤ 44 → b k = vl k) : cq s im has ran bod n tau vi vl n tau a b vr :=
  ⟨⟨Nat.le_refl _, by omega⟩, fun _ _ => rfl, hO, hR.fr (fun k hk => ha k (by omega)) (Nat.le_refl _) (fun _ _ => rfl) (fun _ _ => rfl), fun k hk => ⟨ha k (by omega), hb k hk⟩⟩
theorem cq_s {s s2 im : Int → Int} {has ran : Int} {bod : Int → Int} {n : Nat} {tau : Nat → Nat × Nat} {vi vl a b : Nat → Int → Int} {vr : Nat → Int → Option Nat} (hO : xo n tau vr) (hR : RCl s im has ran bod n tau vi vr) (hS : rp_S 1 s2 n tau a vr) (hy : byt (a 2)) (ha : ∀ k, k = 0 ∨ (8 ≤ k ∧ k < 14) ∨ 30 ≤ k → a k = vi k) (hb : ∀ k, 31 ≤ k ∧ k ≤ 44 → b k = vl k) : cq s2 im has ran bod n tau vi vl n tau a b vr := by
  refine ⟨⟨Nat.le_refl _, by omega⟩, fun _ _ => rfl, hO, ?_, fun k hk => ⟨ha k (by omega), hb k hk⟩⟩
  obtain ⟨h1, h2, h3, h4, h5, h6, h7, h8, h9, h10⟩ := hR
  refine ⟨hS, ?_, ?_, ?_, ?_, h6, h7, hy, ?_, h10⟩
  · rcases h2 with h2 | h2
    · exact Or.inl h2
    · exact Or.inr ⟨h2.1, h2.2.fr (fun k q => ha k (by omega)) (Nat.le_refl _) (fun _ _ => rfl) (fun _ _ => rfl)⟩
  · rw [ha 0 (by omega)]; exact h3
  · rw [ha 30 (by omega)]; exact h4
  · rw [ha 30 (by omega)]; exact h5
  · rw [ha 9 (by omega)]; exact h9
theorem fu_if (f : Int → Int) (z x w : Int) : fu f z x w = if w = z then x else f w := rfl
theorem wb_congr {s s2 : Int → Int} : ∀ (n : Nat), (∀ k : Nat, k < n → s2 (42 + (k : Int)) = s (42 + (k : Int))) → wb s2 n = wb s n
  | 0, _ => rfl
  | n + 1, h => by rw [wb, wb, wb_congr n (fun k hk => h k (by omega)), h n (by omega)]
