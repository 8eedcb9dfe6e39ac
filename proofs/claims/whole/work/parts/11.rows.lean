theorem xn_div {x y : Int} (hx : -2147483648 ≤ x ∧ x < 2147483648) (hy : 0 < y ∧ y < 2147483648) : Int32.ofInt x / Int32.ofInt y = Int32.ofInt (x.tdiv y) :=
  (Int32.ofInt_tdiv (show (-2147483648 : Int) ≤ x by omega) (show x ≤ (2147483647 : Int) by omega) (show (-2147483648 : Int) ≤ y by omega) (show y ≤ (2147483647 : Int) by omega)).symm
theorem xn_divl {x y : Int} (hx : -9223372036854775808 ≤ x ∧ x < 9223372036854775808) (hy : 0 < y ∧ y < 9223372036854775808) : Int64.ofInt x / Int64.ofInt y = Int64.ofInt (x.tdiv y) :=
  (Int64.ofInt_tdiv (show (-9223372036854775808 : Int) ≤ x by omega) (show x ≤ (9223372036854775807 : Int) by omega) (show (-9223372036854775808 : Int) ≤ y by omega) (show y ≤ (9223372036854775807 : Int) by omega)).symm
theorem xn_ne0 {y : Int} (hy : 0 < y ∧ y < 2147483648) : ¬ Int32.ofInt y = 0 := by
  rw [show (0 : Int32) = Int32.ofInt 0 from rfl, xn_eq ⟨by omega, by omega, by omega, by omega⟩]; omega
theorem xn_ne0l {y : Int} (hy : 0 < y ∧ y < 9223372036854775808) : ¬ Int64.ofInt y = 0 := by
  rw [show (0 : Int64) = Int64.ofInt 0 from rfl, ← Int64.toInt_inj, xn_tl (by omega) (by omega), xn_tl (by omega) (by omega)]; omega
theorem xn_i2l {x : Int} (hx : -2147483648 ≤ x ∧ x < 2147483648) : (Int32.ofInt x).toInt64 = Int64.ofInt x := by
  rw [← Int64.ofInt_int32ToInt, xn_t hx.1 hx.2]
theorem xn_i2b {x : Int} (hx : -128 ≤ x ∧ x < 128) : (Int32.ofInt x).toInt8.toInt32 = Int32.ofInt x := by
  apply Int32.toInt_inj.mp
  rw [Int8.toInt_toInt32, Int32.toInt_toInt8, xn_t (by omega) (by omega)]
  exact Int.bmod_eq_of_le (by omega) (by omega)
theorem xn_i2c {x : Int} (hx : 0 ≤ x ∧ x < 65536) : ((Int32.ofInt x).toUInt32 % 65536).toInt32 = Int32.ofInt x := lg_i2c_word (by rw [xn_t (by omega) (by omega)]; omega) (by rw [xn_t (by omega) (by omega)]; omega)
theorem xn_b1 {x : Int} (hx : x = 0 ∨ x = 1) : narrow .boolean (.int (Int32.ofInt x)) = .int (Int32.ofInt x) ∧ fits .boolean (.int (Int32.ofInt x)) = true := by
  rcases hx with rfl | rfl <;> exact ⟨by decide, by decide⟩
theorem xn_by {x : Int} (hx : -128 ≤ x ∧ x < 128) : narrow .byte (.int (Int32.ofInt x)) = .int (Int32.ofInt x) := by
  show Value.int _ = _
  rw [xn_i2b hx]

section XV
variable {G : xg_T} {K : xk_T} {cc : ByteArray} {own : String} {nL : Nat} {Q : State → Prop} {cells slots n : Nat} {tau : Nat → Nat × Nat} {vi vl : Nat → Int → Int} {vr : Nat → Int → Option Nat} {pc pc1 : Nat} {lv : List (Nat × xa_T)} {st : List xa_T}
theorem vx_idiv (hC : xk_C G K cc own nL) {x y : Int} (hx0 : 0 ≤ x ∧ x < 2147483648 ∧ 0 < y ∧ y < 2147483648) (hd : xd_D cc pc .idiv 1 pc1) (k : xv G K nL Q cells slots n tau vi vl vr pc1 lv (xa_i (x / y) :: st)) : xv G K nL Q cells slots n tau vi vl vr pc lv (xa_i y :: xa_i x :: st) := by
  obtain ⟨p, l, e, R, s, m, args, below, meth, c⟩ := K
  obtain ⟨hx, hb, hml, hown, hts, hE, hB, hB0⟩ := hC
  obtain ⟨hd, rfl⟩ := hd
  intro H locs ls hR hS hl
  refine lv_idiv hx hb hd (xn_ne0 hx0.2.2) ?_
  rw [xn_div ⟨by omega, hx0.2.1⟩ hx0.2.2, Int.tdiv_eq_ediv_of_nonneg hx0.1]
  exact k H locs ls hR hS hl
theorem vx_idivT (hC : xk_C G K cc own nL) {x y : Int} (hx0 : -2147483648 ≤ x ∧ x < 2147483648 ∧ 0 < y ∧ y < 2147483648) (hd : xd_D cc pc .idiv 1 pc1) (k : xv G K nL Q cells slots n tau vi vl vr pc1 lv (xa_i (x.tdiv y) :: st)) : xv G K nL Q cells slots n tau vi vl vr pc lv (xa_i y :: xa_i x :: st) := by
  obtain ⟨p, l, e, R, s, m, args, below, meth, c⟩ := K
  obtain ⟨hx, hb, hml, hown, hts, hE, hB, hB0⟩ := hC
  obtain ⟨hd, rfl⟩ := hd
  intro H locs ls hR hS hl
  refine lv_idiv hx hb hd (xn_ne0 hx0.2.2) ?_
  rw [xn_div ⟨hx0.1, hx0.2.1⟩ hx0.2.2]
  exact k H locs ls hR hS hl
theorem vx_irem (hC : xk_C G K cc own nL) {x y : Int} (hx0 : 0 ≤ x ∧ x < 2147483648 ∧ 0 < y ∧ y < 2147483648) (hd : xd_D cc pc .irem 1 pc1) (k : xv G K nL Q cells slots n tau vi vl vr pc1 lv (xa_i (x % y) :: st)) : xv G K nL Q cells slots n tau vi vl vr pc lv (xa_i y :: xa_i x :: st) := by
  obtain ⟨p, l, e, R, s, m, args, below, meth, c⟩ := K
  obtain ⟨hx, hb, hml, hown, hts, hE, hB, hB0⟩ := hC
  obtain ⟨hd, rfl⟩ := hd
  intro H locs ls hR hS hl
  refine lv_irem hx hb hd (xn_ne0 hx0.2.2) ?_
  rw [xn_div ⟨by omega, hx0.2.1⟩ hx0.2.2, Int.tdiv_eq_ediv_of_nonneg hx0.1, ← Int32.ofInt_mul, ← Int32.ofInt_sub, show x - x / y * y = x % y by rw [Int.emod_def, Int.mul_comm]]
  exact k H locs ls hR hS hl
theorem vx_iremT (hC : xk_C G K cc own nL) {x y : Int} (hx0 : -2147483648 ≤ x ∧ x < 2147483648 ∧ 0 < y ∧ y < 2147483648) (hd : xd_D cc pc .irem 1 pc1) (k : xv G K nL Q cells slots n tau vi vl vr pc1 lv (xa_i (x.tmod y) :: st)) : xv G K nL Q cells slots n tau vi vl vr pc lv (xa_i y :: xa_i x :: st) := by
  obtain ⟨p, l, e, R, s, m, args, below, meth, c⟩ := K
  obtain ⟨hx, hb, hml, hown, hts, hE, hB, hB0⟩ := hC
  obtain ⟨hd, rfl⟩ := hd
  intro H locs ls hR hS hl
  refine lv_irem hx hb hd (xn_ne0 hx0.2.2) ?_
  rw [xn_div ⟨hx0.1, hx0.2.1⟩ hx0.2.2, ← Int32.ofInt_mul, ← Int32.ofInt_sub, show x - x.tdiv y * y = x.tmod y by rw [Int.tmod_def, Int.mul_comm]]
  exact k H locs ls hR hS hl
theorem vx_ldiv (hC : xk_C G K cc own nL) {x y : Int} (hx0 : 0 ≤ x ∧ x < 9223372036854775808 ∧ 0 < y ∧ y < 9223372036854775808) (hd : xd_D cc pc .ldiv 1 pc1) (k : xv G K nL Q cells slots n tau vi vl vr pc1 lv (xa_l (x / y) :: st)) : xv G K nL Q cells slots n tau vi vl vr pc lv (xa_l y :: xa_l x :: st) := by
  obtain ⟨p, l, e, R, s, m, args, below, meth, c⟩ := K
  obtain ⟨hx, hb, hml, hown, hts, hE, hB, hB0⟩ := hC
  obtain ⟨hd, rfl⟩ := hd
  intro H locs ls hR hS hl
  refine lv_ldiv hx hb hd (xn_ne0l hx0.2.2) ?_
  rw [xn_divl ⟨by omega, hx0.2.1⟩ hx0.2.2, Int.tdiv_eq_ediv_of_nonneg hx0.1]
  exact k H locs ls hR hS hl
theorem vx_lrem (hC : xk_C G K cc own nL) {x y : Int} (hx0 : 0 ≤ x ∧ x < 9223372036854775808 ∧ 0 < y ∧ y < 9223372036854775808) (hd : xd_D cc pc .lrem 1 pc1) (k : xv G K nL Q cells slots n tau vi vl vr pc1 lv (xa_l (x % y) :: st)) : xv G K nL Q cells slots n tau vi vl vr pc lv (xa_l y :: xa_l x :: st) := by
  obtain ⟨p, l, e, R, s, m, args, below, meth, c⟩ := K
  obtain ⟨hx, hb, hml, hown, hts, hE, hB, hB0⟩ := hC
  obtain ⟨hd, rfl⟩ := hd
  intro H locs ls hR hS hl
  refine lv_lrem hx hb hd (xn_ne0l hx0.2.2) ?_
  rw [xn_divl ⟨by omega, hx0.2.1⟩ hx0.2.2, Int.tdiv_eq_ediv_of_nonneg hx0.1, ← Int64.ofInt_mul, ← Int64.ofInt_sub, show x - x / y * y = x % y by rw [Int.emod_def, Int.mul_comm]]
  exact k H locs ls hR hS hl
theorem vx_i2l (hC : xk_C G K cc own nL) {x : Int} (hx0 : -2147483648 ≤ x ∧ x < 2147483648) (hd : xd_D cc pc .i2l 1 pc1) (k : xv G K nL Q cells slots n tau vi vl vr pc1 lv (xa_l x :: st)) : xv G K nL Q cells slots n tau vi vl vr pc lv (xa_i x :: st) := by
  obtain ⟨p, l, e, R, s, m, args, below, meth, c⟩ := K
  obtain ⟨hx, hb, hml, hown, hts, hE, hB, hB0⟩ := hC
  obtain ⟨hd, rfl⟩ := hd
  intro H locs ls hR hS hl
  exact lv_i2l hx hb hd (xn_i2l hx0) (k H locs ls hR hS hl)
theorem vx_i2b (hC : xk_C G K cc own nL) {x : Int} (hx0 : -128 ≤ x ∧ x < 128) (hd : xd_D cc pc .i2b 1 pc1) (k : xv G K nL Q cells slots n tau vi vl vr pc1 lv (xa_i x :: st)) : xv G K nL Q cells slots n tau vi vl vr pc lv (xa_i x :: st) := by
  obtain ⟨p, l, e, R, s, m, args, below, meth, c⟩ := K
  obtain ⟨hx, hb, hml, hown, hts, hE, hB, hB0⟩ := hC
  obtain ⟨hd, rfl⟩ := hd
  intro H locs ls hR hS hl
  exact lv_i2b hx hb hd (xn_i2b hx0) (k H locs ls hR hS hl)
theorem vx_i2c (hC : xk_C G K cc own nL) {x : Int} (hx0 : 0 ≤ x ∧ x < 65536) (hd : xd_D cc pc .i2c 1 pc1) (k : xv G K nL Q cells slots n tau vi vl vr pc1 lv (xa_i x :: st)) : xv G K nL Q cells slots n tau vi vl vr pc lv (xa_i x :: st) := by
  obtain ⟨p, l, e, R, s, m, args, below, meth, c⟩ := K
  obtain ⟨hx, hb, hml, hown, hts, hE, hB, hB0⟩ := hC
  obtain ⟨hd, rfl⟩ := hd
  intro H locs ls hR hS hl
  exact lv_i2c hx hb hd (xn_i2c hx0) (k H locs ls hR hS hl)
theorem vx_dup (hC : xk_C G K cc own nL) {v : xa_T} (hv : xa_c v = 1) (hd : xd_D cc pc .dup 1 pc1) (k : xv G K nL Q cells slots n tau vi vl vr pc1 lv (v :: v :: st)) : xv G K nL Q cells slots n tau vi vl vr pc lv (v :: st) := by
  obtain ⟨p, l, e, R, s, m, args, below, meth, c⟩ := K
  obtain ⟨hx, hb, hml, hown, hts, hE, hB, hB0⟩ := hC
  obtain ⟨hd, rfl⟩ := hd
  intro H locs ls hR hS hl
  exact lv_dup hx hb hd (by rw [xa_tr_c]; exact hv) (k H locs ls hR hS hl)
theorem vx_pop (hC : xk_C G K cc own nL) {v : xa_T} (hv : xa_c v = 1) (hd : xd_D cc pc .pop 1 pc1) (k : xv G K nL Q cells slots n tau vi vl vr pc1 lv st) : xv G K nL Q cells slots n tau vi vl vr pc lv (v :: st) := by
  obtain ⟨p, l, e, R, s, m, args, below, meth, c⟩ := K
  obtain ⟨hx, hb, hml, hown, hts, hE, hB, hB0⟩ := hC
  obtain ⟨hd, rfl⟩ := hd
  intro H locs ls hR hS hl
  exact lv_pop hx hb hd (by rw [xa_tr_c]; exact hv) (k H locs ls hR hS hl)
theorem vx_pop2 (hC : xk_C G K cc own nL) {v : xa_T} (hv : xa_c v = 2) (hd : xd_D cc pc .pop2 1 pc1) (k : xv G K nL Q cells slots n tau vi vl vr pc1 lv st) : xv G K nL Q cells slots n tau vi vl vr pc lv (v :: st) := by
  obtain ⟨p, l, e, R, s, m, args, below, meth, c⟩ := K
  obtain ⟨hx, hb, hml, hown, hts, hE, hB, hB0⟩ := hC
  obtain ⟨hd, rfl⟩ := hd
  intro H locs ls hR hS hl
  exact lv_pop2_2 hx hb hd (by rw [xa_tr_c]; exact hv) (k H locs ls hR hS hl)
theorem vx_dup2 (hC : xk_C G K cc own nL) {v u : xa_T} (hv : xa_c v = 1) (hu : xa_c u = 1) (hd : xd_D cc pc .dup2 1 pc1) (k : xv G K nL Q cells slots n tau vi vl vr pc1 lv (v :: u :: v :: u :: st)) : xv G K nL Q cells slots n tau vi vl vr pc lv (v :: u :: st) := by
  obtain ⟨p, l, e, R, s, m, args, below, meth, c⟩ := K
  obtain ⟨hx, hb, hml, hown, hts, hE, hB, hB0⟩ := hC
  obtain ⟨hd, rfl⟩ := hd
  intro H locs ls hR hS hl
  exact lv_dup2_11 hx hb hd (by rw [xa_tr_c]; exact hv) (by rw [xa_tr_c]; exact hu) (k H locs ls hR hS hl)
theorem vx_dup2l (hC : xk_C G K cc own nL) {v : xa_T} (hv : xa_c v = 2) (hd : xd_D cc pc .dup2 1 pc1) (k : xv G K nL Q cells slots n tau vi vl vr pc1 lv (v :: v :: st)) : xv G K nL Q cells slots n tau vi vl vr pc lv (v :: st) := by
  obtain ⟨p, l, e, R, s, m, args, below, meth, c⟩ := K
  obtain ⟨hx, hb, hml, hown, hts, hE, hB, hB0⟩ := hC
  obtain ⟨hd, rfl⟩ := hd
  intro H locs ls hR hS hl
  exact lv_dup2_2 hx hb hd (by rw [xa_tr_c]; exact hv) (k H locs ls hR hS hl)
theorem vx_dup_x1 (hC : xk_C G K cc own nL) {v u : xa_T} (hv : xa_c v = 1) (hu : xa_c u = 1) (hd : xd_D cc pc .dup_x1 1 pc1) (k : xv G K nL Q cells slots n tau vi vl vr pc1 lv (v :: u :: v :: st)) : xv G K nL Q cells slots n tau vi vl vr pc lv (v :: u :: st) := by
  obtain ⟨p, l, e, R, s, m, args, below, meth, c⟩ := K
  obtain ⟨hx, hb, hml, hown, hts, hE, hB, hB0⟩ := hC
  obtain ⟨hd, rfl⟩ := hd
  intro H locs ls hR hS hl
  exact lv_dup_x1 hx hb hd (by rw [xa_tr_c]; exact hv) (by rw [xa_tr_c]; exact hu) (k H locs ls hR hS hl)
theorem vx_goto (hC : xk_C G K cc own nL) {off : Int} {tgt : Nat} (ht : (pc : Int) + off = (tgt : Int)) (hd : xd_D cc pc (.goto off) 3 pc1) (k : xv G K nL Q cells slots n tau vi vl vr tgt lv st) : xv G K nL Q cells slots n tau vi vl vr pc lv st := by
  obtain ⟨p, l, e, R, s, m, args, below, meth, c⟩ := K
  obtain ⟨hx, hb, hml, hown, hts, hE, hB, hB0⟩ := hC
  obtain ⟨hd, rfl⟩ := hd
  intro H locs ls hR hS hl
  exact lv_goto hx hb hd ht (k H locs ls hR hS hl)
theorem vx_if_eq (hC : xk_C G K cc own nL) {x off : Int} {tgt : Nat} (hr : -2147483648 ≤ x ∧ x < 2147483648) (ht : (pc : Int) + off = (tgt : Int)) (hd : xd_D cc pc (.ifCond .eq off) 3 pc1) (kt : x = 0 → xv G K nL Q cells slots n tau vi vl vr tgt lv st) (kf : ¬ x = 0 → xv G K nL Q cells slots n tau vi vl vr pc1 lv st) : xv G K nL Q cells slots n tau vi vl vr pc lv (xa_i x :: st) := by
  obtain ⟨p, l, e, R, s, m, args, below, meth, c⟩ := K
  obtain ⟨hx, hb, hml, hown, hts, hE, hB, hB0⟩ := hC
  obtain ⟨hd, rfl⟩ := hd
  intro H locs ls hR hS hl
  exact lv_if_eq hx hb hd ht (fun q => kt ((xn_eq (x := x) (y := 0) ⟨hr.1, hr.2, by omega, by omega⟩).mp q) H locs ls hR hS hl) (fun q => kf (fun z => q ((xn_eq (x := x) (y := 0) ⟨hr.1, hr.2, by omega, by omega⟩).mpr z)) H locs ls hR hS hl)
theorem vx_icmp_eq (hC : xk_C G K cc own nL) {x y off : Int} {tgt : Nat} (hr : -2147483648 ≤ x ∧ x < 2147483648 ∧ -2147483648 ≤ y ∧ y < 2147483648) (ht : (pc : Int) + off = (tgt : Int)) (hd : xd_D cc pc (.if_icmp .eq off) 3 pc1) (kt : x = y → xv G K nL Q cells slots n tau vi vl vr tgt lv st) (kf : ¬ x = y → xv G K nL Q cells slots n tau vi vl vr pc1 lv st) : xv G K nL Q cells slots n tau vi vl vr pc lv (xa_i y :: xa_i x :: st) := by
  obtain ⟨p, l, e, R, s, m, args, below, meth, c⟩ := K
  obtain ⟨hx, hb, hml, hown, hts, hE, hB, hB0⟩ := hC
  obtain ⟨hd, rfl⟩ := hd
  intro H locs ls hR hS hl
  exact lv_icmp_eq hx hb hd ht (fun q => kt ((xn_eq (x := x) (y := y) hr).mp q) H locs ls hR hS hl) (fun q => kf (fun z => q ((xn_eq (x := x) (y := y) hr).mpr z)) H locs ls hR hS hl)
theorem vx_if_ne (hC : xk_C G K cc own nL) {x off : Int} {tgt : Nat} (hr : -2147483648 ≤ x ∧ x < 2147483648) (ht : (pc : Int) + off = (tgt : Int)) (hd : xd_D cc pc (.ifCond .ne off) 3 pc1) (kt : ¬ x = 0 → xv G K nL Q cells slots n tau vi vl vr tgt lv st) (kf : x = 0 → xv G K nL Q cells slots n tau vi vl vr pc1 lv st) : xv G K nL Q cells slots n tau vi vl vr pc lv (xa_i x :: st) := by
  obtain ⟨p, l, e, R, s, m, args, below, meth, c⟩ := K
  obtain ⟨hx, hb, hml, hown, hts, hE, hB, hB0⟩ := hC
  obtain ⟨hd, rfl⟩ := hd
  intro H locs ls hR hS hl
  exact lv_if_ne hx hb hd ht (fun q => kt (fun z => q ((xn_eq (x := x) (y := 0) ⟨hr.1, hr.2, by omega, by omega⟩).mpr z)) H locs ls hR hS hl) (fun q => kf ((xn_eq (x := x) (y := 0) ⟨hr.1, hr.2, by omega, by omega⟩).mp q) H locs ls hR hS hl)
theorem vx_icmp_ne (hC : xk_C G K cc own nL) {x y off : Int} {tgt : Nat} (hr : -2147483648 ≤ x ∧ x < 2147483648 ∧ -2147483648 ≤ y ∧ y < 2147483648) (ht : (pc : Int) + off = (tgt : Int)) (hd : xd_D cc pc (.if_icmp .ne off) 3 pc1) (kt : ¬ x = y → xv G K nL Q cells slots n tau vi vl vr tgt lv st) (kf : x = y → xv G K nL Q cells slots n tau vi vl vr pc1 lv st) : xv G K nL Q cells slots n tau vi vl vr pc lv (xa_i y :: xa_i x :: st) := by
  obtain ⟨p, l, e, R, s, m, args, below, meth, c⟩ := K
  obtain ⟨hx, hb, hml, hown, hts, hE, hB, hB0⟩ := hC
  obtain ⟨hd, rfl⟩ := hd
  intro H locs ls hR hS hl
  exact lv_icmp_ne hx hb hd ht (fun q => kt (fun z => q ((xn_eq (x := x) (y := y) hr).mpr z)) H locs ls hR hS hl) (fun q => kf ((xn_eq (x := x) (y := y) hr).mp q) H locs ls hR hS hl)
theorem vx_if_lt (hC : xk_C G K cc own nL) {x off : Int} {tgt : Nat} (hr : -2147483648 ≤ x ∧ x < 2147483648) (ht : (pc : Int) + off = (tgt : Int)) (hd : xd_D cc pc (.ifCond .lt off) 3 pc1) (kt : x < 0 → xv G K nL Q cells slots n tau vi vl vr tgt lv st) (kf : ¬ x < 0 → xv G K nL Q cells slots n tau vi vl vr pc1 lv st) : xv G K nL Q cells slots n tau vi vl vr pc lv (xa_i x :: st) := by
  obtain ⟨p, l, e, R, s, m, args, below, meth, c⟩ := K
  obtain ⟨hx, hb, hml, hown, hts, hE, hB, hB0⟩ := hC
  obtain ⟨hd, rfl⟩ := hd
  intro H locs ls hR hS hl
  exact lv_if_lt hx hb hd ht (fun q => kt ((xn_lt (x := x) (y := 0) ⟨hr.1, hr.2, by omega, by omega⟩).mp q) H locs ls hR hS hl) (fun q => kf (fun z => q ((xn_lt (x := x) (y := 0) ⟨hr.1, hr.2, by omega, by omega⟩).mpr z)) H locs ls hR hS hl)
theorem vx_icmp_lt (hC : xk_C G K cc own nL) {x y off : Int} {tgt : Nat} (hr : -2147483648 ≤ x ∧ x < 2147483648 ∧ -2147483648 ≤ y ∧ y < 2147483648) (ht : (pc : Int) + off = (tgt : Int)) (hd : xd_D cc pc (.if_icmp .lt off) 3 pc1) (kt : x < y → xv G K nL Q cells slots n tau vi vl vr tgt lv st) (kf : ¬ x < y → xv G K nL Q cells slots n tau vi vl vr pc1 lv st) : xv G K nL Q cells slots n tau vi vl vr pc lv (xa_i y :: xa_i x :: st) := by
  obtain ⟨p, l, e, R, s, m, args, below, meth, c⟩ := K
  obtain ⟨hx, hb, hml, hown, hts, hE, hB, hB0⟩ := hC
  obtain ⟨hd, rfl⟩ := hd
  intro H locs ls hR hS hl
  exact lv_icmp_lt hx hb hd ht (fun q => kt ((xn_lt (x := x) (y := y) hr).mp q) H locs ls hR hS hl) (fun q => kf (fun z => q ((xn_lt (x := x) (y := y) hr).mpr z)) H locs ls hR hS hl)
theorem vx_if_ge (hC : xk_C G K cc own nL) {x off : Int} {tgt : Nat} (hr : -2147483648 ≤ x ∧ x < 2147483648) (ht : (pc : Int) + off = (tgt : Int)) (hd : xd_D cc pc (.ifCond .ge off) 3 pc1) (kt : 0 ≤ x → xv G K nL Q cells slots n tau vi vl vr tgt lv st) (kf : ¬ 0 ≤ x → xv G K nL Q cells slots n tau vi vl vr pc1 lv st) : xv G K nL Q cells slots n tau vi vl vr pc lv (xa_i x :: st) := by
  obtain ⟨p, l, e, R, s, m, args, below, meth, c⟩ := K
  obtain ⟨hx, hb, hml, hown, hts, hE, hB, hB0⟩ := hC
  obtain ⟨hd, rfl⟩ := hd
  intro H locs ls hR hS hl
  exact lv_if_ge hx hb hd ht (fun q => kt ((xn_le (x := 0) (y := x) ⟨by omega, by omega, hr.1, hr.2⟩).mp q) H locs ls hR hS hl) (fun q => kf (fun z => q ((xn_le (x := 0) (y := x) ⟨by omega, by omega, hr.1, hr.2⟩).mpr z)) H locs ls hR hS hl)
theorem vx_icmp_ge (hC : xk_C G K cc own nL) {x y off : Int} {tgt : Nat} (hr : -2147483648 ≤ x ∧ x < 2147483648 ∧ -2147483648 ≤ y ∧ y < 2147483648) (ht : (pc : Int) + off = (tgt : Int)) (hd : xd_D cc pc (.if_icmp .ge off) 3 pc1) (kt : y ≤ x → xv G K nL Q cells slots n tau vi vl vr tgt lv st) (kf : ¬ y ≤ x → xv G K nL Q cells slots n tau vi vl vr pc1 lv st) : xv G K nL Q cells slots n tau vi vl vr pc lv (xa_i y :: xa_i x :: st) := by
  obtain ⟨p, l, e, R, s, m, args, below, meth, c⟩ := K
  obtain ⟨hx, hb, hml, hown, hts, hE, hB, hB0⟩ := hC
  obtain ⟨hd, rfl⟩ := hd
  intro H locs ls hR hS hl
  exact lv_icmp_ge hx hb hd ht (fun q => kt ((xn_le (x := y) (y := x) ⟨hr.2.2.1, hr.2.2.2, hr.1, hr.2.1⟩).mp q) H locs ls hR hS hl) (fun q => kf (fun z => q ((xn_le (x := y) (y := x) ⟨hr.2.2.1, hr.2.2.2, hr.1, hr.2.1⟩).mpr z)) H locs ls hR hS hl)
theorem vx_if_gt (hC : xk_C G K cc own nL) {x off : Int} {tgt : Nat} (hr : -2147483648 ≤ x ∧ x < 2147483648) (ht : (pc : Int) + off = (tgt : Int)) (hd : xd_D cc pc (.ifCond .gt off) 3 pc1) (kt : 0 < x → xv G K nL Q cells slots n tau vi vl vr tgt lv st) (kf : ¬ 0 < x → xv G K nL Q cells slots n tau vi vl vr pc1 lv st) : xv G K nL Q cells slots n tau vi vl vr pc lv (xa_i x :: st) := by
  obtain ⟨p, l, e, R, s, m, args, below, meth, c⟩ := K
  obtain ⟨hx, hb, hml, hown, hts, hE, hB, hB0⟩ := hC
  obtain ⟨hd, rfl⟩ := hd
  intro H locs ls hR hS hl
  exact lv_if_gt hx hb hd ht (fun q => kt ((xn_lt (x := 0) (y := x) ⟨by omega, by omega, hr.1, hr.2⟩).mp q) H locs ls hR hS hl) (fun q => kf (fun z => q ((xn_lt (x := 0) (y := x) ⟨by omega, by omega, hr.1, hr.2⟩).mpr z)) H locs ls hR hS hl)
theorem vx_icmp_gt (hC : xk_C G K cc own nL) {x y off : Int} {tgt : Nat} (hr : -2147483648 ≤ x ∧ x < 2147483648 ∧ -2147483648 ≤ y ∧ y < 2147483648) (ht : (pc : Int) + off = (tgt : Int)) (hd : xd_D cc pc (.if_icmp .gt off) 3 pc1) (kt : y < x → xv G K nL Q cells slots n tau vi vl vr tgt lv st) (kf : ¬ y < x → xv G K nL Q cells slots n tau vi vl vr pc1 lv st) : xv G K nL Q cells slots n tau vi vl vr pc lv (xa_i y :: xa_i x :: st) := by
  obtain ⟨p, l, e, R, s, m, args, below, meth, c⟩ := K
  obtain ⟨hx, hb, hml, hown, hts, hE, hB, hB0⟩ := hC
  obtain ⟨hd, rfl⟩ := hd
  intro H locs ls hR hS hl
  exact lv_icmp_gt hx hb hd ht (fun q => kt ((xn_lt (x := y) (y := x) ⟨hr.2.2.1, hr.2.2.2, hr.1, hr.2.1⟩).mp q) H locs ls hR hS hl) (fun q => kf (fun z => q ((xn_lt (x := y) (y := x) ⟨hr.2.2.1, hr.2.2.2, hr.1, hr.2.1⟩).mpr z)) H locs ls hR hS hl)
theorem vx_if_le (hC : xk_C G K cc own nL) {x off : Int} {tgt : Nat} (hr : -2147483648 ≤ x ∧ x < 2147483648) (ht : (pc : Int) + off = (tgt : Int)) (hd : xd_D cc pc (.ifCond .le off) 3 pc1) (kt : x ≤ 0 → xv G K nL Q cells slots n tau vi vl vr tgt lv st) (kf : ¬ x ≤ 0 → xv G K nL Q cells slots n tau vi vl vr pc1 lv st) : xv G K nL Q cells slots n tau vi vl vr pc lv (xa_i x :: st) := by
  obtain ⟨p, l, e, R, s, m, args, below, meth, c⟩ := K
  obtain ⟨hx, hb, hml, hown, hts, hE, hB, hB0⟩ := hC
  obtain ⟨hd, rfl⟩ := hd
  intro H locs ls hR hS hl
  exact lv_if_le hx hb hd ht (fun q => kt ((xn_le (x := x) (y := 0) ⟨hr.1, hr.2, by omega, by omega⟩).mp q) H locs ls hR hS hl) (fun q => kf (fun z => q ((xn_le (x := x) (y := 0) ⟨hr.1, hr.2, by omega, by omega⟩).mpr z)) H locs ls hR hS hl)
theorem vx_icmp_le (hC : xk_C G K cc own nL) {x y off : Int} {tgt : Nat} (hr : -2147483648 ≤ x ∧ x < 2147483648 ∧ -2147483648 ≤ y ∧ y < 2147483648) (ht : (pc : Int) + off = (tgt : Int)) (hd : xd_D cc pc (.if_icmp .le off) 3 pc1) (kt : x ≤ y → xv G K nL Q cells slots n tau vi vl vr tgt lv st) (kf : ¬ x ≤ y → xv G K nL Q cells slots n tau vi vl vr pc1 lv st) : xv G K nL Q cells slots n tau vi vl vr pc lv (xa_i y :: xa_i x :: st) := by
  obtain ⟨p, l, e, R, s, m, args, below, meth, c⟩ := K
  obtain ⟨hx, hb, hml, hown, hts, hE, hB, hB0⟩ := hC
  obtain ⟨hd, rfl⟩ := hd
  intro H locs ls hR hS hl
  exact lv_icmp_le hx hb hd ht (fun q => kt ((xn_le (x := x) (y := y) hr).mp q) H locs ls hR hS hl) (fun q => kf (fun z => q ((xn_le (x := x) (y := y) hr).mpr z)) H locs ls hR hS hl)
theorem vx_ifnull (hC : xk_C G K cc own nL) {r : Option Nat} {off : Int} {tgt : Nat} (ht : (pc : Int) + off = (tgt : Int)) (hd : xd_D cc pc (.ifnull off) 3 pc1) (kt : r = none → xv G K nL Q cells slots n tau vi vl vr tgt lv st) (kf : ∀ k, r = some k → xv G K nL Q cells slots n tau vi vl vr pc1 lv st) : xv G K nL Q cells slots n tau vi vl vr pc lv (xa_q r :: st) := by
  obtain ⟨p, l, e, R, s, m, args, below, meth, c⟩ := K
  obtain ⟨hx, hb, hml, hown, hts, hE, hB, hB0⟩ := hC
  obtain ⟨hd, rfl⟩ := hd
  intro H locs ls hR hS hl
  cases r with
  | none => exact lv_ifnullN hx hb hd ht (kt rfl H locs ls hR hS hl)
  | some k => exact lv_ifnull hx hb hd (kf k rfl H locs ls hR hS hl)
theorem vx_ifnonnull (hC : xk_C G K cc own nL) {r : Option Nat} {off : Int} {tgt : Nat} (ht : (pc : Int) + off = (tgt : Int)) (hd : xd_D cc pc (.ifnonnull off) 3 pc1) (kt : ∀ k, r = some k → xv G K nL Q cells slots n tau vi vl vr tgt lv st) (kf : r = none → xv G K nL Q cells slots n tau vi vl vr pc1 lv st) : xv G K nL Q cells slots n tau vi vl vr pc lv (xa_q r :: st) := by
  obtain ⟨p, l, e, R, s, m, args, below, meth, c⟩ := K
  obtain ⟨hx, hb, hml, hown, hts, hE, hB, hB0⟩ := hC
  obtain ⟨hd, rfl⟩ := hd
  intro H locs ls hR hS hl
  cases r with
  | none => exact lv_ifnonnullN hx hb hd (kf rfl H locs ls hR hS hl)
  | some k => exact lv_ifnonnull hx hb hd ht (kt k rfl H locs ls hR hS hl)
theorem xn_cmp {x y : Int} (hr : -9223372036854775808 ≤ x ∧ x < 9223372036854775808 ∧ -9223372036854775808 ≤ y ∧ y < 9223372036854775808) : lg_cmp (Int64.ofInt x) (Int64.ofInt y) = Int32.ofInt (if y < x then 1 else if x = y then 0 else -1) := by
  have e1 : Int64.ofInt y < Int64.ofInt x ↔ y < x := by rw [Int64.lt_iff_toInt_lt, xn_tl hr.1 hr.2.1, xn_tl hr.2.2.1 hr.2.2.2]
  have e2 : Int64.ofInt x = Int64.ofInt y ↔ x = y := by rw [← Int64.toInt_inj, xn_tl hr.1 hr.2.1, xn_tl hr.2.2.1 hr.2.2.2]
  unfold lg_cmp
  by_cases h1 : y < x
  · simp [e1, h1]
  · by_cases h2 : x = y
    · subst h2
      simp
    · simp [e1, e2, h1, h2]
theorem vx_lcmp (hC : xk_C G K cc own nL) {x y : Int} (hr : -9223372036854775808 ≤ x ∧ x < 9223372036854775808 ∧ -9223372036854775808 ≤ y ∧ y < 9223372036854775808) (hd : xd_D cc pc .lcmp 1 pc1) (k : xv G K nL Q cells slots n tau vi vl vr pc1 lv (xa_i (if y < x then 1 else if x = y then 0 else -1) :: st)) : xv G K nL Q cells slots n tau vi vl vr pc lv (xa_l y :: xa_l x :: st) := by
  obtain ⟨p, l, e, R, s, m, args, below, meth, c⟩ := K
  obtain ⟨hx, hb, hml, hown, hts, hE, hB, hB0⟩ := hC
  obtain ⟨hd, rfl⟩ := hd
  intro H locs ls hR hS hl
  refine W.lcmp hx hb hd ?_
  rw [xn_cmp hr]
  exact k H locs ls hR hS hl
theorem vx_tableIn (hC : xk_C G K cc own nL) {dflt lo hi off x : Int} {offs : Array Int} {len tgt : Nat} (hr : -2147483648 ≤ x ∧ x < 2147483648) (h1 : lo ≤ x ∧ x ≤ hi) (ho : offs[(x - lo).toNat]? = some off) (ht : (pc : Int) + off = (tgt : Int)) (hd : xd_D cc pc (.tableswitch dflt lo hi offs) len pc1) (k : xv G K nL Q cells slots n tau vi vl vr tgt lv st) : xv G K nL Q cells slots n tau vi vl vr pc lv (xa_i x :: st) := by
  obtain ⟨p, l, e, R, s, m, args, below, meth, c⟩ := K
  obtain ⟨hx, hb, hml, hown, hts, hE, hB, hB0⟩ := hC
  obtain ⟨hd, rfl⟩ := hd
  intro H locs ls hR hS hl
  have e := xn_t (x := x) hr.1 hr.2
  exact lv_tableIn hx hb hd (by rw [e]; omega) (by rw [e]; omega) (by rw [e]; exact ho) ht (k H locs ls hR hS hl)
theorem vx_tableOut (hC : xk_C G K cc own nL) {dflt lo hi x : Int} {offs : Array Int} {len tgt : Nat} (hr : -2147483648 ≤ x ∧ x < 2147483648) (h1 : x < lo ∨ hi < x) (ht : (pc : Int) + dflt = (tgt : Int)) (hd : xd_D cc pc (.tableswitch dflt lo hi offs) len pc1) (k : xv G K nL Q cells slots n tau vi vl vr tgt lv st) : xv G K nL Q cells slots n tau vi vl vr pc lv (xa_i x :: st) := by
  obtain ⟨p, l, e, R, s, m, args, below, meth, c⟩ := K
  obtain ⟨hx, hb, hml, hown, hts, hE, hB, hB0⟩ := hC
  obtain ⟨hd, rfl⟩ := hd
  intro H locs ls hR hS hl
  have e := xn_t (x := x) hr.1 hr.2
  exact lv_tableOut hx hb hd (by rw [e]; exact h1) ht (k H locs ls hR hS hl)
theorem vx_lookup (hC : xk_C G K cc own nL) {dflt off x : Int} {ps : Array (Int × Int)} {len tgt : Nat} (hr : -2147483648 ≤ x ∧ x < 2147483648) (hp : (ps.toList.zip (ps.toList.drop 1)).all (fun (a, next) => a.1 < next.1) = true) (ho : Op.lookupswitch.offset ps.toList dflt x = off) (ht : (pc : Int) + off = (tgt : Int)) (hd : xd_D cc pc (.lookupswitch dflt ps) len pc1) (k : xv G K nL Q cells slots n tau vi vl vr tgt lv st) : xv G K nL Q cells slots n tau vi vl vr pc lv (xa_i x :: st) := by
  obtain ⟨p, l, e, R, s, m, args, below, meth, c⟩ := K
  obtain ⟨hx, hb, hml, hown, hts, hE, hB, hB0⟩ := hC
  obtain ⟨hd, rfl⟩ := hd
  intro H locs ls hR hS hl
  have e := xn_t (x := x) hr.1 hr.2
  exact lv_lookup hx hb hd hp (by rw [e]; exact ho) ht (k H locs ls hR hS hl)
theorem vx_top {x : Int} (k : ∀ y : Int, y = x → xv G K nL Q cells slots n tau vi vl vr pc lv (xa_i y :: st)) : xv G K nL Q cells slots n tau vi vl vr pc lv (xa_i x :: st) := k x rfl
theorem vx_topl {x : Int} (k : ∀ y : Int, y = x → xv G K nL Q cells slots n tau vi vl vr pc lv (xa_l y :: st)) : xv G K nL Q cells slots n tau vi vl vr pc lv (xa_l x :: st) := k x rfl
theorem vx_vi (k : ∀ f : Nat → Int → Int, f = vi → xv G K nL Q cells slots n tau f vl vr pc lv st) : xv G K nL Q cells slots n tau vi vl vr pc lv st := k vi rfl
theorem vx_vl (k : ∀ f : Nat → Int → Int, f = vl → xv G K nL Q cells slots n tau vi f vr pc lv st) : xv G K nL Q cells slots n tau vi vl vr pc lv st := k vl rfl
theorem vx_vr (k : ∀ f : Nat → Int → Option Nat, f = vr → xv G K nL Q cells slots n tau vi vl f pc lv st) : xv G K nL Q cells slots n tau vi vl vr pc lv st := k vr rfl
end XV
