/-- what the script holds -/
def sx (xs : Nat → Int32) (z : Int) : Int := (xs z.toNat).toInt
theorem sx_r (xs : Nat → Int32) (z : Int) : -2147483648 ≤ sx xs z ∧ sx xs z < 2147483648 := by
  have h1 := Int32.le_toInt (xs z.toNat)
  have h2 := Int32.toInt_lt (xs z.toNat)
  unfold sx
  omega
section XV
variable {G : xg_T} {K : xk_T} {cc : ByteArray} {own : String} {nL : Nat} {Q : State → Prop} {cells slots n : Nat} {tau : Nat → Nat × Nat} {vi vl : Nat → Int → Int} {vr : Nat → Int → Option Nat} {pc pc1 : Nat} {lv : List (Nat × xa_T)} {st : List xa_T}
theorem vx_slen (hC : xk_C G K cc own nL) {L : Nat} {xs : Nat → Int32} (hX : va_X (G.2.2.2 19) L xs (xk_s K) (xk_s K).heap) (hbl : G.2.2.2 19 < (xk_s K).heap.size) (hbA : ¬ xg_A G (G.2.2.2 19)) (hd : xd_D cc pc .arraylength 1 pc1) (kk : xv G K nL Q cells slots n tau vi vl vr pc1 lv (xa_i (L : Int) :: st)) : xv G K nL Q cells slots n tau vi vl vr pc lv (xa_r 1000019 :: st) := by
  obtain ⟨p, l, e, R, s, m, args, below, meth, c⟩ := K
  obtain ⟨hx, hb, hml, hown, hts, hE, hB, hB0⟩ := hC
  obtain ⟨hd, rfl⟩ := hd
  intro H locs ls hR hS hl
  show W p l e R s m args below meth c H locs cells slots Q (F0 m pc ls (.ref (xg_ad G 1000019) :: st.map (xa_tr G)))
  rw [show (1000019 : Nat) = 1000000 + 19 from rfl, xn_ad]
  exact va_slen hx hb hX hbl hbA hS hd (kk H locs ls hR hS hl)
theorem vx_sld (hC : xk_C G K cc own nL) {L : Nat} {xs : Nat → Int32} (hX : va_X (G.2.2.2 19) L xs (xk_s K) (xk_s K).heap) (hbl : G.2.2.2 19 < (xk_s K).heap.size) (hbA : ¬ xg_A G (G.2.2.2 19)) {z : Int} (hz : 0 ≤ z ∧ z < (L : Int)) (hL : L < 2147483648) (hd : xd_D cc pc .iaload 1 pc1) (kk : xv G K nL Q cells slots n tau vi vl vr pc1 lv (xa_i (sx xs z) :: st)) : xv G K nL Q cells slots n tau vi vl vr pc lv (xa_i z :: xa_r 1000019 :: st) := by
  obtain ⟨p, l, e, R, s, m, args, below, meth, c⟩ := K
  obtain ⟨hx, hb, hml, hown, hts, hE, hB, hB0⟩ := hC
  obtain ⟨hd, rfl⟩ := hd
  intro H locs ls hR hS hl
  obtain ⟨i1, i2⟩ := xn_in hz.1 hz.2 hL
  have k2 := kk H locs ls hR hS hl
  show W p l e R s m args below meth c H locs cells slots Q (F0 m pc ls (.int (Int32.ofInt z) :: .ref (xg_ad G 1000019) :: st.map (xa_tr G)))
  rw [show (1000019 : Nat) = 1000000 + 19 from rfl, xn_ad]
  refine va_sld hx hb hX hbl hbA hS i1 hd ?_
  rw [i2]
  have e2 : Int32.ofInt (sx xs z) = xs z.toNat := Int32.ofInt_toInt _
  have k3 : W p l e R s m args below meth c H locs cells slots Q (F0 m (pc + 1) ls (.int (Int32.ofInt (sx xs z)) :: st.map (xa_tr G))) := k2
  rw [e2] at k3
  exact k3
theorem vx_icmp_same (hC : xk_C G K cc own nL) {x off : Int} {tgt : Nat} (ht : (pc : Int) + off = (tgt : Int)) (hd : xd_D cc pc (.if_icmp .eq off) 3 pc1) (k : xv G K nL Q cells slots n tau vi vl vr tgt lv st) : xv G K nL Q cells slots n tau vi vl vr pc lv (xa_i x :: xa_i x :: st) := by
  obtain ⟨p, l, e, R, s, m, args, below, meth, c⟩ := K
  obtain ⟨hx, hb, hml, hown, hts, hE, hB, hB0⟩ := hC
  obtain ⟨hd, rfl⟩ := hd
  intro H locs ls hR hS hl
  exact lv_icmp_eq hx hb hd ht (fun _ => k H locs ls hR hS hl) (fun q => absurd rfl q)
theorem vx_lcmp_same (hC : xk_C G K cc own nL) {x : Int} (hd : xd_D cc pc .lcmp 1 pc1) (k : xv G K nL Q cells slots n tau vi vl vr pc1 lv (xa_i 0 :: st)) : xv G K nL Q cells slots n tau vi vl vr pc lv (xa_l x :: xa_l x :: st) := by
  obtain ⟨p, l, e, R, s, m, args, below, meth, c⟩ := K
  obtain ⟨hx, hb, hml, hown, hts, hE, hB, hB0⟩ := hC
  obtain ⟨hd, rfl⟩ := hd
  intro H locs ls hR hS hl
  refine W.lcmp hx hb hd ?_
  have e2 : lg_cmp (Int64.ofInt x) (Int64.ofInt x) = Int32.ofInt 0 := by unfold lg_cmp; simp
  rw [e2]
  exact k H locs ls hR hS hl
end XV
