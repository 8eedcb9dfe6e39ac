/-- a new cell's place in a table of contents -/
def xz {α : Type} (f : Nat → α) (k : Nat) (x : α) : Nat → α := fun a => if a = k then x else f a
theorem xz_s {α : Type} (f : Nat → α) (k : Nat) (x : α) : xz f k x k = x := by simp [xz]
theorem xz_n {α : Type} (f : Nat → α) {k a : Nat} (x : α) (h : a ≠ k) : xz f k x a = f a := by simp [xz, h]
theorem xh_R.grow {G : xg_T} {n : Nat} {tau tau' : Nat → Nat × Nat} {vi vl vi' vl' : Nat → Int → Int} {vr vr' : Nat → Int → Option Nat} {H H1 : Heap} (h : xh_R G n tau vi vl vr H) (hn : n + 1 ≤ 1000000) (z : H1.size = H.size + 1) (oq : ∀ q : Nat, q < H.size → H1[q]? = H[q]?) (hat : va_at G.1 vwCl (xg_b G + n, xe_E G tau' vi' vl' vr' n) H1) (ho : ∀ j, j < n → xe_E G tau' vi' vl' vr' j = xe_E G tau vi vl vr j) : xh_R G (n + 1) tau' vi' vl' vr' H1 := by
  obtain ⟨h1, h2, h3, h4⟩ := h
  refine ⟨hn, by rw [z, h2]; omega, fun j q hj => ?_, fun q hq => by rw [oq q (by omega)]; exact h4 q hq⟩
  obtain ⟨hj, rfl⟩ := xe_get' hj
  by_cases e : j = n
  · subst e; exact hat
  · have hl : j < n := by omega
    rw [ho j hl]
    exact (h3 j _ (xe_get hl)).kept (oq _ (by show xg_b G + j < _; omega))
theorem xh_S.grow {G : xg_T} {H0 H H1 : Heap} {locs : List Loc} (h : va_S (xg_A G) H0 H locs) (z : H1.size = H.size + 1) (oq : ∀ q : Nat, q < H.size → H1[q]? = H[q]?) : va_S (xg_A G) H0 H1 locs := ⟨by rw [z]; exact Nat.le_succ_of_le h.1, fun q h1 h2 => by rw [oq q (Nat.lt_of_lt_of_le h1 h.1)]; exact h.2.1 q h1 h2, h.2.2⟩
theorem xe_old {G : xg_T} {tau tau' : Nat → Nat × Nat} {vi vl vi' vl' : Nat → Int → Int} {vr vr' : Nat → Int → Option Nat} {j : Nat} (h0 : tau' j = tau j) (h1 : vi' j = vi j) (h2 : vl' j = vl j) (h3 : vr' j = vr j) : xe_E G tau' vi' vl' vr' j = xe_E G tau vi vl vr j := by
  unfold xe_E
  simp only [h0, h1, h2, h3]
theorem xf_dv (G : xg_T) (ty : FieldType) (h : ty ≠ .float ∧ ty ≠ .double) : defaultValue ty = xf_v G (xf_k ty) 0 0 none := by
  cases ty <;> first | rfl | (exact absurd rfl h.1) | (exact absurd rfl h.2)
theorem xf_nf : ∀ ci, ci < 13 → ∀ j, j < xf_n ci → xf_ty ci j ≠ .float ∧ xf_ty ci j ≠ .double := by decide +kernel
theorem xn_ad {G : xg_T} {k : Nat} : xg_ad G (1000000 + k) = G.2.2.2 k := by
  unfold xg_ad
  rw [if_neg (by omega), show 1000000 + k - 1000000 = k by omega]
/-- the cells that nobody writes lie there still -/
theorem xk_kept {G : xg_T} {K : xk_T} {cc : ByteArray} {own : String} {nL : Nat} (hC : xk_C G K cc own nL) : ∀ a : Nat, a < G.2.2.1.size → ¬ xg_A G a → (xk_s K).heap[a]? = G.2.2.1[a]? := fun a ha _ => hC.2.2.2.2.2.2.2 a ha

section XV
variable {G : xg_T} {K : xk_T} {cc : ByteArray} {own : String} {nL : Nat} {Q : State → Prop} {cells slots n : Nat} {tau : Nat → Nat × Nat} {vi vl : Nat → Int → Int} {vr : Nat → Int → Option Nat} {pc pc1 : Nat} {lv : List (Nat × xa_T)} {st : List xa_T}
theorem vx_new (hC : xk_C G K cc own nL) {ix ci N d1 mc1 ms1 : Nat} {C : String} {T : u_T} (hc : vwCl[ci]? = some (C, T, N)) (hws : ∀ w ∈ ([.classLink own ix C, .instantiable C N, .initialized C] : List Cond), w ∈ xw_tbl) (hn : n + 1 ≤ 1000000) (hRm : xk_Rm K d1 mc1 ms1) (hcs : cells + 1 ≤ mc1 ∧ slots + N ≤ ms1) (hd : xd_D cc pc (.new ix) 3 pc1) (kk : xv G K nL Q (cells + 1) (slots + N) (n + 1) (xz tau n (ci, 0)) (xz vi n (fun _ => 0)) (xz vl n (fun _ => 0)) (xz vr n (fun _ => none)) pc1 lv (xa_r n :: st)) : xv G K nL Q cells slots n tau vi vl vr pc lv st := by
  obtain ⟨p, l, e, R, s, m, args, below, meth, c⟩ := K
  obtain ⟨hx, hb, hml, hown, hts, hE, hB, hB0⟩ := hC
  obtain ⟨hd, rfl⟩ := hd
  intro H locs ls hR hS hl
  obtain ⟨r1, r2, r3, r4⟩ := hRm
  simp only [xk_R] at r1 r2 r3 r4
  obtain ⟨c1, c2, c3, c4, c5⟩ := xc_all hc
  have hKn := hE.1.1 ci _ hc
  refine W.newcK hx hb hown (hts (.classLink own ix C) (hws _ (by simp))) (hts (.instantiable C N) (hws _ (by simp))) (hts (.initialized C) (hws _ (by simp))) rfl hd (by show cells + 1 ≤ R.cells; omega) (by show slots + N ≤ R.slots; omega) hKn.2.1 hR.2.1 fun H1 kC hkC e1 z1 o1 => ?_
  have hR1 : xh_R G (n + 1) (xz tau n (ci, 0)) (xz vi n (fun _ => 0)) (xz vl n (fun _ => 0)) (xz vr n (fun _ => none)) H1 := by
    refine hR.grow hn (by rw [z1, hR.2.1]) (by rw [hR.2.1]; exact o1) ?_ (fun j hj => xe_old (xz_n _ _ (by omega)) (xz_n _ _ (by omega)) (xz_n _ _ (by omega)) (xz_n _ _ (by omega)))
    rw [xe_obj (len := 0) (xz_s _ _ _) c1 c2]
    refine ⟨_, hc, (u_born (xf_ty ci) hts c3 hKn hkC e1 c4).to (fun j hj => ?_)⟩
    have hj : j < N := hj
    have hj2 : j < xf_n ci := by rw [c2]; exact hj
    simp [vp_V, hj, xz_s, xf_dv G _ (xf_nf ci c1 j hj2)]
  have k2 := kk H1 locs ls hR1 (xh_S.grow hS (by rw [z1, hR.2.1]) (by rw [hR.2.1]; exact o1)) hl
  have ea : xa_tr G (xa_r n) = .ref (xg_b G + n) := by
    show Value.ref (xg_ad G n) = _
    rw [hR1.ad (by omega)]
  rw [List.map_cons, ea] at k2
  exact k2
theorem vx_newarrI (hC : xk_C G K cc own nL) {z : Int} {len d1 mc1 ms1 : Nat} (hz : z = (len : Int)) (hlen : len ≤ 10000) (hw : Cond.arrayClass .int ∈ xw_tbl) (hn : n + 1 ≤ 1000000) (hRm : xk_Rm K d1 mc1 ms1) (hcs : cells + 1 ≤ mc1 ∧ slots + len ≤ ms1) (hd : xd_D cc pc (.newarray .int) 2 pc1) (kk : xv G K nL Q (cells + 1) (slots + len) (n + 1) (xz tau n (14, len)) (xz vi n (fun _ => 0)) (xz vl n (fun _ => 0)) (xz vr n (fun _ => none)) pc1 lv (xa_r n :: st)) : xv G K nL Q cells slots n tau vi vl vr pc lv (xa_i z :: st) := by
  obtain ⟨p, l, e, R, s, m, args, below, meth, c⟩ := K
  obtain ⟨hx, hb, hml, hown, hts, hE, hB, hB0⟩ := hC
  obtain ⟨hd, rfl⟩ := hd
  intro H locs ls hR hS hl
  subst hz
  obtain ⟨r1, r2, r3, r4⟩ := hRm
  simp only [xk_R] at r1 r2 r3 r4
  obtain ⟨i1, i2⟩ := xn_in (z := (len : Int)) (n := 10001) (by omega) (by omega) (by omega)
  have e0 : (Int32.ofInt (len : Int)).toNatClampNeg = len := by rw [i2]; omega
  refine va_newaK (atype := .int) hx hb (hts (.arrayClass .int) hw) rfl hd rfl (fun h => i1 (Or.inl h)) e0 (by show len * _ ≤ _; simp only [newarray.typeOf, componentBytes]; omega) (by show cells + 1 ≤ R.cells; omega) (by show slots + len ≤ R.slots; omega) hR.2.1 fun H1 cA e1 z1 o1 hAr hNm => ?_
  have hcA : cA = G.2.1 14 := Option.some.inj (hNm.symm.trans (hE.1.2 1 _ rfl).2)
  subst hcA
  have hR1 : xh_R G (n + 1) (xz tau n (14, len)) (xz vi n (fun _ => 0)) (xz vl n (fun _ => 0)) (xz vr n (fun _ => none)) H1 := by
    refine hR.grow hn (by rw [z1, hR.2.1]) (by rw [hR.2.1]; exact o1) ?_ (fun j hj => xe_old (xz_n _ _ (by omega)) (xz_n _ _ (by omega)) (xz_n _ _ (by omega)) (xz_n _ _ (by omega)))
    rw [xe_int (xz_s _ _ _) (by decide)]
    show H1[_]? = some (vp_cell _ _)
    dsimp only
    rw [e1, vp_cell_i]
    simp only [xz_s]
    rfl
  have k2 := kk H1 locs ls hR1 (xh_S.grow hS (by rw [z1, hR.2.1]) (by rw [hR.2.1]; exact o1)) hl
  have ea : xa_tr G (xa_r n) = .ref (xg_b G + n) := by
    show Value.ref (xg_ad G n) = _
    rw [hR1.ad (by omega)]
  rw [List.map_cons, ea] at k2
  exact k2
theorem vx_newarrJ (hC : xk_C G K cc own nL) {z : Int} {len d1 mc1 ms1 : Nat} (hz : z = (len : Int)) (hlen : len ≤ 10000) (hw : Cond.arrayClass .long ∈ xw_tbl) (hn : n + 1 ≤ 1000000) (hRm : xk_Rm K d1 mc1 ms1) (hcs : cells + 1 ≤ mc1 ∧ slots + len ≤ ms1) (hd : xd_D cc pc (.newarray .long) 2 pc1) (kk : xv G K nL Q (cells + 1) (slots + len) (n + 1) (xz tau n (15, len)) (xz vi n (fun _ => 0)) (xz vl n (fun _ => 0)) (xz vr n (fun _ => none)) pc1 lv (xa_r n :: st)) : xv G K nL Q cells slots n tau vi vl vr pc lv (xa_i z :: st) := by
  obtain ⟨p, l, e, R, s, m, args, below, meth, c⟩ := K
  obtain ⟨hx, hb, hml, hown, hts, hE, hB, hB0⟩ := hC
  obtain ⟨hd, rfl⟩ := hd
  intro H locs ls hR hS hl
  subst hz
  obtain ⟨r1, r2, r3, r4⟩ := hRm
  simp only [xk_R] at r1 r2 r3 r4
  obtain ⟨i1, i2⟩ := xn_in (z := (len : Int)) (n := 10001) (by omega) (by omega) (by omega)
  have e0 : (Int32.ofInt (len : Int)).toNatClampNeg = len := by rw [i2]; omega
  refine va_newaK (atype := .long) hx hb (hts (.arrayClass .long) hw) rfl hd rfl (fun h => i1 (Or.inl h)) e0 (by show len * _ ≤ _; simp only [newarray.typeOf, componentBytes]; omega) (by show cells + 1 ≤ R.cells; omega) (by show slots + len ≤ R.slots; omega) hR.2.1 fun H1 cA e1 z1 o1 hAr hNm => ?_
  have hcA : cA = G.2.1 15 := Option.some.inj (hNm.symm.trans (hE.1.2 2 _ rfl).2)
  subst hcA
  have hR1 : xh_R G (n + 1) (xz tau n (15, len)) (xz vi n (fun _ => 0)) (xz vl n (fun _ => 0)) (xz vr n (fun _ => none)) H1 := by
    refine hR.grow hn (by rw [z1, hR.2.1]) (by rw [hR.2.1]; exact o1) ?_ (fun j hj => xe_old (xz_n _ _ (by omega)) (xz_n _ _ (by omega)) (xz_n _ _ (by omega)) (xz_n _ _ (by omega)))
    rw [xe_long (xz_s _ _ _)]
    show H1[_]? = some (vp_cell _ _)
    dsimp only
    rw [e1, vp_cell_l]
    simp only [xz_s]
    rfl
  have k2 := kk H1 locs ls hR1 (xh_S.grow hS (by rw [z1, hR.2.1]) (by rw [hR.2.1]; exact o1)) hl
  have ea : xa_tr G (xa_r n) = .ref (xg_b G + n) := by
    show Value.ref (xg_ad G n) = _
    rw [hR1.ad (by omega)]
  rw [List.map_cons, ea] at k2
  exact k2
theorem vx_newarrB (hC : xk_C G K cc own nL) {z : Int} {len d1 mc1 ms1 : Nat} (hz : z = (len : Int)) (hlen : len ≤ 10000) (hw : Cond.arrayClass .byte ∈ xw_tbl) (hn : n + 1 ≤ 1000000) (hRm : xk_Rm K d1 mc1 ms1) (hcs : cells + 1 ≤ mc1 ∧ slots + len ≤ ms1) (hd : xd_D cc pc (.newarray .byte) 2 pc1) (kk : xv G K nL Q (cells + 1) (slots + len) (n + 1) (xz tau n (13, len)) (xz vi n (fun _ => 0)) (xz vl n (fun _ => 0)) (xz vr n (fun _ => none)) pc1 lv (xa_r n :: st)) : xv G K nL Q cells slots n tau vi vl vr pc lv (xa_i z :: st) := by
  obtain ⟨p, l, e, R, s, m, args, below, meth, c⟩ := K
  obtain ⟨hx, hb, hml, hown, hts, hE, hB, hB0⟩ := hC
  obtain ⟨hd, rfl⟩ := hd
  intro H locs ls hR hS hl
  subst hz
  obtain ⟨r1, r2, r3, r4⟩ := hRm
  simp only [xk_R] at r1 r2 r3 r4
  obtain ⟨i1, i2⟩ := xn_in (z := (len : Int)) (n := 10001) (by omega) (by omega) (by omega)
  have e0 : (Int32.ofInt (len : Int)).toNatClampNeg = len := by rw [i2]; omega
  refine va_newaK (atype := .byte) hx hb (hts (.arrayClass .byte) hw) rfl hd rfl (fun h => i1 (Or.inl h)) e0 (by show len * _ ≤ _; simp only [newarray.typeOf, componentBytes]; omega) (by show cells + 1 ≤ R.cells; omega) (by show slots + len ≤ R.slots; omega) hR.2.1 fun H1 cA e1 z1 o1 hAr hNm => ?_
  have hcA : cA = G.2.1 13 := Option.some.inj (hNm.symm.trans (hE.1.2 0 _ rfl).2)
  subst hcA
  have hR1 : xh_R G (n + 1) (xz tau n (13, len)) (xz vi n (fun _ => 0)) (xz vl n (fun _ => 0)) (xz vr n (fun _ => none)) H1 := by
    refine hR.grow hn (by rw [z1, hR.2.1]) (by rw [hR.2.1]; exact o1) ?_ (fun j hj => xe_old (xz_n _ _ (by omega)) (xz_n _ _ (by omega)) (xz_n _ _ (by omega)) (xz_n _ _ (by omega)))
    rw [xe_int (xz_s _ _ _) (by decide)]
    show H1[_]? = some (vp_cell _ _)
    dsimp only
    rw [e1, vp_cell_i]
    simp only [xz_s]
    rfl
  have k2 := kk H1 locs ls hR1 (xh_S.grow hS (by rw [z1, hR.2.1]) (by rw [hR.2.1]; exact o1)) hl
  have ea : xa_tr G (xa_r n) = .ref (xg_b G + n) := by
    show Value.ref (xg_ad G n) = _
    rw [hR1.ad (by omega)]
  rw [List.map_cons, ea] at k2
  exact k2
theorem vx_newarrZ (hC : xk_C G K cc own nL) {z : Int} {len d1 mc1 ms1 : Nat} (hz : z = (len : Int)) (hlen : len ≤ 10000) (hw : Cond.arrayClass .boolean ∈ xw_tbl) (hn : n + 1 ≤ 1000000) (hRm : xk_Rm K d1 mc1 ms1) (hcs : cells + 1 ≤ mc1 ∧ slots + len ≤ ms1) (hd : xd_D cc pc (.newarray .boolean) 2 pc1) (kk : xv G K nL Q (cells + 1) (slots + len) (n + 1) (xz tau n (16, len)) (xz vi n (fun _ => 0)) (xz vl n (fun _ => 0)) (xz vr n (fun _ => none)) pc1 lv (xa_r n :: st)) : xv G K nL Q cells slots n tau vi vl vr pc lv (xa_i z :: st) := by
  obtain ⟨p, l, e, R, s, m, args, below, meth, c⟩ := K
  obtain ⟨hx, hb, hml, hown, hts, hE, hB, hB0⟩ := hC
  obtain ⟨hd, rfl⟩ := hd
  intro H locs ls hR hS hl
  subst hz
  obtain ⟨r1, r2, r3, r4⟩ := hRm
  simp only [xk_R] at r1 r2 r3 r4
  obtain ⟨i1, i2⟩ := xn_in (z := (len : Int)) (n := 10001) (by omega) (by omega) (by omega)
  have e0 : (Int32.ofInt (len : Int)).toNatClampNeg = len := by rw [i2]; omega
  refine va_newaK (atype := .boolean) hx hb (hts (.arrayClass .boolean) hw) rfl hd rfl (fun h => i1 (Or.inl h)) e0 (by show len * _ ≤ _; simp only [newarray.typeOf, componentBytes]; omega) (by show cells + 1 ≤ R.cells; omega) (by show slots + len ≤ R.slots; omega) hR.2.1 fun H1 cA e1 z1 o1 hAr hNm => ?_
  have hcA : cA = G.2.1 16 := Option.some.inj (hNm.symm.trans (hE.1.2 3 _ rfl).2)
  subst hcA
  have hR1 : xh_R G (n + 1) (xz tau n (16, len)) (xz vi n (fun _ => 0)) (xz vl n (fun _ => 0)) (xz vr n (fun _ => none)) H1 := by
    refine hR.grow hn (by rw [z1, hR.2.1]) (by rw [hR.2.1]; exact o1) ?_ (fun j hj => xe_old (xz_n _ _ (by omega)) (xz_n _ _ (by omega)) (xz_n _ _ (by omega)) (xz_n _ _ (by omega)))
    rw [xe_int (xz_s _ _ _) (by decide)]
    show H1[_]? = some (vp_cell _ _)
    dsimp only
    rw [e1, vp_cell_i]
    simp only [xz_s]
    rfl
  have k2 := kk H1 locs ls hR1 (xh_S.grow hS (by rw [z1, hR.2.1]) (by rw [hR.2.1]; exact o1)) hl
  have ea : xa_tr G (xa_r n) = .ref (xg_b G + n) := by
    show Value.ref (xg_ad G n) = _
    rw [hR1.ad (by omega)]
  rw [List.map_cons, ea] at k2
  exact k2
theorem vx_newarrP (hC : xk_C G K cc own nL) {z : Int} {ix len d1 mc1 ms1 : Nat} (hz : z = (len : Int)) (hlen : len ≤ 10000) (hw : Cond.classLink own ix RX4 ∈ xw_tbl) (hn : n + 1 ≤ 1000000) (hRm : xk_Rm K d1 mc1 ms1) (hcs : cells + 1 ≤ mc1 ∧ slots + len ≤ ms1) (hd : xd_D cc pc (.anewarray ix) 3 pc1) (kk : xv G K nL Q (cells + 1) (slots + len) (n + 1) (xz tau n (17, len)) (xz vi n (fun _ => 0)) (xz vl n (fun _ => 0)) (xz vr n (fun _ => none)) pc1 lv (xa_r n :: st)) : xv G K nL Q cells slots n tau vi vl vr pc lv (xa_i z :: st) := by
  obtain ⟨p, l, e, R, s, m, args, below, meth, c⟩ := K
  obtain ⟨hx, hb, hml, hown, hts, hE, hB, hB0⟩ := hC
  obtain ⟨hd, rfl⟩ := hd
  intro H locs ls hR hS hl
  subst hz
  obtain ⟨r1, r2, r3, r4⟩ := hRm
  simp only [xk_R] at r1 r2 r3 r4
  obtain ⟨i1, i2⟩ := xn_in (z := (len : Int)) (n := 10001) (by omega) (by omega) (by omega)
  have e0 : (Int32.ofInt (len : Int)).toNatClampNeg = len := by rw [i2]; omega
  refine W.anew hx hb hown (hts _ hw) (va_AO.use hE.2.2.2.2.1.1) rfl hd rfl (fun h => i1 (Or.inl h)) (by rw [e0]; omega) (by show cells + 1 ≤ R.cells; omega) (by rw [e0]; show slots + len ≤ R.slots; omega) fun cA kA comp f1 f2 f3 f4 => ?_
  have hcA : cA = G.2.1 17 := by
    obtain ⟨_, _, _, _, _, h4⟩ := (hE.1.2 4 _ rfl).2
    exact Option.some.inj (f1.symm.trans h4)
  subst hcA
  rw [e0]
  generalize hH1 : H.push ({ cls := G.2.1 17, slots := Array.replicate len .null, vm := .none } : Cell) = H1
  have z1 : H1.size = H.size + 1 := by rw [← hH1, Array.size_push]
  have e1 : H1[H.size]? = some (arrV (G.2.1 17) len (fun _ => .null)) := by rw [← hH1, Array.getElem?_push_size, ← arrV_new]
  have o1 : ∀ q : Nat, q < H.size → H1[q]? = H[q]? := fun q hq => by rw [← hH1, Array.getElem?_push, if_neg (Nat.ne_of_lt hq)]
  have hR1 : xh_R G (n + 1) (xz tau n (17, len)) (xz vi n (fun _ => 0)) (xz vl n (fun _ => 0)) (xz vr n (fun _ => none)) H1 := by
    refine hR.grow hn z1 o1 ?_ (fun j hj => xe_old (xz_n _ _ (by omega)) (xz_n _ _ (by omega)) (xz_n _ _ (by omega)) (xz_n _ _ (by omega)))
    rw [xe_ref (xz_s _ _ _) (by decide)]
    show H1[_]? = some (vp_cell _ _)
    dsimp only
    rw [← hR.2.1, e1, vp_cell_q]
    simp only [xz_s]
    rfl
  have k2 := kk H1 locs ls hR1 (xh_S.grow hS z1 o1) hl
  have ea : xa_tr G (xa_r n) = .ref H.size := by
    show Value.ref (xg_ad G n) = _
    rw [hR1.ad (by omega), hR.2.1]
  rw [List.map_cons, ea] at k2
  exact k2
theorem vx_newarrT (hC : xk_C G K cc own nL) {z : Int} {ix len d1 mc1 ms1 : Nat} (hz : z = (len : Int)) (hlen : len ≤ 10000) (hw : Cond.classLink own ix RX8 ∈ xw_tbl) (hn : n + 1 ≤ 1000000) (hRm : xk_Rm K d1 mc1 ms1) (hcs : cells + 1 ≤ mc1 ∧ slots + len ≤ ms1) (hd : xd_D cc pc (.anewarray ix) 3 pc1) (kk : xv G K nL Q (cells + 1) (slots + len) (n + 1) (xz tau n (18, len)) (xz vi n (fun _ => 0)) (xz vl n (fun _ => 0)) (xz vr n (fun _ => none)) pc1 lv (xa_r n :: st)) : xv G K nL Q cells slots n tau vi vl vr pc lv (xa_i z :: st) := by
  obtain ⟨p, l, e, R, s, m, args, below, meth, c⟩ := K
  obtain ⟨hx, hb, hml, hown, hts, hE, hB, hB0⟩ := hC
  obtain ⟨hd, rfl⟩ := hd
  intro H locs ls hR hS hl
  subst hz
  obtain ⟨r1, r2, r3, r4⟩ := hRm
  simp only [xk_R] at r1 r2 r3 r4
  obtain ⟨i1, i2⟩ := xn_in (z := (len : Int)) (n := 10001) (by omega) (by omega) (by omega)
  have e0 : (Int32.ofInt (len : Int)).toNatClampNeg = len := by rw [i2]; omega
  refine W.anew hx hb hown (hts _ hw) (va_AO.use hE.2.2.2.2.1.2) rfl hd rfl (fun h => i1 (Or.inl h)) (by rw [e0]; omega) (by show cells + 1 ≤ R.cells; omega) (by rw [e0]; show slots + len ≤ R.slots; omega) fun cA kA comp f1 f2 f3 f4 => ?_
  have hcA : cA = G.2.1 18 := by
    obtain ⟨_, _, _, _, _, h4⟩ := (hE.1.2 5 _ rfl).2
    exact Option.some.inj (f1.symm.trans h4)
  subst hcA
  rw [e0]
  generalize hH1 : H.push ({ cls := G.2.1 18, slots := Array.replicate len .null, vm := .none } : Cell) = H1
  have z1 : H1.size = H.size + 1 := by rw [← hH1, Array.size_push]
  have e1 : H1[H.size]? = some (arrV (G.2.1 18) len (fun _ => .null)) := by rw [← hH1, Array.getElem?_push_size, ← arrV_new]
  have o1 : ∀ q : Nat, q < H.size → H1[q]? = H[q]? := fun q hq => by rw [← hH1, Array.getElem?_push, if_neg (Nat.ne_of_lt hq)]
  have hR1 : xh_R G (n + 1) (xz tau n (18, len)) (xz vi n (fun _ => 0)) (xz vl n (fun _ => 0)) (xz vr n (fun _ => none)) H1 := by
    refine hR.grow hn z1 o1 ?_ (fun j hj => xe_old (xz_n _ _ (by omega)) (xz_n _ _ (by omega)) (xz_n _ _ (by omega)) (xz_n _ _ (by omega)))
    rw [xe_ref (xz_s _ _ _) (by decide)]
    show H1[_]? = some (vp_cell _ _)
    dsimp only
    rw [← hR.2.1, e1, vp_cell_q]
    simp only [xz_s]
    rfl
  have k2 := kk H1 locs ls hR1 (xh_S.grow hS z1 o1) hl
  have ea : xa_tr G (xa_r n) = .ref H.size := by
    show Value.ref (xg_ad G n) = _
    rw [hR1.ad (by omega), hR.2.1]
  rw [List.map_cons, ea] at k2
  exact k2
theorem xk_asg (hC : xk_C G K cc own nL) {ci N : Nat} {C D : String} {T : u_T} {comp : ClassId} (hc : vwCl[ci]? = some (C, T, N)) (hD : C = D ∨ (C, D) ∈ xw_cast) (hf : (xk_s K).vm.findClass D = some comp) : (xk_s K).vm.assignable (G.1.1 ci) comp = true := by
  obtain ⟨-, -, -, -, -, hE, -⟩ := hC
  have hk := (hE.1.1 ci _ hc).2
  rcases hD with rfl | hD
  · have e : comp = G.1.1 ci := Option.some.inj (hf.symm.trans hk.1)
    rw [e]
    exact va_assign hk
  · obtain ⟨c0, t0, f1, f2, f3⟩ := Cond.castable_spec (va_Nw.use (A := #[]) rfl (hE.2.1 _ hD))
    have e1 : c0 = G.1.1 ci := Option.some.inj (f1.symm.trans hk.1)
    have e2 : t0 = comp := Option.some.inj (f2.symm.trans hf)
    rw [← e1, ← e2]
    exact f3
theorem vx_aastore17 (hC : xk_C G K cc own nL) {k len : Nat} {z : Int} {r : Option Nat} (ht : k < n ∧ tau k = (17, len)) (hz : 0 ≤ z ∧ z < len) (hln : len < 2147483648) (hr : ∀ q, r = some q → q < n ∧ ∃ ci ln C T N, tau q = (ci, ln) ∧ vwCl[ci]? = some (C, T, N) ∧ (C = RX4 ∨ (C, RX4) ∈ xw_cast)) (hd : xd_D cc pc .aastore 1 pc1) (kk : xv G K nL Q cells slots n tau vi vl (xu vr k z r) pc1 lv st) : xv G K nL Q cells slots n tau vi vl vr pc lv (xa_q r :: xa_i z :: xa_r k :: st) := by
  have hasg := fun (ci N : Nat) (C : String) (T : u_T) (comp : ClassId) h1 h2 h3 => xk_asg (ci := ci) (N := N) (C := C) (D := RX4) (T := T) (comp := comp) hC h1 h2 h3
  obtain ⟨p, l, e, R, s, m, args, below, meth, c⟩ := K
  obtain ⟨hx, hb, hml, hown, hts, hE, hB, hB0⟩ := hC
  obtain ⟨hd, rfl⟩ := hd
  intro H locs ls hR hS hl
  obtain ⟨i1, i2⟩ := xn_in hz.1 hz.2 hln
  have hP := hR.2.2.1 k _ (xe_get ht.1)
  rw [xe_ref ht.2 (by decide)] at hP
  have hin : ¬ Int32.ofInt z < 0 ∧ (Int32.ofInt z).toNatClampNeg < len := ⟨fun h => i1 (Or.inl h), Nat.not_le.mp fun h => i1 (Or.inr h)⟩
  have fin : ∀ H1 : Heap, H1[xg_b G + k]? = some ((vp_cell (G.2.1 17) (len, .inr (.inr (.inr (.inr fun j => (vr k j).map (xg_ad G)))))).setSlot (Int32.ofInt z).toNatClampNeg (va_rf (r.map (xg_ad G)))) → H1.size = H.size → (∀ q : Nat, q ≠ xg_b G + k → H1[q]? = H[q]?) → W p l e R s m args below meth c H1 (locs ++ [⟨xg_b G + k, (Int32.ofInt z).toNatClampNeg⟩]) cells slots Q (F0 m (pc + 1) ls (st.map (xa_tr G))) := by
    intro H1 e1 z1 oq
    refine kk H1 _ ls (hR.put z1 oq ?_ (fun a ha => xe_same (fun b => rfl) (fun b => rfl) (fun b => xu_n _ _ _ _ (fun q => ha q.1)))) (xh_S.put hS z1 oq) hl
    rw [xe_ref ht.2 (by decide)]
    show H1[_]? = some (vp_cell _ _)
    dsimp only
    rw [e1, i2, vp_cell_q, vp_cell_q, arrV_store]
    congr 2
    funext j
    by_cases hj : j = z.toNat
    · subst hj
      have ez : ((z.toNat : Nat) : Int) = z := by omega
      simp [updV, ez, xu_s]
    · have ez : ¬ (j : Int) = z := by omega
      simp [updV, hj, xu, ez]
  cases r with
  | none =>
    show W p l e R s m args below meth c H locs cells slots Q (F0 m pc ls (.null :: .int (Int32.ofInt z) :: .ref (xg_ad G k) :: st.map (xa_tr G)))
    rw [hR.ad ht.1]
    exact va_WaastN (C := RX4) hx hb hP ((hE.1.2 4 _ rfl).1 len _) (fun h => by cases h) (by show ¬ (_ ∨ (arrV _ _ _).slots.size ≤ _); rw [arrV_size]; exact i1) rfl rfl hd fin
  | some q =>
    obtain ⟨hq, ci, ln, C, T, N, hq2, hc, hcD⟩ := hr q rfl
    obtain ⟨c1, c2, -⟩ := xc_all hc
    show W p l e R s m args below meth c H locs cells slots Q (F0 m pc ls (.ref (xg_ad G q) :: .int (Int32.ofInt z) :: .ref (xg_ad G k) :: st.map (xa_tr G)))
    have hPq := hR.2.2.1 q _ (xe_get hq)
    rw [xe_obj hq2 c1 c2] at hPq
    obtain ⟨r', hr', cellV, g1, g2, g3, -⟩ := hPq
    obtain ⟨kA, comp, k1, k2, k3, -⟩ := (hE.1.2 4 _ rfl).2
    obtain ⟨kB, hkB, -⟩ := Vm.findClass_spec k3
    obtain ⟨-, kC, hkC, -⟩ := (hE.1.1 ci _ hc).2
    rw [hR.ad ht.1]
    refine W.aast (cv := cellV) hx hb hP (fun q h => by cases h) (fun h => by cases h) k1 k2 rfl hkB ⟨hin.1, by show _ < (arrV _ _ _).slots.size; rw [arrV_size]; exact hin.2⟩ (by rw [hR.ad hq]; exact g1) (fun q h => by rw [g3] at h; cases h) (by rw [g2]; exact hkC) (by rw [g2]; exact hasg ci N C T comp hc hcD k3) rfl rfl hd fin
theorem vx_aastore18 (hC : xk_C G K cc own nL) {k len : Nat} {z : Int} {r : Option Nat} (ht : k < n ∧ tau k = (18, len)) (hz : 0 ≤ z ∧ z < len) (hln : len < 2147483648) (hr : ∀ q, r = some q → q < n ∧ ∃ ci ln C T N, tau q = (ci, ln) ∧ vwCl[ci]? = some (C, T, N) ∧ (C = RX8 ∨ (C, RX8) ∈ xw_cast)) (hd : xd_D cc pc .aastore 1 pc1) (kk : xv G K nL Q cells slots n tau vi vl (xu vr k z r) pc1 lv st) : xv G K nL Q cells slots n tau vi vl vr pc lv (xa_q r :: xa_i z :: xa_r k :: st) := by
  have hasg := fun (ci N : Nat) (C : String) (T : u_T) (comp : ClassId) h1 h2 h3 => xk_asg (ci := ci) (N := N) (C := C) (D := RX8) (T := T) (comp := comp) hC h1 h2 h3
  obtain ⟨p, l, e, R, s, m, args, below, meth, c⟩ := K
  obtain ⟨hx, hb, hml, hown, hts, hE, hB, hB0⟩ := hC
  obtain ⟨hd, rfl⟩ := hd
  intro H locs ls hR hS hl
  obtain ⟨i1, i2⟩ := xn_in hz.1 hz.2 hln
  have hP := hR.2.2.1 k _ (xe_get ht.1)
  rw [xe_ref ht.2 (by decide)] at hP
  have hin : ¬ Int32.ofInt z < 0 ∧ (Int32.ofInt z).toNatClampNeg < len := ⟨fun h => i1 (Or.inl h), Nat.not_le.mp fun h => i1 (Or.inr h)⟩
  have fin : ∀ H1 : Heap, H1[xg_b G + k]? = some ((vp_cell (G.2.1 18) (len, .inr (.inr (.inr (.inr fun j => (vr k j).map (xg_ad G)))))).setSlot (Int32.ofInt z).toNatClampNeg (va_rf (r.map (xg_ad G)))) → H1.size = H.size → (∀ q : Nat, q ≠ xg_b G + k → H1[q]? = H[q]?) → W p l e R s m args below meth c H1 (locs ++ [⟨xg_b G + k, (Int32.ofInt z).toNatClampNeg⟩]) cells slots Q (F0 m (pc + 1) ls (st.map (xa_tr G))) := by
    intro H1 e1 z1 oq
    refine kk H1 _ ls (hR.put z1 oq ?_ (fun a ha => xe_same (fun b => rfl) (fun b => rfl) (fun b => xu_n _ _ _ _ (fun q => ha q.1)))) (xh_S.put hS z1 oq) hl
    rw [xe_ref ht.2 (by decide)]
    show H1[_]? = some (vp_cell _ _)
    dsimp only
    rw [e1, i2, vp_cell_q, vp_cell_q, arrV_store]
    congr 2
    funext j
    by_cases hj : j = z.toNat
    · subst hj
      have ez : ((z.toNat : Nat) : Int) = z := by omega
      simp [updV, ez, xu_s]
    · have ez : ¬ (j : Int) = z := by omega
      simp [updV, hj, xu, ez]
  cases r with
  | none =>
    show W p l e R s m args below meth c H locs cells slots Q (F0 m pc ls (.null :: .int (Int32.ofInt z) :: .ref (xg_ad G k) :: st.map (xa_tr G)))
    rw [hR.ad ht.1]
    exact va_WaastN (C := RX8) hx hb hP ((hE.1.2 5 _ rfl).1 len _) (fun h => by cases h) (by show ¬ (_ ∨ (arrV _ _ _).slots.size ≤ _); rw [arrV_size]; exact i1) rfl rfl hd fin
  | some q =>
    obtain ⟨hq, ci, ln, C, T, N, hq2, hc, hcD⟩ := hr q rfl
    obtain ⟨c1, c2, -⟩ := xc_all hc
    show W p l e R s m args below meth c H locs cells slots Q (F0 m pc ls (.ref (xg_ad G q) :: .int (Int32.ofInt z) :: .ref (xg_ad G k) :: st.map (xa_tr G)))
    have hPq := hR.2.2.1 q _ (xe_get hq)
    rw [xe_obj hq2 c1 c2] at hPq
    obtain ⟨r', hr', cellV, g1, g2, g3, -⟩ := hPq
    obtain ⟨kA, comp, k1, k2, k3, -⟩ := (hE.1.2 5 _ rfl).2
    obtain ⟨kB, hkB, -⟩ := Vm.findClass_spec k3
    obtain ⟨-, kC, hkC, -⟩ := (hE.1.1 ci _ hc).2
    rw [hR.ad ht.1]
    refine W.aast (cv := cellV) hx hb hP (fun q h => by cases h) (fun h => by cases h) k1 k2 rfl hkB ⟨hin.1, by show _ < (arrV _ _ _).slots.size; rw [arrV_size]; exact hin.2⟩ (by rw [hR.ad hq]; exact g1) (fun q h => by rw [g3] at h; cases h) (by rw [g2]; exact hkC) (by rw [g2]; exact hasg ci N C T comp hc hcD k3) rfl rfl hd fin
theorem vx_instY (hC : xk_C G K cc own nL) {k ci len ix N : Nat} {C D : String} {T : u_T} (ht : k < n ∧ tau k = (ci, len)) (hc : vwCl[ci]? = some (C, T, N)) (hD : C = D ∨ (C, D) ∈ xw_cast) (hw : Cond.classLink own ix D ∈ xw_tbl) (hd : xd_D cc pc (.instanceof ix) 3 pc1) (kk : xv G K nL Q cells slots n tau vi vl vr pc1 lv (xa_i 1 :: st)) : xv G K nL Q cells slots n tau vi vl vr pc lv (xa_r k :: st) := by
  obtain ⟨p, l, e, R, s, m, args, below, meth, c⟩ := K
  obtain ⟨hx, hb, hml, hown, hts, hE, hB, hB0⟩ := hC
  obtain ⟨hd, rfl⟩ := hd
  intro H locs ls hR hS hl
  obtain ⟨c1, c2, -⟩ := xc_all hc
  have hrecv : ∃ cell : Cell, H[xg_ad G k]? = some cell ∧ cell.vm.isStatics = false ∧ s.vm.findClass C = some cell.cls := by
    rw [hR.ad ht.1]
    exact va_recv hE.1 hR.2.2.1 hc (q0 := k) (by rw [xe_get ht.1, xe_obj ht.2 c1 c2])
  rcases hD with rfl | hD
  · exact va_instS hx hb hown (hts _ hw) (hE.1.1 ci _ hc).2 hrecv hd (kk H locs ls hR hS hl)
  · exact va_instY hx hb hown (hts _ hw) (hE.2.1 _ hD) hrecv hd (kk H locs ls hR hS hl)
theorem vx_instNo (hC : xk_C G K cc own nL) {k ci len ix N : Nat} {C D : String} {T : u_T} (ht : k < n ∧ tau k = (ci, len)) (hc : vwCl[ci]? = some (C, T, N)) (hD : (C, D) ∈ xw_nc) (hw : Cond.classLink own ix D ∈ xw_tbl) (hd : xd_D cc pc (.instanceof ix) 3 pc1) (kk : xv G K nL Q cells slots n tau vi vl vr pc1 lv (xa_i 0 :: st)) : xv G K nL Q cells slots n tau vi vl vr pc lv (xa_r k :: st) := by
  obtain ⟨p, l, e, R, s, m, args, below, meth, c⟩ := K
  obtain ⟨hx, hb, hml, hown, hts, hE, hB, hB0⟩ := hC
  obtain ⟨hd, rfl⟩ := hd
  intro H locs ls hR hS hl
  obtain ⟨c1, c2, -⟩ := xc_all hc
  have hrecv : ∃ cell : Cell, H[xg_ad G k]? = some cell ∧ cell.vm.isStatics = false ∧ s.vm.findClass C = some cell.cls := by
    rw [hR.ad ht.1]
    exact va_recv hE.1 hR.2.2.1 hc (q0 := k) (by rw [xe_get ht.1, xe_obj ht.2 c1 c2])
  exact va_instNo hx hb hown (hts _ hw) (hE.2.2.2.1 _ hD) hrecv hd (kk H locs ls hR hS hl)
theorem vx_givers (hC : xk_C G K cc own nL) {ix : Nat} (hw : Cond.fieldLink own ix "LastPenny$Chances" "GIVERS" "[I" ∈ xw_tbl) (hd : xd_D cc pc (.getstatic ix) 3 pc1) (kk : xv G K nL Q cells slots n tau vi vl vr pc1 lv (xa_r 1000000 :: st)) : xv G K nL Q cells slots n tau vi vl vr pc lv st := by
  have hkp := xk_kept hC
  obtain ⟨p, l, e, R, s, m, args, below, meth, c⟩ := K
  obtain ⟨hx, hb, hml, hown, hts, hE, hB, hB0⟩ := hC
  obtain ⟨hd, rfl⟩ := hd
  intro H locs ls hR hS hl
  exact va_gets hx hb (hE.2.2.2.2.2.2.1.1.kept hkp) hS hown (hts _ hw) (fun _ h => h) hd (kk H locs ls hR hS hl)
theorem vx_takers (hC : xk_C G K cc own nL) {ix : Nat} (hw : Cond.fieldLink own ix "LastPenny$Chances" "TAKERS" "[I" ∈ xw_tbl) (hd : xd_D cc pc (.getstatic ix) 3 pc1) (kk : xv G K nL Q cells slots n tau vi vl vr pc1 lv (xa_r 1000001 :: st)) : xv G K nL Q cells slots n tau vi vl vr pc lv st := by
  have hkp := xk_kept hC
  obtain ⟨p, l, e, R, s, m, args, below, meth, c⟩ := K
  obtain ⟨hx, hb, hml, hown, hts, hE, hB, hB0⟩ := hC
  obtain ⟨hd, rfl⟩ := hd
  intro H locs ls hR hS hl
  exact va_gets hx hb (hE.2.2.2.2.2.2.1.2.1.kept hkp) hS hown (hts _ hw) (fun _ h => h) hd (kk H locs ls hR hS hl)
theorem vx_compact (hC : xk_C G K cc own nL) {ix : Nat} (hw : Cond.fieldLink own ix "java/lang/String" "COMPACT_STRINGS" "Z" ∈ xw_tbl) (hd : xd_D cc pc (.getstatic ix) 3 pc1) (kk : xv G K nL Q cells slots n tau vi vl vr pc1 lv (xa_i 1 :: st)) : xv G K nL Q cells slots n tau vi vl vr pc lv st := by
  have hkp := xk_kept hC
  obtain ⟨p, l, e, R, s, m, args, below, meth, c⟩ := K
  obtain ⟨hx, hb, hml, hown, hts, hE, hB, hB0⟩ := hC
  obtain ⟨hd, rfl⟩ := hd
  intro H locs ls hR hS hl
  exact va_gets hx hb (hE.2.2.2.2.2.2.1.2.2.1.kept hkp) hS hown (hts _ hw) (fun _ h => h) hd (kk H locs ls hR hS hl)
theorem vx_sioobe (hC : xk_C G K cc own nL) {ix : Nat} (hw : Cond.fieldLink own ix "jdk/internal/util/Preconditions" "SIOOBE_FORMATTER" "Ljava/util/function/BiFunction;" ∈ xw_tbl) (hd : xd_D cc pc (.getstatic ix) 3 pc1) (kk : ∀ r : Option Nat, xv G K nL Q cells slots n tau vi vl vr pc1 lv (xa_q r :: st)) : xv G K nL Q cells slots n tau vi vl vr pc lv st := by
  have hkp := xk_kept hC
  obtain ⟨p, l, e, R, s, m, args, below, meth, c⟩ := K
  obtain ⟨hx, hb, hml, hown, hts, hE, hB, hB0⟩ := hC
  obtain ⟨hd, rfl⟩ := hd
  intro H locs ls hR hS hl
  rcases hE.2.2.2.2.2.2.1.2.2.2 with hz | hz
  · exact va_gets hx hb (hz.kept hkp) hS hown (hts _ hw) (fun _ h => h) hd (kk none H locs ls hR hS hl)
  · have k2 := kk (some 1000018) H locs ls hR hS hl
    have ea : xa_tr G (xa_q (some 1000018)) = .ref (G.2.2.2 18) := by
      show Value.ref (xg_ad G 1000018) = _
      rw [show 1000018 = 1000000 + 18 by omega, xn_ad]
    rw [List.map_cons, ea] at k2
    exact va_gets hx hb (hz.kept hkp) hS hown (hts _ hw) (fun _ h => h) hd k2
theorem vx_giver (hC : xk_C G K cc own nL) {z : Int} (hz : 0 ≤ z ∧ z < 6) (hd : xd_D cc pc .iaload 1 pc1) (kk : xv G K nL Q cells slots n tau vi vl vr pc1 lv (xa_i (([0, 0, 1, 1, 2, 2] : List Int).getD z.toNat 0) :: st)) : xv G K nL Q cells slots n tau vi vl vr pc lv (xa_i z :: xa_r 1000000 :: st) := by
  have hkp := xk_kept hC
  obtain ⟨p, l, e, R, s, m, args, below, meth, c⟩ := K
  obtain ⟨hx, hb, hml, hown, hts, hE, hB, hB0⟩ := hC
  obtain ⟨hd, rfl⟩ := hd
  intro H locs ls hR hS hl
  obtain ⟨i1, i2⟩ := xn_in (n := 6) hz.1 hz.2 (by omega)
  exact va_ti hx hb (hE.2.2.2.2.2.2.2.1.1.kept hkp) hS i1 (by rw [i2]; rfl) hd (kk H locs ls hR hS hl)
theorem vx_taker (hC : xk_C G K cc own nL) {z : Int} (hz : 0 ≤ z ∧ z < 6) (hd : xd_D cc pc .iaload 1 pc1) (kk : xv G K nL Q cells slots n tau vi vl vr pc1 lv (xa_i (([1, 2, 0, 2, 0, 1] : List Int).getD z.toNat 0) :: st)) : xv G K nL Q cells slots n tau vi vl vr pc lv (xa_i z :: xa_r 1000001 :: st) := by
  have hkp := xk_kept hC
  obtain ⟨p, l, e, R, s, m, args, below, meth, c⟩ := K
  obtain ⟨hx, hb, hml, hown, hts, hE, hB, hB0⟩ := hC
  obtain ⟨hd, rfl⟩ := hd
  intro H locs ls hR hS hl
  obtain ⟨i1, i2⟩ := xn_in (n := 6) hz.1 hz.2 (by omega)
  exact va_ti hx hb (hE.2.2.2.2.2.2.2.1.2.kept hkp) hS i1 (by rw [i2]; rfl) hd (kk H locs ls hR hS hl)
theorem vx_ldcs (hC : xk_C G K cc own nL) {ix i : Nat} {tx : String} (hs : (own, ix, tx, i) ∈ xw_sites) (hd : xd_D cc pc (.ldc ix) 2 pc1) (kk : xv G K nL Q cells slots n tau vi vl vr pc1 lv (xa_r (1000002 + i) :: st)) : xv G K nL Q cells slots n tau vi vl vr pc lv st := by
  have hkp := xk_kept hC
  obtain ⟨p, l, e, R, s, m, args, below, meth, c⟩ := K
  obtain ⟨hx, hb, hml, hown, hts, hE, hB, hB0⟩ := hC
  obtain ⟨hd, rfl⟩ := hd
  intro H locs ls hR hS hl
  have k2 := kk H locs ls hR hS hl
  have ea : xa_tr G (xa_r (1000002 + i)) = .ref (G.2.2.2 (2 + i)) := by
    show Value.ref (xg_ad G (1000002 + i)) = _
    rw [show 1000002 + i = 1000000 + (2 + i) by omega, xn_ad]
  rw [List.map_cons, ea] at k2
  exact va_ldcS hx hb hown (hE.2.2.2.2.2.1 _ hs) hd k2
theorem vx_strCoder (hC : xk_C G K cc own nL) {ix i : Nat} (hi : i < 8) (hw : Cond.fieldLink own ix "java/lang/String" "coder" "B" ∈ xw_tbl) (hd : xd_D cc pc (.getfield ix) 3 pc1) (kk : xv G K nL Q cells slots n tau vi vl vr pc1 lv (xa_i 0 :: st)) : xv G K nL Q cells slots n tau vi vl vr pc lv (xa_r (1000002 + i) :: st) := by
  have hkp := xk_kept hC
  obtain ⟨p, l, e, R, s, m, args, below, meth, c⟩ := K
  obtain ⟨hx, hb, hml, hown, hts, hE, hB, hB0⟩ := hC
  obtain ⟨hd, rfl⟩ := hd
  intro H locs ls hR hS hl
  show W p l e R s m args below meth c H locs cells slots Q (F0 m pc ls (.ref (xg_ad G (1000002 + i)) :: st.map (xa_tr G)))
  rw [show 1000002 + i = 1000000 + (2 + i) by omega, xn_ad]
  exact vk_getf hx hb ((hE.2.2.2.2.2.2.2.2 i hi).2.1.kept hkp) hS hown (hts _ hw) (fun _ h => h) hd (kk H locs ls hR hS hl)
theorem vx_strValue (hC : xk_C G K cc own nL) {ix i : Nat} (hi : i < 8) (hw : Cond.fieldLink own ix "java/lang/String" "value" "[B" ∈ xw_tbl) (hd : xd_D cc pc (.getfield ix) 3 pc1) (kk : xv G K nL Q cells slots n tau vi vl vr pc1 lv (xa_r (1000010 + i) :: st)) : xv G K nL Q cells slots n tau vi vl vr pc lv (xa_r (1000002 + i) :: st) := by
  have hkp := xk_kept hC
  obtain ⟨p, l, e, R, s, m, args, below, meth, c⟩ := K
  obtain ⟨hx, hb, hml, hown, hts, hE, hB, hB0⟩ := hC
  obtain ⟨hd, rfl⟩ := hd
  intro H locs ls hR hS hl
  have k2 := kk H locs ls hR hS hl
  have ea : xa_tr G (xa_r (1000010 + i)) = .ref (G.2.2.2 (10 + i)) := by
    show Value.ref (xg_ad G (1000010 + i)) = _
    rw [show 1000010 + i = 1000000 + (10 + i) by omega, xn_ad]
  rw [List.map_cons, ea] at k2
  show W p l e R s m args below meth c H locs cells slots Q (F0 m pc ls (.ref (xg_ad G (1000002 + i)) :: st.map (xa_tr G)))
  rw [show 1000002 + i = 1000000 + (2 + i) by omega, xn_ad]
  exact vk_getf hx hb ((hE.2.2.2.2.2.2.2.2 i hi).2.2.1.kept hkp) hS hown (hts _ hw) (fun _ h => h) hd k2
theorem vx_strLen (hC : xk_C G K cc own nL) {i : Nat} (hi : i < 8) (hd : xd_D cc pc .arraylength 1 pc1) (kk : xv G K nL Q cells slots n tau vi vl vr pc1 lv (xa_i (xw_byt.getD i []).length :: st)) : xv G K nL Q cells slots n tau vi vl vr pc lv (xa_r (1000010 + i) :: st) := by
  have hkp := xk_kept hC
  obtain ⟨p, l, e, R, s, m, args, below, meth, c⟩ := K
  obtain ⟨hx, hb, hml, hown, hts, hE, hB, hB0⟩ := hC
  obtain ⟨hd, rfl⟩ := hd
  intro H locs ls hR hS hl
  show W p l e R s m args below meth c H locs cells slots Q (F0 m pc ls (.ref (xg_ad G (1000010 + i)) :: st.map (xa_tr G)))
  rw [show 1000010 + i = 1000000 + (10 + i) by omega, xn_ad]
  exact va_tlen hx hb ((hE.2.2.2.2.2.2.2.2 i hi).2.2.2.kept hkp) hS rfl hd (kk H locs ls hR hS hl)
theorem vx_strByte (hC : xk_C G K cc own nL) {i : Nat} {z : Int} (hi : i < 8) (hz : 0 ≤ z ∧ z < (xw_byt.getD i []).length) (hd : xd_D cc pc .baload 1 pc1) (kk : xv G K nL Q cells slots n tau vi vl vr pc1 lv (xa_i ((xw_byt.getD i []).getD z.toNat 0) :: st)) : xv G K nL Q cells slots n tau vi vl vr pc lv (xa_i z :: xa_r (1000010 + i) :: st) := by
  have hkp := xk_kept hC
  obtain ⟨p, l, e, R, s, m, args, below, meth, c⟩ := K
  obtain ⟨hx, hb, hml, hown, hts, hE, hB, hB0⟩ := hC
  obtain ⟨hd, rfl⟩ := hd
  intro H locs ls hR hS hl
  have hln : (xw_byt.getD i []).length < 2147483648 := by
    have : ∀ i, i < 8 → (xw_byt.getD i []).length < 2147483648 := by decide
    exact this i hi
  obtain ⟨i1, i2⟩ := xn_in hz.1 hz.2 hln
  show W p l e R s m args below meth c H locs cells slots Q (F0 m pc ls (.int (Int32.ofInt z) :: .ref (xg_ad G (1000010 + i)) :: st.map (xa_tr G)))
  rw [show 1000010 + i = 1000000 + (10 + i) by omega, xn_ad]
  exact va_tb hx hb ((hE.2.2.2.2.2.2.2.2 i hi).2.2.2.kept hkp) hS i1 (by rw [i2]; rfl) hd (kk H locs ls hR hS hl)
theorem vx_mmax (hC : xk_C G K cc own nL) {x y : Int} {ix d1 mc1 ms1 : Nat} (hr : -2147483648 ≤ x ∧ x < 2147483648 ∧ -2147483648 ≤ y ∧ y < 2147483648) (hws : ∀ w ∈ ([.methodLink own ix Lib.Math.max.name, .static Lib.Math.max.name, .initialized "java/lang/Math", .code Lib.Math.max.name Lib.Math.max.code 2 (some .int)] : List Cond), w ∈ xw_tbl) (hRm : xk_Rm K d1 mc1 ms1) (h1 : 1 ≤ d1 ∧ cells ≤ mc1 ∧ slots ≤ ms1) (hw8 : (st.map xa_c).sum ≤ 8) (hd : xd_D cc pc (.invokestatic ix) 3 pc1) (kk : xv G K nL Q cells slots n tau vi vl vr pc1 lv (xa_i (if x < y then y else x) :: st)) : xv G K nL Q cells slots n tau vi vl vr pc lv (xa_i y :: xa_i x :: st) := by
  obtain ⟨p, l, e, R, s, m, args, below, meth, c⟩ := K
  obtain ⟨hx, hb, hml, hown, hts, hE, hB, hB0⟩ := hC
  obtain ⟨hd, rfl⟩ := hd
  intro H locs ls hR hS hl
  obtain ⟨r1, r2, r3, r4⟩ := hRm
  simp only [xk_R] at r1 r2 r3 r4
  have hw9 : ((st.map (xa_tr G)).map fun v => v.category).sum ≤ 8 := by
    rw [List.map_map, show ((fun v : Value => v.category) ∘ xa_tr G) = xa_c from funext fun v => xa_tr_c G v]
    exact hw8
  refine va_mmax hx hb (by rw [hl.1]; exact hml) hown (hts _ (hws _ (by simp))) (hts _ (hws _ (by simp))) (hts _ (hws _ (by simp))) (hts _ (hws _ (by simp))) (by show 1 ≤ R.frames; omega) (by show _ ≤ R.locals; omega) (by show cells ≤ R.cells; omega) (by show slots ≤ R.slots; omega) hd ?_
  have e : (if Int32.ofInt x < Int32.ofInt y then Int32.ofInt y else Int32.ofInt x) = Int32.ofInt (if x < y then y else x) := by
    by_cases h : x < y
    · rw [if_pos h, if_pos ((xn_lt hr).mpr h)]
    · rw [if_neg h, if_neg (fun q => h ((xn_lt hr).mp q))]
  rw [e]
  exact kk H locs ls hR hS hl
theorem vx_mmin (hC : xk_C G K cc own nL) {x y : Int} {ix d1 mc1 ms1 : Nat} (hr : -2147483648 ≤ x ∧ x < 2147483648 ∧ -2147483648 ≤ y ∧ y < 2147483648) (hws : ∀ w ∈ ([.methodLink own ix Lib.Math.min.name, .static Lib.Math.min.name, .initialized "java/lang/Math", .code Lib.Math.min.name Lib.Math.min.code 2 (some .int)] : List Cond), w ∈ xw_tbl) (hRm : xk_Rm K d1 mc1 ms1) (h1 : 1 ≤ d1 ∧ cells ≤ mc1 ∧ slots ≤ ms1) (hw8 : (st.map xa_c).sum ≤ 8) (hd : xd_D cc pc (.invokestatic ix) 3 pc1) (kk : xv G K nL Q cells slots n tau vi vl vr pc1 lv (xa_i (if y < x then y else x) :: st)) : xv G K nL Q cells slots n tau vi vl vr pc lv (xa_i y :: xa_i x :: st) := by
  obtain ⟨p, l, e, R, s, m, args, below, meth, c⟩ := K
  obtain ⟨hx, hb, hml, hown, hts, hE, hB, hB0⟩ := hC
  obtain ⟨hd, rfl⟩ := hd
  intro H locs ls hR hS hl
  obtain ⟨r1, r2, r3, r4⟩ := hRm
  simp only [xk_R] at r1 r2 r3 r4
  have hw9 : ((st.map (xa_tr G)).map fun v => v.category).sum ≤ 8 := by
    rw [List.map_map, show ((fun v : Value => v.category) ∘ xa_tr G) = xa_c from funext fun v => xa_tr_c G v]
    exact hw8
  refine va_mmin hx hb (by rw [hl.1]; exact hml) hown (hts _ (hws _ (by simp))) (hts _ (hws _ (by simp))) (hts _ (hws _ (by simp))) (hts _ (hws _ (by simp))) (by show 1 ≤ R.frames; omega) (by show _ ≤ R.locals; omega) (by show cells ≤ R.cells; omega) (by show slots ≤ R.slots; omega) hd ?_
  have e : (if Int32.ofInt y < Int32.ofInt x then Int32.ofInt y else Int32.ofInt x) = Int32.ofInt (if y < x then y else x) := by
    by_cases h : y < x
    · rw [if_pos h, if_pos ((xn_lt ⟨hr.2.2.1, hr.2.2.2, hr.1, hr.2.1⟩).mpr h)]
    · rw [if_neg h, if_neg (fun q => h ((xn_lt ⟨hr.2.2.1, hr.2.2.2, hr.1, hr.2.1⟩).mp q))]
  rw [e]
  exact kk H locs ls hR hS hl
theorem vx_mabs (hC : xk_C G K cc own nL) {x : Int} {ix d1 mc1 ms1 : Nat} (hr : -2147483648 ≤ x ∧ x < 2147483648) (hws : ∀ w ∈ ([.methodLink own ix Lib.Math.abs.name, .static Lib.Math.abs.name, .initialized "java/lang/Math", .code Lib.Math.abs.name Lib.Math.abs.code 1 (some .int)] : List Cond), w ∈ xw_tbl) (hRm : xk_Rm K d1 mc1 ms1) (h1 : 1 ≤ d1 ∧ cells ≤ mc1 ∧ slots ≤ ms1) (hw8 : (st.map xa_c).sum ≤ 8) (hd : xd_D cc pc (.invokestatic ix) 3 pc1) (kk : xv G K nL Q cells slots n tau vi vl vr pc1 lv (xa_i (if 0 ≤ x then x else 0 - x) :: st)) : xv G K nL Q cells slots n tau vi vl vr pc lv (xa_i x :: st) := by
  obtain ⟨p, l, e, R, s, m, args, below, meth, c⟩ := K
  obtain ⟨hx, hb, hml, hown, hts, hE, hB, hB0⟩ := hC
  obtain ⟨hd, rfl⟩ := hd
  intro H locs ls hR hS hl
  obtain ⟨r1, r2, r3, r4⟩ := hRm
  simp only [xk_R] at r1 r2 r3 r4
  have hw9 : ((st.map (xa_tr G)).map fun v => v.category).sum ≤ 8 := by
    rw [List.map_map, show ((fun v : Value => v.category) ∘ xa_tr G) = xa_c from funext fun v => xa_tr_c G v]
    exact hw8
  refine va_mabs hx hb (by rw [hl.1]; exact hml) hown (hts _ (hws _ (by simp))) (hts _ (hws _ (by simp))) (hts _ (hws _ (by simp))) (hts _ (hws _ (by simp))) (by show 1 ≤ R.frames; omega) (by show _ ≤ R.locals; omega) (by show cells ≤ R.cells; omega) (by show slots ≤ R.slots; omega) hd ?_
  have e : (if 0 ≤ Int32.ofInt x then Int32.ofInt x else 0 - Int32.ofInt x) = Int32.ofInt (if 0 ≤ x then x else 0 - x) := by
    have h0 : (0 : Int32) ≤ Int32.ofInt x ↔ 0 ≤ x := xn_le (x := 0) (y := x) ⟨by omega, by omega, hr.1, hr.2⟩
    by_cases h : 0 ≤ x
    · rw [if_pos h, if_pos (h0.mpr h)]
    · rw [if_neg h, if_neg (fun q => h (h0.mp q)), Int32.ofInt_sub]; rfl
  rw [e]
  exact kk H locs ls hR hS hl
/-- copy: places dp .. dp + m - 1 of the new row are f's from sp on -/
def xcp (f g : Int → Int) (sp dp m : Int) : Int → Int := fun z => if dp ≤ z ∧ z < dp + m then f (sp + (z - dp)) else g z
theorem vx_copyW {p : Program} {l : Launch} {e : Env} {R : Room} {s : State} {m : MethodId} {args : Array Value} {below : List Frame} {meth : Method} {c : Code} {H : Heap} {locs : List Loc} {ls : Array Slot} {rest : List Value} (hexec : p.tables.exec = Jvm.exec) (hb : c.code = cc) (hml : c.maxLocals = ls.size) {ix : Nat} (hown : s.vm.findClass own = some m.cls) (hlink : (Cond.methodLink own ix arraycopyName).before args s = true) (hnat : (Cond.native arraycopyName).before args s = true) (hstat : (Cond.static arraycopyName).before args s = true) (hini : (Cond.initialized "java/lang/System").before args s = true)
    {a0 a n0 n1 : Nat} {cA : ClassId} {f g : Nat → Value} {ty : FieldType} (ha0 : H[a0]? = some (arrV cA n0 f)) (ha1 : H[a]? = some (arrV cA n1 g)) (hA : ArrOfT s cA ty) (hprim : refKind ty = false) {sp dp k : Nat} (h4 : sp + k ≤ n0 ∧ n0 < 2147483648) (h5 : dp + k ≤ n1 ∧ n1 < 2147483648) (hfit : ∀ i, i < k → fits ty (f (sp + i)) = true ∧ ∃ z : Int32, f (sp + i) = .int z ∨ ∃ z : Int64, f (sp + i) = .long z)
    (hframes : 1 ≤ R.frames) (hlocals : (rest.map fun v => v.category).sum + 18 ≤ R.locals) (hdg : decode cc pc = .ok (.invokestatic ix, 3))
    (kk : ∀ (H1 : Heap) (locs1 : List Loc), H1[a]? = some (arrV cA n1 (va_cpy f g sp dp k)) → H1.size = H.size → (∀ q : Nat, q ≠ a → H1[q]? = H[q]?) → (∀ q ∈ locs1, q ∈ locs ∨ q.base = a) → W p l e R s m args below meth c H1 locs1 cells slots Q (F0 m (pc + 3) ls rest)) : W p l e R s m args below meth c H locs cells slots Q (F0 m pc ls (.int (Int32.ofInt k) :: .int (Int32.ofInt dp) :: .ref a :: .int (Int32.ofInt sp) :: .ref a0 :: rest)) := by
  have nn : ∀ z : Nat, z < 2147483648 → (Int32.ofInt (z : Int)).toInt = (z : Int) := fun z hz => xn_t (by omega) (by omega)
  have nc : ∀ z : Nat, z < 2147483648 → (Int32.ofInt (z : Int)).toNatClampNeg = z := fun z hz => by show (Int32.ofInt (z : Int)).toInt.toNat = z; rw [nn z hz]; omega
  have ng : ∀ z : Nat, z < 2147483648 → ¬ Int32.ofInt (z : Int) < 0 := fun z hz => by rw [show (0 : Int32) = Int32.ofInt 0 from rfl, xn_lt ⟨by omega, by omega, by omega, by omega⟩]; omega
  intro T hT X
  obtain ⟨-, k0, hk0, cm0, hkk0⟩ := hA n0 f
  obtain ⟨-, k1, hk1, cm1, hkk1⟩ := hA n1 g
  obtain ⟨vm', X', step⟩ := X.arraycopy hexec hown hlink hnat hstat hini (src := a0) (dst := a) (cs := arrV cA n0 f) (cd := arrV cA n1 g) (srcPos := Int32.ofInt sp) (destPos := Int32.ofInt dp) (n := Int32.ofInt k) (by rw [hT]; exact ha0) (by rw [hT]; exact ha1)
    (fun _ h => by cases h) (fun _ h => by cases h) (fun h => by cases h) (fun h => by cases h) hk0 hk1 hkk0 hkk1 (by simp [hprim]) (ng sp (by omega)) (ng dp (by omega)) (ng k (by omega))
    (by rw [nn sp (by omega), nn k (by omega), arrV_size]; omega)
    (by rw [nn dp (by omega), nn k (by omega), arrV_size]; omega)
    (fun vm₁ _ i hi => by
      rw [nc k (by omega)] at hi
      have e : (arrV cA n0 f).slots.getD ((Int32.ofInt (sp : Int)).toNatClampNeg + i) .null = f (sp + i) := by
        rw [nc sp (by omega), Array.getD_eq_getD_getElem?, arrV_read _ _ (by omega)]
        rfl
      rw [e]
      obtain ⟨f1, z, f2 | ⟨z2, f2⟩⟩ := hfit i hi
      · exact ⟨f1, by rw [f2]; exact trivial⟩
      · exact ⟨f1, by rw [f2]; exact trivial⟩)
    (g := F0 m pc ls (.int (Int32.ofInt k) :: .int (Int32.ofInt dp) :: .ref a :: .int (Int32.ofInt sp) :: .ref a0 :: rest)) rfl (by rw [hml]) (rest := rest) rfl (by rw [hb]; exact hdg) hframes (by show 2 * 0 + _ + _ ≤ _; rw [show nativeFrameWords "java/lang/System" "arraycopy" 5 = 7 by decide]; omega)
  have e1 : copied (arrV cA n0 f) (arrV cA n1 g) (Int32.ofInt sp) (Int32.ofInt dp) (Int32.ofInt k) = arrV cA n1 (va_cpy f g sp dp k) := by
    have := va_copied (fun z => z) cA cA (n0 := n0) (n1 := n1) (sp := sp) (dp := dp) (n := k) f g h4.1
    unfold copied
    rw [nc sp (by omega), nc dp (by omega), nc k (by omega)]
    exact this
  rw [e1] at X' step
  have hl : a < H.size := (Array.getElem?_eq_some_iff.mp ha1).1
  have hheap : ((T.setVm vm').setCell a (arrV cA n1 (va_cpy f g sp dp k))).heap = H.setIfInBounds a (arrV cA n1 (va_cpy f g sp dp k)) := by rw [← hT]; rfl
  obtain ⟨t, a1, b1⟩ := kk _ _ (by simp [Array.getElem?_setIfInBounds, hl]) (by simp) (fun q hq => by simp [Array.getElem?_setIfInBounds, Ne.symm hq]) (fun q hq => by
      rcases List.mem_append.mp hq with h | h
      · exact Or.inl h
      · obtain ⟨z, -, hz⟩ := List.mem_map.mp h
        rw [← hz]
        exact Or.inr rfl) _ hheap X'
  exact ⟨t, step t a1, b1⟩
theorem vx_copyI (hC : xk_C G K cc own nL) {k0 k1 len0 len1 ix d1 mc1 ms1 : Nat} {sp dp q : Int} (ht0 : k0 < n ∧ tau k0 = (14, len0)) (ht1 : k1 < n ∧ tau k1 = (14, len1)) (hne : k0 ≠ k1) (hz : 0 ≤ sp ∧ 0 ≤ dp ∧ 0 ≤ q ∧ sp + q ≤ len0 ∧ dp + q ≤ len1 ∧ len0 < 2147483648 ∧ len1 < 2147483648) (hws : ∀ w ∈ ([.methodLink own ix arraycopyName, .native arraycopyName, .static arraycopyName, .initialized "java/lang/System"] : List Cond), w ∈ xw_tbl) (hRm : xk_Rm K d1 mc1 ms1) (h1 : 1 ≤ d1) (hw8 : (st.map xa_c).sum ≤ 8) (hd : xd_D cc pc (.invokestatic ix) 3 pc1) (kk : xv G K nL Q cells slots n tau (fun a => if a = k1 then xcp (vi k0) (vi k1) sp dp q else vi a) vl vr pc1 lv st) : xv G K nL Q cells slots n tau vi vl vr pc lv (xa_i q :: xa_i dp :: xa_r k1 :: xa_i sp :: xa_r k0 :: st) := by
  obtain ⟨p, l, e, R, s, m, args, below, meth, c⟩ := K
  obtain ⟨hx, hb, hml, hown, hts, hE, hB, hB0⟩ := hC
  obtain ⟨hd, rfl⟩ := hd
  intro H locs ls hR hS hl
  obtain ⟨r1, r2, r3, r4⟩ := hRm
  simp only [xk_R] at r1 r2 r3 r4
  have hw9 : ((st.map (xa_tr G)).map fun v => v.category).sum ≤ 8 := by
    rw [List.map_map, show ((fun v : Value => v.category) ∘ xa_tr G) = xa_c from funext fun v => xa_tr_c G v]
    exact hw8
  have es : sp = (sp.toNat : Int) := by omega
  have ed : dp = (dp.toNat : Int) := by omega
  have eq : q = (q.toNat : Int) := by omega
  have hP0 := hR.2.2.1 k0 _ (xe_get ht0.1)
  rw [xe_int ht0.2 (by decide)] at hP0
  have hP1 := hR.2.2.1 k1 _ (xe_get ht1.1)
  rw [xe_int ht1.2 (by decide)] at hP1
  show W p l e R s m args below meth c H locs cells slots Q (F0 m pc ls (.int (Int32.ofInt q) :: .int (Int32.ofInt dp) :: .ref (xg_ad G k1) :: .int (Int32.ofInt sp) :: .ref (xg_ad G k0) :: st.map (xa_tr G)))
  rw [hR.ad ht0.1, hR.ad ht1.1, es, ed, eq]
  refine vx_copyW hx hb (by rw [hl.1]; exact hml) hown (hts _ (hws _ (by simp))) (hts _ (hws _ (by simp))) (hts _ (hws _ (by simp))) (hts _ (hws _ (by simp))) (f := fun j => .int (Int32.ofInt (vi k0 j))) (g := fun j => .int (Int32.ofInt (vi k1 j))) (ty := .int) (n0 := len0) (n1 := len1) hP0 hP1 (hE.1.2 1 _ rfl).1 rfl ⟨by omega, by omega⟩ ⟨by omega, by omega⟩ (fun i hi => ⟨rfl, _, Or.inl rfl⟩) (by show 1 ≤ R.frames; omega) (by show _ ≤ R.locals; omega) hd fun H1 locs1 e1 z1 oq hlc => ?_
  refine kk H1 locs1 ls (hR.put z1 oq ?_ (fun a ha => xe_same (fun b => if_neg ha ▸ rfl) (fun b => rfl) (fun b => rfl))) ⟨by rw [z1]; exact hS.1, fun x x1 x2 => by rw [oq x (fun h => x2 (by rw [h]; show xg_b G ≤ xg_b G + k1; omega))]; exact hS.2.1 x x1 x2, fun x hx9 => by rcases hlc x hx9 with h | h; exact hS.2.2 x h; rw [h]; show xg_b G ≤ xg_b G + k1; omega⟩ hl
  rw [xe_int ht1.2 (by decide)]
  show H1[_]? = some (vp_cell _ _)
  dsimp only
  rw [e1, vp_cell_i]
  congr 2
  funext j
  simp only [if_pos, va_cpy, xcp]
  by_cases h : dp.toNat ≤ j ∧ j < dp.toNat + q.toNat
  · rw [if_pos h, if_pos (by omega)]
    have e9 : ((sp.toNat + (j - dp.toNat) : Nat) : Int) = sp + ((j : Int) - dp) := by omega
    rw [e9]
  · rw [if_neg h, if_neg (by omega)]
theorem vx_copyJ (hC : xk_C G K cc own nL) {k0 k1 len0 len1 ix d1 mc1 ms1 : Nat} {sp dp q : Int} (ht0 : k0 < n ∧ tau k0 = (15, len0)) (ht1 : k1 < n ∧ tau k1 = (15, len1)) (hne : k0 ≠ k1) (hz : 0 ≤ sp ∧ 0 ≤ dp ∧ 0 ≤ q ∧ sp + q ≤ len0 ∧ dp + q ≤ len1 ∧ len0 < 2147483648 ∧ len1 < 2147483648) (hws : ∀ w ∈ ([.methodLink own ix arraycopyName, .native arraycopyName, .static arraycopyName, .initialized "java/lang/System"] : List Cond), w ∈ xw_tbl) (hRm : xk_Rm K d1 mc1 ms1) (h1 : 1 ≤ d1) (hw8 : (st.map xa_c).sum ≤ 8) (hd : xd_D cc pc (.invokestatic ix) 3 pc1) (kk : xv G K nL Q cells slots n tau vi (fun a => if a = k1 then xcp (vl k0) (vl k1) sp dp q else vl a) vr pc1 lv st) : xv G K nL Q cells slots n tau vi vl vr pc lv (xa_i q :: xa_i dp :: xa_r k1 :: xa_i sp :: xa_r k0 :: st) := by
  obtain ⟨p, l, e, R, s, m, args, below, meth, c⟩ := K
  obtain ⟨hx, hb, hml, hown, hts, hE, hB, hB0⟩ := hC
  obtain ⟨hd, rfl⟩ := hd
  intro H locs ls hR hS hl
  obtain ⟨r1, r2, r3, r4⟩ := hRm
  simp only [xk_R] at r1 r2 r3 r4
  have hw9 : ((st.map (xa_tr G)).map fun v => v.category).sum ≤ 8 := by
    rw [List.map_map, show ((fun v : Value => v.category) ∘ xa_tr G) = xa_c from funext fun v => xa_tr_c G v]
    exact hw8
  have es : sp = (sp.toNat : Int) := by omega
  have ed : dp = (dp.toNat : Int) := by omega
  have eq : q = (q.toNat : Int) := by omega
  have hP0 := hR.2.2.1 k0 _ (xe_get ht0.1)
  rw [xe_long ht0.2] at hP0
  have hP1 := hR.2.2.1 k1 _ (xe_get ht1.1)
  rw [xe_long ht1.2] at hP1
  show W p l e R s m args below meth c H locs cells slots Q (F0 m pc ls (.int (Int32.ofInt q) :: .int (Int32.ofInt dp) :: .ref (xg_ad G k1) :: .int (Int32.ofInt sp) :: .ref (xg_ad G k0) :: st.map (xa_tr G)))
  rw [hR.ad ht0.1, hR.ad ht1.1, es, ed, eq]
  refine vx_copyW hx hb (by rw [hl.1]; exact hml) hown (hts _ (hws _ (by simp))) (hts _ (hws _ (by simp))) (hts _ (hws _ (by simp))) (hts _ (hws _ (by simp))) (f := fun j => .long (Int64.ofInt (vl k0 j))) (g := fun j => .long (Int64.ofInt (vl k1 j))) (ty := .long) (n0 := len0) (n1 := len1) hP0 hP1 (hE.1.2 2 _ rfl).1 rfl ⟨by omega, by omega⟩ ⟨by omega, by omega⟩ (fun i hi => ⟨rfl, 0, Or.inr ⟨_, rfl⟩⟩) (by show 1 ≤ R.frames; omega) (by show _ ≤ R.locals; omega) hd fun H1 locs1 e1 z1 oq hlc => ?_
  refine kk H1 locs1 ls (hR.put z1 oq ?_ (fun a ha => xe_same (fun b => rfl) (fun b => if_neg ha ▸ rfl) (fun b => rfl))) ⟨by rw [z1]; exact hS.1, fun x x1 x2 => by rw [oq x (fun h => x2 (by rw [h]; show xg_b G ≤ xg_b G + k1; omega))]; exact hS.2.1 x x1 x2, fun x hx9 => by rcases hlc x hx9 with h | h; exact hS.2.2 x h; rw [h]; show xg_b G ≤ xg_b G + k1; omega⟩ hl
  rw [xe_long ht1.2]
  show H1[_]? = some (vp_cell _ _)
  dsimp only
  rw [e1, vp_cell_l]
  congr 2
  funext j
  simp only [if_pos, va_cpy, xcp]
  by_cases h : dp.toNat ≤ j ∧ j < dp.toNat + q.toNat
  · rw [if_pos h, if_pos (by omega)]
    have e9 : ((sp.toNat + (j - dp.toNat) : Nat) : Int) = sp + ((j : Int) - dp) := by omega
    rw [e9]
  · rw [if_neg h, if_neg (by omega)]
theorem vx_copyB (hC : xk_C G K cc own nL) {k0 k1 len0 len1 ix d1 mc1 ms1 : Nat} {sp dp q : Int} (ht0 : k0 < n ∧ tau k0 = (13, len0)) (ht1 : k1 < n ∧ tau k1 = (13, len1)) (hne : k0 ≠ k1) (hz : 0 ≤ sp ∧ 0 ≤ dp ∧ 0 ≤ q ∧ sp + q ≤ len0 ∧ dp + q ≤ len1 ∧ len0 < 2147483648 ∧ len1 < 2147483648) (hby : ∀ z : Int, 0 ≤ z → z < len0 → -128 ≤ vi k0 z ∧ vi k0 z < 128) (hws : ∀ w ∈ ([.methodLink own ix arraycopyName, .native arraycopyName, .static arraycopyName, .initialized "java/lang/System"] : List Cond), w ∈ xw_tbl) (hRm : xk_Rm K d1 mc1 ms1) (h1 : 1 ≤ d1) (hw8 : (st.map xa_c).sum ≤ 8) (hd : xd_D cc pc (.invokestatic ix) 3 pc1) (kk : xv G K nL Q cells slots n tau (fun a => if a = k1 then xcp (vi k0) (vi k1) sp dp q else vi a) vl vr pc1 lv st) : xv G K nL Q cells slots n tau vi vl vr pc lv (xa_i q :: xa_i dp :: xa_r k1 :: xa_i sp :: xa_r k0 :: st) := by
  obtain ⟨p, l, e, R, s, m, args, below, meth, c⟩ := K
  obtain ⟨hx, hb, hml, hown, hts, hE, hB, hB0⟩ := hC
  obtain ⟨hd, rfl⟩ := hd
  intro H locs ls hR hS hl
  obtain ⟨r1, r2, r3, r4⟩ := hRm
  simp only [xk_R] at r1 r2 r3 r4
  have hw9 : ((st.map (xa_tr G)).map fun v => v.category).sum ≤ 8 := by
    rw [List.map_map, show ((fun v : Value => v.category) ∘ xa_tr G) = xa_c from funext fun v => xa_tr_c G v]
    exact hw8
  have es : sp = (sp.toNat : Int) := by omega
  have ed : dp = (dp.toNat : Int) := by omega
  have eq : q = (q.toNat : Int) := by omega
  have hP0 := hR.2.2.1 k0 _ (xe_get ht0.1)
  rw [xe_int ht0.2 (by decide)] at hP0
  have hP1 := hR.2.2.1 k1 _ (xe_get ht1.1)
  rw [xe_int ht1.2 (by decide)] at hP1
  show W p l e R s m args below meth c H locs cells slots Q (F0 m pc ls (.int (Int32.ofInt q) :: .int (Int32.ofInt dp) :: .ref (xg_ad G k1) :: .int (Int32.ofInt sp) :: .ref (xg_ad G k0) :: st.map (xa_tr G)))
  rw [hR.ad ht0.1, hR.ad ht1.1, es, ed, eq]
  refine vx_copyW hx hb (by rw [hl.1]; exact hml) hown (hts _ (hws _ (by simp))) (hts _ (hws _ (by simp))) (hts _ (hws _ (by simp))) (hts _ (hws _ (by simp))) (f := fun j => .int (Int32.ofInt (vi k0 j))) (g := fun j => .int (Int32.ofInt (vi k1 j))) (ty := .byte) (n0 := len0) (n1 := len1) hP0 hP1 (hE.1.2 0 _ rfl).1 rfl ⟨by omega, by omega⟩ ⟨by omega, by omega⟩ (fun i hi => ⟨by obtain ⟨b1, b2⟩ := hby ((sp.toNat + i : Nat) : Int) (by omega) (by omega); simp only [fits]; rw [Bool.and_eq_true, decide_eq_true_eq, decide_eq_true_eq, show (-128 : Int32) = Int32.ofInt (-128) from rfl, show (127 : Int32) = Int32.ofInt 127 from rfl, xn_le ⟨by omega, by omega, by omega, by omega⟩, xn_le ⟨by omega, by omega, by omega, by omega⟩]; omega, _, Or.inl rfl⟩) (by show 1 ≤ R.frames; omega) (by show _ ≤ R.locals; omega) hd fun H1 locs1 e1 z1 oq hlc => ?_
  refine kk H1 locs1 ls (hR.put z1 oq ?_ (fun a ha => xe_same (fun b => if_neg ha ▸ rfl) (fun b => rfl) (fun b => rfl))) ⟨by rw [z1]; exact hS.1, fun x x1 x2 => by rw [oq x (fun h => x2 (by rw [h]; show xg_b G ≤ xg_b G + k1; omega))]; exact hS.2.1 x x1 x2, fun x hx9 => by rcases hlc x hx9 with h | h; exact hS.2.2 x h; rw [h]; show xg_b G ≤ xg_b G + k1; omega⟩ hl
  rw [xe_int ht1.2 (by decide)]
  show H1[_]? = some (vp_cell _ _)
  dsimp only
  rw [e1, vp_cell_i]
  congr 2
  funext j
  simp only [if_pos, va_cpy, xcp]
  by_cases h : dp.toNat ≤ j ∧ j < dp.toNat + q.toNat
  · rw [if_pos h, if_pos (by omega)]
    have e9 : ((sp.toNat + (j - dp.toNat) : Nat) : Int) = sp + ((j : Int) - dp) := by omega
    rw [e9]
  · rw [if_neg h, if_neg (by omega)]
end XV
