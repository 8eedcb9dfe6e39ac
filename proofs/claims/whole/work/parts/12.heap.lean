def xf_F (own : String) (ix ci j kind : Nat) : Prop := ∃ (C : String) (T : u_T) (N : Nat) (ref : String), vwCl[ci]? = some (C, T, N) ∧ j < N ∧ xf_k (xf_ty ci j) = kind ∧ Cond.fieldLink own ix ref (T j).2.1 (T j).2.2.1 ∈ xw_tbl ∧ (ref = (T j).1 ∨ Cond.sameField ref (T j).1 (T j).2.1 (T j).2.2.1 ∈ xw_tbl)
theorem xc_w {ws : List Cond} (h1 : ∀ w ∈ ws, w ∈ lw_tbl) (h2 : ∀ w ∈ ws, goodWord w = true) : ∀ w ∈ ws, w ∈ xw_tbl := fun w h => List.mem_filter.mpr ⟨h1 w h, h2 w h⟩
theorem xc_i0 : ∀ w ∈ u_ws RX0 TX0 4, w ∈ xw_tbl := xc_w (by decide +kernel) (by decide +kernel)
theorem xc_i1 : ∀ w ∈ u_ws RX1 TX1 4, w ∈ xw_tbl := xc_w (by decide +kernel) (by decide +kernel)
theorem xc_i2 : ∀ w ∈ u_ws RX2 TX2 12, w ∈ xw_tbl := xc_w (by decide +kernel) (by decide +kernel)
theorem xc_i3 : ∀ w ∈ u_ws RX3 TX3 4, w ∈ xw_tbl := xc_w (by decide +kernel) (by decide +kernel)
theorem xc_i4 : ∀ w ∈ u_ws RX4 TX4 4, w ∈ xw_tbl := xc_w (by decide +kernel) (by decide +kernel)
theorem xc_i5 : ∀ w ∈ u_ws RX5 TX5 9, w ∈ xw_tbl := xc_w (by decide +kernel) (by decide +kernel)
theorem xc_i6 : ∀ w ∈ u_ws RX6 TX6 12, w ∈ xw_tbl := xc_w (by decide +kernel) (by decide +kernel)
theorem xc_i7 : ∀ w ∈ u_ws RX7 TX7 4, w ∈ xw_tbl := xc_w (by decide +kernel) (by decide +kernel)
theorem xc_i8 : ∀ w ∈ u_ws RX8 TX8 4, w ∈ xw_tbl := xc_w (by decide +kernel) (by decide +kernel)
theorem xc_i9 : ∀ w ∈ u_ws RX9 TX9 4, w ∈ xw_tbl := xc_w (by decide +kernel) (by decide +kernel)
theorem xc_i10 : ∀ w ∈ u_ws RX10 TX10 4, w ∈ xw_tbl := xc_w (by decide +kernel) (by decide +kernel)
theorem xc_i11 : ∀ w ∈ u_ws RX11 TX11 6, w ∈ xw_tbl := xc_w (by decide +kernel) (by decide +kernel)
theorem xc_i12 : ∀ w ∈ u_ws RX12 TX12 26, w ∈ xw_tbl := xc_w (by decide +kernel) (by decide +kernel)
theorem xc_all {ci : Nat} {C : String} {T : u_T} {N : Nat} (h : vwCl[ci]? = some (C, T, N)) : ci < 13 ∧ xf_n ci = N ∧ (∀ w ∈ u_ws C T N, w ∈ xw_tbl) ∧ (∀ k, k < N → parseFieldDescriptor (T k).2.2.1 = some (xf_ty ci k)) ∧ (∀ a, a < N → ∀ b, b < N → a ≠ b → (T a).2.1 ≠ (T b).2.1) := by
  match ci, h with
  | 0, h => cases h; exact ⟨by decide, rfl, xc_i0, tyX0_ok, nmX0⟩
  | 1, h => cases h; exact ⟨by decide, rfl, xc_i1, tyX1_ok, nmX1⟩
  | 2, h => cases h; exact ⟨by decide, rfl, xc_i2, tyX2_ok, nmX2⟩
  | 3, h => cases h; exact ⟨by decide, rfl, xc_i3, tyX3_ok, nmX3⟩
  | 4, h => cases h; exact ⟨by decide, rfl, xc_i4, tyX4_ok, nmX4⟩
  | 5, h => cases h; exact ⟨by decide, rfl, xc_i5, tyX5_ok, nmX5⟩
  | 6, h => cases h; exact ⟨by decide, rfl, xc_i6, tyX6_ok, nmX6⟩
  | 7, h => cases h; exact ⟨by decide, rfl, xc_i7, tyX7_ok, nmX7⟩
  | 8, h => cases h; exact ⟨by decide, rfl, xc_i8, tyX8_ok, nmX8⟩
  | 9, h => cases h; exact ⟨by decide, rfl, xc_i9, tyX9_ok, nmX9⟩
  | 10, h => cases h; exact ⟨by decide, rfl, xc_i10, tyX10_ok, nmX10⟩
  | 11, h => cases h; exact ⟨by decide, rfl, xc_i11, tyX11_ok, nmX11⟩
  | 12, h => cases h; exact ⟨by decide, rfl, xc_i12, tyX12_ok, nmX12⟩
  | k + 13, h => simp [vwCl] at h
theorem xh_R.ad {G : xg_T} {n : Nat} {tau : Nat → Nat × Nat} {vi vl : Nat → Int → Int} {vr : Nat → Int → Option Nat} {H : Heap} (h : xh_R G n tau vi vl vr H) {k : Nat} (hk : k < n) : xg_ad G k = xg_b G + k := by
  unfold xg_ad
  rw [if_pos (by have := h.1; omega)]
theorem xe_obj {G : xg_T} {tau : Nat → Nat × Nat} {vi vl : Nat → Int → Int} {vr : Nat → Int → Option Nat} {k ci len N : Nat} (ht : tau k = (ci, len)) (hc : ci < 13) (hN : xf_n ci = N) : xe_E G tau vi vl vr k = .inr (ci, (List.range N).map fun j => xf_v G (xf_k (xf_ty ci j)) (vi k j) (vl k j) (vr k j)) := by
  subst hN
  simp [xe_E, ht, hc]
theorem xe_int {G : xg_T} {tau : Nat → Nat × Nat} {vi vl : Nat → Int → Int} {vr : Nat → Int → Option Nat} {k ty len : Nat} (ht : tau k = (ty, len)) (hc : ty = 13 ∨ ty = 14 ∨ ty = 16) : xe_E G tau vi vl vr k = .inl (G.2.1 ty, len, .inl fun j => Int32.ofInt (vi k j)) := by
  rcases hc with rfl | rfl | rfl <;> simp [xe_E, ht]
theorem xe_long {G : xg_T} {tau : Nat → Nat × Nat} {vi vl : Nat → Int → Int} {vr : Nat → Int → Option Nat} {k len : Nat} (ht : tau k = (15, len)) : xe_E G tau vi vl vr k = .inl (G.2.1 15, len, .inr (.inl fun j => Int64.ofInt (vl k j))) := by
  simp [xe_E, ht]
theorem xe_ref {G : xg_T} {tau : Nat → Nat × Nat} {vi vl : Nat → Int → Int} {vr : Nat → Int → Option Nat} {k ty len : Nat} (ht : tau k = (ty, len)) (hc : ty = 17 ∨ ty = 18) : xe_E G tau vi vl vr k = .inl (G.2.1 ty, len, .inr (.inr (.inr (.inr fun j => (vr k j).map (xg_ad G))))) := by
  rcases hc with rfl | rfl <;> simp [xe_E, ht]
/-- one cell changed -/
theorem xh_R.put {G : xg_T} {n : Nat} {tau : Nat → Nat × Nat} {vi vl vi' vl' : Nat → Int → Int} {vr vr' : Nat → Int → Option Nat} {H H1 : Heap} {k : Nat} (h : xh_R G n tau vi vl vr H) (z : H1.size = H.size) (oq : ∀ q : Nat, q ≠ xg_b G + k → H1[q]? = H[q]?) (hat : va_at G.1 vwCl (xg_b G + k, xe_E G tau vi' vl' vr' k) H1) (ho : ∀ j, j ≠ k → xe_E G tau vi' vl' vr' j = xe_E G tau vi vl vr j) : xh_R G n tau vi' vl' vr' H1 := by
  obtain ⟨h1, h2, h3, h4⟩ := h
  refine ⟨h1, by rw [z]; exact h2, fun j q hj => ?_, fun q hq => by rw [oq q (by omega)]; exact h4 q hq⟩
  obtain ⟨hn, rfl⟩ := xe_get' hj
  by_cases e : j = k
  · subst e; exact hat
  · rw [ho j e]
    exact (h3 j _ (xe_get hn)).kept (oq _ (by show xg_b G + j ≠ _; omega))
theorem xh_S.put {G : xg_T} {H0 H H1 : Heap} {locs : List Loc} {k i : Nat} (h : va_S (xg_A G) H0 H locs) (z : H1.size = H.size) (oq : ∀ q : Nat, q ≠ xg_b G + k → H1[q]? = H[q]?) : va_S (xg_A G) H0 H1 (locs ++ [⟨xg_b G + k, i⟩]) := h.put z oq (show xg_b G ≤ xg_b G + k by omega)
theorem xe_same {G : xg_T} {tau : Nat → Nat × Nat} {vi vl vi' vl' : Nat → Int → Int} {vr vr' : Nat → Int → Option Nat} {j : Nat} (h1 : ∀ b, vi' j b = vi j b) (h2 : ∀ b, vl' j b = vl j b) (h3 : ∀ b, vr' j b = vr j b) : xe_E G tau vi' vl' vr' j = xe_E G tau vi vl vr j := by
  unfold xe_E
  simp only [h1, h2, h3]

section XV
variable {G : xg_T} {K : xk_T} {cc : ByteArray} {own : String} {nL : Nat} {Q : State → Prop} {cells slots n : Nat} {tau : Nat → Nat × Nat} {vi vl : Nat → Int → Int} {vr : Nat → Int → Option Nat} {pc pc1 : Nat} {lv : List (Nat × xa_T)} {st : List xa_T}
theorem vx_getfi (hC : xk_C G K cc own nL) {k ci len j ix : Nat} (ht : k < n ∧ tau k = (ci, len)) (hF : xf_F own ix ci j 0) (hd : xd_D cc pc (.getfield ix) 3 pc1) (kk : xv G K nL Q cells slots n tau vi vl vr pc1 lv (xa_i (vi k j) :: st)) : xv G K nL Q cells slots n tau vi vl vr pc lv (xa_r k :: st) := by
  obtain ⟨p, l, e, R, s, m, args, below, meth, c⟩ := K
  obtain ⟨hx, hb, hml, hown, hts, hE, hB, hB0⟩ := hC
  obtain ⟨hd, rfl⟩ := hd
  intro H locs ls hR hS hl
  obtain ⟨C, T, N, ref, hc, hj, hk, hw, hs⟩ := hF
  obtain ⟨c1, c2, c3, -, -⟩ := xc_all hc
  show W p l e R s m args below meth c H locs cells slots Q (F0 m pc ls (.ref (xg_ad G k) :: st.map (xa_tr G)))
  rw [hR.ad ht.1]
  refine va_get (D := G.1) (cl := vwCl) (ws := xe_W G n tau vi vl vr) (ci := ci) (C := C) (T := T) (N := N) hx hb hts c3 hown hE.1 hR.2.2.1 k (by rw [xe_get ht.1, xe_obj ht.2 c1 c2]) hc j hj (hts _ hw) (fun x h9 => by rcases hs with hs | hs; (rw [hs]; exact h9); exact u_same (hts _ hs) x h9) (v := xf_v G 0 (vi k j) (vl k j) (vr k j)) (by simp [hj, hk]) hd (kk H locs ls hR hS hl)
theorem vx_getfl (hC : xk_C G K cc own nL) {k ci len j ix : Nat} (ht : k < n ∧ tau k = (ci, len)) (hF : xf_F own ix ci j 1) (hd : xd_D cc pc (.getfield ix) 3 pc1) (kk : xv G K nL Q cells slots n tau vi vl vr pc1 lv (xa_l (vl k j) :: st)) : xv G K nL Q cells slots n tau vi vl vr pc lv (xa_r k :: st) := by
  obtain ⟨p, l, e, R, s, m, args, below, meth, c⟩ := K
  obtain ⟨hx, hb, hml, hown, hts, hE, hB, hB0⟩ := hC
  obtain ⟨hd, rfl⟩ := hd
  intro H locs ls hR hS hl
  obtain ⟨C, T, N, ref, hc, hj, hk, hw, hs⟩ := hF
  obtain ⟨c1, c2, c3, -, -⟩ := xc_all hc
  show W p l e R s m args below meth c H locs cells slots Q (F0 m pc ls (.ref (xg_ad G k) :: st.map (xa_tr G)))
  rw [hR.ad ht.1]
  refine va_get (D := G.1) (cl := vwCl) (ws := xe_W G n tau vi vl vr) (ci := ci) (C := C) (T := T) (N := N) hx hb hts c3 hown hE.1 hR.2.2.1 k (by rw [xe_get ht.1, xe_obj ht.2 c1 c2]) hc j hj (hts _ hw) (fun x h9 => by rcases hs with hs | hs; (rw [hs]; exact h9); exact u_same (hts _ hs) x h9) (v := xf_v G 1 (vi k j) (vl k j) (vr k j)) (by simp [hj, hk]) hd (kk H locs ls hR hS hl)
theorem vx_getfr (hC : xk_C G K cc own nL) {k ci len j ix : Nat} {r : Option Nat} (ht : k < n ∧ tau k = (ci, len)) (hF : xf_F own ix ci j 2) (hr : vr k j = r) (hd : xd_D cc pc (.getfield ix) 3 pc1) (kk : xv G K nL Q cells slots n tau vi vl vr pc1 lv (xa_q r :: st)) : xv G K nL Q cells slots n tau vi vl vr pc lv (xa_r k :: st) := by
  obtain ⟨p, l, e, R, s, m, args, below, meth, c⟩ := K
  obtain ⟨hx, hb, hml, hown, hts, hE, hB, hB0⟩ := hC
  obtain ⟨hd, rfl⟩ := hd
  intro H locs ls hR hS hl
  subst hr
  obtain ⟨C, T, N, ref, hc, hj, hk, hw, hs⟩ := hF
  obtain ⟨c1, c2, c3, -, -⟩ := xc_all hc
  show W p l e R s m args below meth c H locs cells slots Q (F0 m pc ls (.ref (xg_ad G k) :: st.map (xa_tr G)))
  rw [hR.ad ht.1]
  refine va_get (D := G.1) (cl := vwCl) (ws := xe_W G n tau vi vl vr) (ci := ci) (C := C) (T := T) (N := N) hx hb hts c3 hown hE.1 hR.2.2.1 k (by rw [xe_get ht.1, xe_obj ht.2 c1 c2]) hc j hj (hts _ hw) (fun x h9 => by rcases hs with hs | hs; (rw [hs]; exact h9); exact u_same (hts _ hs) x h9) (v := xf_v G 2 (vi k j) (vl k j) (vr k j)) (by simp [hj, hk]) hd (kk H locs ls hR hS hl)
/-- a field is written: the core -/
theorem xp_core (hC : xk_C G K cc own nL) {vi' vl' : Nat → Int → Int} {vr' : Nat → Int → Option Nat} {k ci len j kind ix : Nat} {fin : Bool} (hfin : fin = false ∨ K.2.2.2.2.2.2.2.2.1.name = "<init>") (ht : k < n ∧ tau k = (ci, len)) (hF : xf_F own ix ci j kind) (hfi : ∀ C T N, vwCl[ci]? = some (C, T, N) → (T j).2.2.2 = fin ∧ (fin = true → (T j).1 = own)) {v : xa_T} (hn : narrow (xf_ty ci j) (xa_tr G v) = xa_tr G v ∧ fits (xf_ty ci j) (xa_tr G v) = true)
    (hj' : xf_v G kind (vi' k j) (vl' k j) (vr' k j) = xa_tr G v) (ho : ∀ i : Nat, i ≠ j → vi' k i = vi k i ∧ vl' k i = vl k i ∧ vr' k i = vr k i) (ho2 : ∀ a : Nat, a ≠ k → ∀ b, vi' a b = vi a b ∧ vl' a b = vl a b ∧ vr' a b = vr a b)
    (hd : xd_D cc pc (.putfield ix) 3 pc1) (kk : xv G K nL Q cells slots n tau vi' vl' vr' pc1 lv st) : xv G K nL Q cells slots n tau vi vl vr pc lv (v :: xa_r k :: st) := by
  obtain ⟨p, l, e, R, s, m, args, below, meth, c⟩ := K
  obtain ⟨hx, hb, hml, hown, hts, hE, hB, hB0⟩ := hC
  obtain ⟨hd, rfl⟩ := hd
  intro H locs ls hR hS hl
  obtain ⟨C, T, N, ref, hc, hj, hk, hw, hs⟩ := hF
  obtain ⟨c1, c2, c3, c4, c5⟩ := xc_all hc
  obtain ⟨f1, f2⟩ := hfi C T N hc
  show W p l e R s m args below meth c H locs cells slots Q (F0 m pc ls (xa_tr G v :: .ref (xg_ad G k) :: st.map (xa_tr G)))
  rw [hR.ad ht.1]
  have hap := va_apart (own := own) hts c3 (xf_ty ci) c4 c5 hE.1 hc
  obtain ⟨r, h1, cell, q1, q2, q3, q4⟩ : va_at G.1 vwCl (xg_b G + k, .inr (ci, (List.range N).map fun j => xf_v G (xf_k (xf_ty ci j)) (vi k j) (vl k j) (vr k j))) H := by rw [← xe_obj (len := len) ht.2 c1 c2]; exact hR.2.2.1 k _ (xe_get ht.1)
  have hr : r = (C, T, N) := Option.some.inj (h1.symm.trans hc)
  subst hr
  obtain ⟨hSl, hfc, kC, hkC, hkind⟩ := hE.1.1 ci _ hc
  obtain ⟨cf, kf, fi, f, hi, hsl⟩ := hSl j hj
  have hst := (u_facts hfc hkC (u_lays hts c3 hj) hi).1
  have hsame : ∀ x, s.fieldFound? (T j).1 (T j).2.1 (T j).2.2.1 = some x → s.fieldFound? ref (T j).2.1 (T j).2.2.1 = some x := fun x h9 => by rcases hs with hs | hs; (rw [hs]; exact h9); exact u_same (hts _ hs) x h9
  have hlay := hts _ (c3 _ (u_in_lay hj))
  unfold u_lay at hlay
  have fin2 : ∀ H1 : Heap, H1[xg_b G + k]? = some (cell.setSlot f.slot (xa_tr G v)) → H1.size = H.size → (∀ q : Nat, q ≠ xg_b G + k → H1[q]? = H[q]?) → W p l e R s m args below meth c H1 (locs ++ [⟨xg_b G + k, f.slot⟩]) cells slots Q (F0 m (pc + 3) ls (st.map (xa_tr G))) := by
    intro H1 e1 z oq
    refine kk H1 _ ls (hR.put z oq ?_ (fun a ha => xe_same (fun b => (ho2 a ha b).1) (fun b => (ho2 a ha b).2.1) (fun b => (ho2 a ha b).2.2))) (xh_S.put hS z oq) hl
    rw [xe_obj (len := len) ht.2 c1 c2]
    rw [hsl] at e1
    refine ⟨_, hc, t_OB.to (V := updV (vp_V ((List.range N).map fun j => xf_v G (xf_k (xf_ty ci j)) (vi k j) (vl k j) (vr k j))) j (xa_tr G v)) ⟨_, e1, q2, q3, t_set q4 hap hj (xa_tr G v)⟩ (fun i hi => ?_)⟩
    by_cases e : i = j
    · subst e
      simp [updV, vp_V, hj, hk, hj']
    · obtain ⟨o1, o2, o3⟩ := ho i e
      have hi : i < N := hi
      simp [updV, vp_V, e, hi, o1, o2, o3]
  cases fin with
  | false =>
    rw [if_neg (by rw [f1]; decide)] at hlay
    have h6 := u_store hfc hkC hkind hlay hi (c4 j hj) hn.1 hn.2
    exact W.putK hx hb (f := f) ⟨hown, hts _ hw, ⟨_, _, _, hsame _ hi⟩, hst⟩ (by rw [q2]; exact h6) q1 q3 (by rw [hsl]; exact k2_hasslot (q4 j hj)) rfl rfl hd fin2
  | true =>
    rw [if_pos f1] at hlay
    have hcf : m.cls = cf := by
      obtain ⟨_, _, c', _, _, _, -, -, hf', -, -, -, hown2, -⟩ := Cond.laysFinal_spec hlay
      have e1 : c' = cf := by have := hi.symm.trans hf'; simp at this; exact this.1.symm
      rw [f2 rfl] at hown2
      rw [← e1]; exact Option.some.inj (hown.symm.trans hown2)
    have h6 := u_fits hfc hkC hkind (Or.inr hlay) hi (c4 j hj) hn.1 hn.2
    have hin : meth.name = "<init>" := by rcases hfin with h | h; cases h; exact h
    exact W.putFinK hx hb hown (hts _ hw) (hsame _ hi) hst hcf hin (by rw [q2]; exact h6) q1 q3 (by rw [hsl]; exact k2_hasslot (q4 j hj)) rfl rfl hd fin2
def xf_P (own : String) (ix ci j kind : Nat) (fin : Bool) : Prop := xf_F own ix ci j kind ∧ ∀ C T N, vwCl[ci]? = some (C, T, N) → (T j).2.2.2 = fin ∧ (fin = true → (T j).1 = own)
theorem xf_P.of {own : String} {ix ci j kind : Nat} {fin : Bool} {C : String} {T : u_T} {N : Nat} (h : xf_F own ix ci j kind) (hc : vwCl[ci]? = some (C, T, N)) (hf : (T j).2.2.2 = fin ∧ (fin = true → (T j).1 = own)) : xf_P own ix ci j kind fin := ⟨h, fun C' T' N' h' => by
  have e := Option.some.inj (h'.symm.trans hc)
  cases e
  exact hf⟩
theorem vx_putfi (hC : xk_C G K cc own nL) {k ci len j ix : Nat} {x : Int} {fin : Bool} (ht : k < n ∧ tau k = (ci, len)) (hF : xf_P own ix ci j 0 fin) (hfin : fin = false ∨ K.2.2.2.2.2.2.2.2.1.name = "<init>") (hty : xf_ty ci j = .int ∨ (xf_ty ci j = .boolean ∧ (x = 0 ∨ x = 1))) (hd : xd_D cc pc (.putfield ix) 3 pc1) (kk : xv G K nL Q cells slots n tau (xu vi k j x) vl vr pc1 lv st) : xv G K nL Q cells slots n tau vi vl vr pc lv (xa_i x :: xa_r k :: st) :=
  xp_core hC hfin ht hF.1 hF.2 (v := xa_i x) (by rcases hty with h | ⟨h, hx⟩; (rw [h]; exact ⟨rfl, rfl⟩); (rw [h]; exact xn_b1 hx)) (by show Value.int _ = Value.int _; rw [xu_s]) (fun i hi => ⟨xu_n _ _ _ _ (by omega), rfl, rfl⟩) (fun a ha b => ⟨xu_n _ _ _ _ (fun z => ha z.1), rfl, rfl⟩) hd kk
theorem vx_putfl (hC : xk_C G K cc own nL) {k ci len j ix : Nat} {x : Int} {fin : Bool} (ht : k < n ∧ tau k = (ci, len)) (hF : xf_P own ix ci j 1 fin) (hfin : fin = false ∨ K.2.2.2.2.2.2.2.2.1.name = "<init>") (hty : xf_ty ci j = .long) (hd : xd_D cc pc (.putfield ix) 3 pc1) (kk : xv G K nL Q cells slots n tau vi (xu vl k j x) vr pc1 lv st) : xv G K nL Q cells slots n tau vi vl vr pc lv (xa_l x :: xa_r k :: st) :=
  xp_core hC hfin ht hF.1 hF.2 (v := xa_l x) (by rw [hty]; exact ⟨rfl, rfl⟩) (by show Value.long _ = Value.long _; rw [xu_s]) (fun i hi => ⟨rfl, xu_n _ _ _ _ (by omega), rfl⟩) (fun a ha b => ⟨rfl, xu_n _ _ _ _ (fun z => ha z.1), rfl⟩) hd kk
theorem vx_putfr (hC : xk_C G K cc own nL) {k ci len j ix : Nat} {r : Option Nat} {fin : Bool} (ht : k < n ∧ tau k = (ci, len)) (hF : xf_P own ix ci j 2 fin) (hfin : fin = false ∨ K.2.2.2.2.2.2.2.2.1.name = "<init>") (hd : xd_D cc pc (.putfield ix) 3 pc1) (kk : xv G K nL Q cells slots n tau vi vl (xu vr k j r) pc1 lv st) : xv G K nL Q cells slots n tau vi vl vr pc lv (xa_q r :: xa_r k :: st) :=
  xp_core hC hfin ht hF.1 hF.2 (v := xa_q r) (by
    obtain ⟨C, T, N, ref, hc, hj, hk, -⟩ := hF.1
    cases hty : xf_ty ci j with
    | object D => cases r <;> exact ⟨rfl, rfl⟩
    | array D => cases r <;> exact ⟨rfl, rfl⟩
    | _ => rw [hty] at hk; simp [xf_k] at hk) (by show va_rf _ = va_rf _; rw [xu_s]) (fun i hi => ⟨rfl, rfl, xu_n _ _ _ _ (by omega)⟩) (fun a ha b => ⟨rfl, rfl, xu_n _ _ _ _ (fun z => ha z.1)⟩) hd kk
theorem vx_iaload (hC : xk_C G K cc own nL) {k len : Nat} {z : Int} (ht : k < n ∧ tau k = (14, len)) (hz : 0 ≤ z ∧ z < len) (hln : len < 2147483648) (hd : xd_D cc pc .iaload 1 pc1) (kk : xv G K nL Q cells slots n tau vi vl vr pc1 lv (xa_i (vi k z) :: st)) : xv G K nL Q cells slots n tau vi vl vr pc lv (xa_i z :: xa_r k :: st) := by
  obtain ⟨p, l, e, R, s, m, args, below, meth, c⟩ := K
  obtain ⟨hx, hb, hml, hown, hts, hE, hB, hB0⟩ := hC
  obtain ⟨hd, rfl⟩ := hd
  intro H locs ls hR hS hl
  obtain ⟨i1, i2⟩ := xn_in hz.1 hz.2 hln
  have ez : ((z.toNat : Nat) : Int) = z := by omega
  have k2 := kk H locs ls hR hS hl
  show W p l e R s m args below meth c H locs cells slots Q (F0 m pc ls (.int (Int32.ofInt z) :: .ref (xg_ad G k) :: st.map (xa_tr G)))
  rw [hR.ad ht.1]
  refine va_iald hx hb hE.1 hR.2.2.1 k 1 (by rw [xe_get ht.1, xe_int ht.2 (by decide)]) rfl i1 hd ?_
  simp only [i2, ez]
  exact k2
theorem vx_baload (hC : xk_C G K cc own nL) {k len : Nat} {z : Int} (ht : k < n ∧ tau k = (13, len)) (hz : 0 ≤ z ∧ z < len) (hln : len < 2147483648) (hd : xd_D cc pc .baload 1 pc1) (kk : xv G K nL Q cells slots n tau vi vl vr pc1 lv (xa_i (vi k z) :: st)) : xv G K nL Q cells slots n tau vi vl vr pc lv (xa_i z :: xa_r k :: st) := by
  obtain ⟨p, l, e, R, s, m, args, below, meth, c⟩ := K
  obtain ⟨hx, hb, hml, hown, hts, hE, hB, hB0⟩ := hC
  obtain ⟨hd, rfl⟩ := hd
  intro H locs ls hR hS hl
  obtain ⟨i1, i2⟩ := xn_in hz.1 hz.2 hln
  have ez : ((z.toNat : Nat) : Int) = z := by omega
  have k2 := kk H locs ls hR hS hl
  show W p l e R s m args below meth c H locs cells slots Q (F0 m pc ls (.int (Int32.ofInt z) :: .ref (xg_ad G k) :: st.map (xa_tr G)))
  rw [hR.ad ht.1]
  refine va_bald hx hb hE.1 hR.2.2.1 k 0 (by rw [xe_get ht.1, xe_int ht.2 (by decide)]) rfl i1 hd ?_
  simp only [i2, ez]
  exact k2
theorem vx_zaload (hC : xk_C G K cc own nL) {k len : Nat} {z : Int} (ht : k < n ∧ tau k = (16, len)) (hz : 0 ≤ z ∧ z < len) (hln : len < 2147483648) (hd : xd_D cc pc .baload 1 pc1) (kk : xv G K nL Q cells slots n tau vi vl vr pc1 lv (xa_i (vi k z) :: st)) : xv G K nL Q cells slots n tau vi vl vr pc lv (xa_i z :: xa_r k :: st) := by
  obtain ⟨p, l, e, R, s, m, args, below, meth, c⟩ := K
  obtain ⟨hx, hb, hml, hown, hts, hE, hB, hB0⟩ := hC
  obtain ⟨hd, rfl⟩ := hd
  intro H locs ls hR hS hl
  obtain ⟨i1, i2⟩ := xn_in hz.1 hz.2 hln
  have ez : ((z.toNat : Nat) : Int) = z := by omega
  have k2 := kk H locs ls hR hS hl
  show W p l e R s m args below meth c H locs cells slots Q (F0 m pc ls (.int (Int32.ofInt z) :: .ref (xg_ad G k) :: st.map (xa_tr G)))
  rw [hR.ad ht.1]
  refine va_zald hx hb hE.1 hR.2.2.1 k 3 (by rw [xe_get ht.1, xe_int ht.2 (by decide)]) rfl i1 hd ?_
  simp only [i2, ez]
  exact k2
theorem vx_laload (hC : xk_C G K cc own nL) {k len : Nat} {z : Int} (ht : k < n ∧ tau k = (15, len)) (hz : 0 ≤ z ∧ z < len) (hln : len < 2147483648) (hd : xd_D cc pc .laload 1 pc1) (kk : xv G K nL Q cells slots n tau vi vl vr pc1 lv (xa_l (vl k z) :: st)) : xv G K nL Q cells slots n tau vi vl vr pc lv (xa_i z :: xa_r k :: st) := by
  obtain ⟨p, l, e, R, s, m, args, below, meth, c⟩ := K
  obtain ⟨hx, hb, hml, hown, hts, hE, hB, hB0⟩ := hC
  obtain ⟨hd, rfl⟩ := hd
  intro H locs ls hR hS hl
  obtain ⟨i1, i2⟩ := xn_in hz.1 hz.2 hln
  have ez : ((z.toNat : Nat) : Int) = z := by omega
  have k2 := kk H locs ls hR hS hl
  show W p l e R s m args below meth c H locs cells slots Q (F0 m pc ls (.int (Int32.ofInt z) :: .ref (xg_ad G k) :: st.map (xa_tr G)))
  rw [hR.ad ht.1]
  refine va_lald hx hb hE.1 hR.2.2.1 k 2 (by rw [xe_get ht.1, xe_long ht.2]) rfl i1 hd ?_
  simp only [i2, ez]
  exact k2
theorem vx_aaload17 (hC : xk_C G K cc own nL) {k len : Nat} {z : Int} {r : Option Nat} (ht : k < n ∧ tau k = (17, len)) (hz : 0 ≤ z ∧ z < len) (hln : len < 2147483648) (hr : vr k z = r) (hd : xd_D cc pc .aaload 1 pc1) (kk : xv G K nL Q cells slots n tau vi vl vr pc1 lv (xa_q r :: st)) : xv G K nL Q cells slots n tau vi vl vr pc lv (xa_i z :: xa_r k :: st) := by
  obtain ⟨p, l, e, R, s, m, args, below, meth, c⟩ := K
  obtain ⟨hx, hb, hml, hown, hts, hE, hB, hB0⟩ := hC
  obtain ⟨hd, rfl⟩ := hd
  intro H locs ls hR hS hl
  subst hr
  obtain ⟨i1, i2⟩ := xn_in hz.1 hz.2 hln
  have ez : ((z.toNat : Nat) : Int) = z := by omega
  have k2 := kk H locs ls hR hS hl
  show W p l e R s m args below meth c H locs cells slots Q (F0 m pc ls (.int (Int32.ofInt z) :: .ref (xg_ad G k) :: st.map (xa_tr G)))
  rw [hR.ad ht.1]
  refine va_aldq hx hb hE.1 hR.2.2.1 k 4 (by rw [xe_get ht.1, xe_ref ht.2 (by decide)]) rfl i1 hd ?_
  simp only [i2, ez]
  exact k2
theorem vx_aaload18 (hC : xk_C G K cc own nL) {k len : Nat} {z : Int} {r : Option Nat} (ht : k < n ∧ tau k = (18, len)) (hz : 0 ≤ z ∧ z < len) (hln : len < 2147483648) (hr : vr k z = r) (hd : xd_D cc pc .aaload 1 pc1) (kk : xv G K nL Q cells slots n tau vi vl vr pc1 lv (xa_q r :: st)) : xv G K nL Q cells slots n tau vi vl vr pc lv (xa_i z :: xa_r k :: st) := by
  obtain ⟨p, l, e, R, s, m, args, below, meth, c⟩ := K
  obtain ⟨hx, hb, hml, hown, hts, hE, hB, hB0⟩ := hC
  obtain ⟨hd, rfl⟩ := hd
  intro H locs ls hR hS hl
  subst hr
  obtain ⟨i1, i2⟩ := xn_in hz.1 hz.2 hln
  have ez : ((z.toNat : Nat) : Int) = z := by omega
  have k2 := kk H locs ls hR hS hl
  show W p l e R s m args below meth c H locs cells slots Q (F0 m pc ls (.int (Int32.ofInt z) :: .ref (xg_ad G k) :: st.map (xa_tr G)))
  rw [hR.ad ht.1]
  refine va_aldq hx hb hE.1 hR.2.2.1 k 5 (by rw [xe_get ht.1, xe_ref ht.2 (by decide)]) rfl i1 hd ?_
  simp only [i2, ez]
  exact k2
theorem vx_alen (hC : xk_C G K cc own nL) {k ty len : Nat} (ht : k < n ∧ tau k = (ty, len)) (hty : 13 ≤ ty ∧ ty ≤ 18) (hln : len < 2147483648) (hd : xd_D cc pc .arraylength 1 pc1) (kk : xv G K nL Q cells slots n tau vi vl vr pc1 lv (xa_i len :: st)) : xv G K nL Q cells slots n tau vi vl vr pc lv (xa_r k :: st) := by
  obtain ⟨p, l, e, R, s, m, args, below, meth, c⟩ := K
  obtain ⟨hx, hb, hml, hown, hts, hE, hB, hB0⟩ := hC
  obtain ⟨hd, rfl⟩ := hd
  intro H locs ls hR hS hl
  show W p l e R s m args below meth c H locs cells slots Q (F0 m pc ls (.ref (xg_ad G k) :: st.map (xa_tr G)))
  rw [hR.ad ht.1]
  have hP := hR.2.2.1 k _ (xe_get ht.1)
  have hK := hE.1.2
  have fin : ∀ (f : Nat → Value) (fty : FieldType), ArrOfT s (G.2.1 ty) fty → H[xg_b G + k]? = some (arrV (G.2.1 ty) len f) → W p l e R s m args below meth c H locs cells slots Q (F0 m pc ls (.ref (xg_b G + k) :: st.map (xa_tr G))) := by
    intro f fty h1 h2
    refine W.alen (n := Int32.ofInt (len : Int)) hx hb h2 (h1 len f) ?_ rfl rfl hd (kk H locs ls hR hS hl)
    rw [arrV_size]
    rfl
  have c : ty = 13 ∨ ty = 14 ∨ ty = 15 ∨ ty = 16 ∨ ty = 17 ∨ ty = 18 := by omega
  rcases c with rfl | rfl | rfl | rfl | rfl | rfl
  · rw [xe_int ht.2 (by decide)] at hP; exact fin (fun j => .int (Int32.ofInt (vi k j))) .byte (hK 0 _ rfl).1 hP
  · rw [xe_int ht.2 (by decide)] at hP; exact fin (fun j => .int (Int32.ofInt (vi k j))) .int (hK 1 _ rfl).1 hP
  · rw [xe_long ht.2] at hP; exact fin (fun j => .long (Int64.ofInt (vl k j))) .long (hK 2 _ rfl).1 hP
  · rw [xe_int ht.2 (by decide)] at hP; exact fin (fun j => .int (Int32.ofInt (vi k j))) .boolean (hK 3 _ rfl).1 hP
  · rw [xe_ref ht.2 (by decide)] at hP; exact fin (fun j => va_rf ((vr k j).map (xg_ad G))) _ (hK 4 _ rfl).1 hP
  · rw [xe_ref ht.2 (by decide)] at hP; exact fin (fun j => va_rf ((vr k j).map (xg_ad G))) _ (hK 5 _ rfl).1 hP
theorem vx_iastore (hC : xk_C G K cc own nL) {k len : Nat} {z x : Int} (ht : k < n ∧ tau k = (14, len)) (hz : 0 ≤ z ∧ z < len) (hln : len < 2147483648) (hd : xd_D cc pc .iastore 1 pc1) (kk : xv G K nL Q cells slots n tau (xu vi k z x) vl vr pc1 lv st) : xv G K nL Q cells slots n tau vi vl vr pc lv (xa_i x :: xa_i z :: xa_r k :: st) := by
  obtain ⟨p, l, e, R, s, m, args, below, meth, c⟩ := K
  obtain ⟨hx, hb, hml, hown, hts, hE, hB, hB0⟩ := hC
  obtain ⟨hd, rfl⟩ := hd
  intro H locs ls hR hS hl
  obtain ⟨i1, i2⟩ := xn_in hz.1 hz.2 hln
  show W p l e R s m args below meth c H locs cells slots Q (F0 m pc ls (.int (Int32.ofInt x) :: .int (Int32.ofInt z) :: .ref (xg_ad G k) :: st.map (xa_tr G)))
  rw [hR.ad ht.1]
  have hP := hR.2.2.1 k _ (xe_get ht.1)
  rw [xe_int ht.2 (by decide)] at hP
  refine W.iast hx hb hP ((hE.1.2 1 _ rfl).1 len _) (fun q => by cases q) (by show ¬ (_ ∨ (arrV _ _ _).slots.size ≤ _); rw [arrV_size]; exact i1) rfl rfl hd fun H1 e1 z1 oq => ?_
  refine kk H1 _ ls (hR.put z1 oq ?_ (fun a ha => xe_same (fun b => xu_n _ _ _ _ (fun q => ha q.1)) (fun b => rfl) (fun b => rfl))) (xh_S.put hS z1 oq) hl
  rw [xe_int ht.2 (by decide)]
  show H1[_]? = some (vp_cell _ _)
  rw [e1, i2]
  dsimp only
  rw [vp_cell_i, vp_cell_i, arrV_store]
  congr 2
  funext j
  by_cases hj : j = z.toNat
  · subst hj
    have ez : ((z.toNat : Nat) : Int) = z := by omega
    simp [updV, ez, xu_s]
  · have ez : ¬ (j : Int) = z := by omega
    simp [updV, hj, xu, ez]
theorem vx_bastore (hC : xk_C G K cc own nL) {k len : Nat} {z x : Int} (ht : k < n ∧ tau k = (13, len)) (hz : 0 ≤ z ∧ z < len) (hln : len < 2147483648) (hb0 : -128 ≤ x ∧ x < 128) (hd : xd_D cc pc .bastore 1 pc1) (kk : xv G K nL Q cells slots n tau (xu vi k z x) vl vr pc1 lv st) : xv G K nL Q cells slots n tau vi vl vr pc lv (xa_i x :: xa_i z :: xa_r k :: st) := by
  obtain ⟨p, l, e, R, s, m, args, below, meth, c⟩ := K
  obtain ⟨hx, hb, hml, hown, hts, hE, hB, hB0⟩ := hC
  obtain ⟨hd, rfl⟩ := hd
  intro H locs ls hR hS hl
  obtain ⟨i1, i2⟩ := xn_in hz.1 hz.2 hln
  show W p l e R s m args below meth c H locs cells slots Q (F0 m pc ls (.int (Int32.ofInt x) :: .int (Int32.ofInt z) :: .ref (xg_ad G k) :: st.map (xa_tr G)))
  rw [hR.ad ht.1]
  have hP := hR.2.2.1 k _ (xe_get ht.1)
  rw [xe_int ht.2 (by decide)] at hP
  refine W.bast hx hb hP ((hE.1.2 0 _ rfl).1 len _) (fun q => by cases q) (by show ¬ (_ ∨ (arrV _ _ _).slots.size ≤ _); rw [arrV_size]; exact i1) rfl rfl hd fun H1 e1 z1 oq => ?_
  refine kk H1 _ ls (hR.put z1 oq ?_ (fun a ha => xe_same (fun b => xu_n _ _ _ _ (fun q => ha q.1)) (fun b => rfl) (fun b => rfl))) (xh_S.put hS z1 oq) hl
  rw [xe_int ht.2 (by decide)]
  show H1[_]? = some (vp_cell _ _)
  rw [e1, i2]
  dsimp only
  rw [vp_cell_i, vp_cell_i, arrV_store]
  congr 2
  funext j
  by_cases hj : j = z.toNat
  · subst hj
    have ez : ((z.toNat : Nat) : Int) = z := by omega
    simp [updV, ez, xu_s, xn_by hb0]
  · have ez : ¬ (j : Int) = z := by omega
    simp [updV, hj, xu, ez]
theorem vx_zastore (hC : xk_C G K cc own nL) {k len : Nat} {z x : Int} (ht : k < n ∧ tau k = (16, len)) (hz : 0 ≤ z ∧ z < len) (hln : len < 2147483648) (hb0 : x = 0 ∨ x = 1) (hd : xd_D cc pc .bastore 1 pc1) (kk : xv G K nL Q cells slots n tau (xu vi k z x) vl vr pc1 lv st) : xv G K nL Q cells slots n tau vi vl vr pc lv (xa_i x :: xa_i z :: xa_r k :: st) := by
  obtain ⟨p, l, e, R, s, m, args, below, meth, c⟩ := K
  obtain ⟨hx, hb, hml, hown, hts, hE, hB, hB0⟩ := hC
  obtain ⟨hd, rfl⟩ := hd
  intro H locs ls hR hS hl
  obtain ⟨i1, i2⟩ := xn_in hz.1 hz.2 hln
  show W p l e R s m args below meth c H locs cells slots Q (F0 m pc ls (.int (Int32.ofInt x) :: .int (Int32.ofInt z) :: .ref (xg_ad G k) :: st.map (xa_tr G)))
  rw [hR.ad ht.1]
  have hP := hR.2.2.1 k _ (xe_get ht.1)
  rw [xe_int ht.2 (by decide)] at hP
  refine W.zast hx hb hP ((hE.1.2 3 _ rfl).1 len _) (fun q => by cases q) (by show ¬ (_ ∨ (arrV _ _ _).slots.size ≤ _); rw [arrV_size]; exact i1) rfl rfl hd fun H1 e1 z1 oq => ?_
  refine kk H1 _ ls (hR.put z1 oq ?_ (fun a ha => xe_same (fun b => xu_n _ _ _ _ (fun q => ha q.1)) (fun b => rfl) (fun b => rfl))) (xh_S.put hS z1 oq) hl
  rw [xe_int ht.2 (by decide)]
  show H1[_]? = some (vp_cell _ _)
  rw [e1, i2]
  dsimp only
  rw [vp_cell_i, vp_cell_i, arrV_store]
  congr 2
  funext j
  by_cases hj : j = z.toNat
  · subst hj
    have ez : ((z.toNat : Nat) : Int) = z := by omega
    simp [updV, ez, xu_s, (xn_b1 hb0).1]
  · have ez : ¬ (j : Int) = z := by omega
    simp [updV, hj, xu, ez]
theorem vx_lastore (hC : xk_C G K cc own nL) {k len : Nat} {z x : Int} (ht : k < n ∧ tau k = (15, len)) (hz : 0 ≤ z ∧ z < len) (hln : len < 2147483648) (hd : xd_D cc pc .lastore 1 pc1) (kk : xv G K nL Q cells slots n tau vi (xu vl k z x) vr pc1 lv st) : xv G K nL Q cells slots n tau vi vl vr pc lv (xa_l x :: xa_i z :: xa_r k :: st) := by
  obtain ⟨p, l, e, R, s, m, args, below, meth, c⟩ := K
  obtain ⟨hx, hb, hml, hown, hts, hE, hB, hB0⟩ := hC
  obtain ⟨hd, rfl⟩ := hd
  intro H locs ls hR hS hl
  obtain ⟨i1, i2⟩ := xn_in hz.1 hz.2 hln
  show W p l e R s m args below meth c H locs cells slots Q (F0 m pc ls (.long (Int64.ofInt x) :: .int (Int32.ofInt z) :: .ref (xg_ad G k) :: st.map (xa_tr G)))
  rw [hR.ad ht.1]
  have hP := hR.2.2.1 k _ (xe_get ht.1)
  rw [xe_long ht.2] at hP
  refine W.last hx hb hP ((hE.1.2 2 _ rfl).1 len _) (fun q => by cases q) (by show ¬ (_ ∨ (arrV _ _ _).slots.size ≤ _); rw [arrV_size]; exact i1) rfl rfl hd fun H1 e1 z1 oq => ?_
  refine kk H1 _ ls (hR.put z1 oq ?_ (fun a ha => xe_same (fun b => rfl) (fun b => xu_n _ _ _ _ (fun q => ha q.1)) (fun b => rfl))) (xh_S.put hS z1 oq) hl
  rw [xe_long ht.2]
  show H1[_]? = some (vp_cell _ _)
  rw [e1, i2]
  dsimp only
  rw [vp_cell_l, vp_cell_l, arrV_store]
  congr 2
  funext j
  by_cases hj : j = z.toNat
  · subst hj
    have ez : ((z.toNat : Nat) : Int) = z := by omega
    simp [updV, ez, xu_s]
  · have ez : ¬ (j : Int) = z := by omega
    simp [updV, hj, xu, ez]
end XV
