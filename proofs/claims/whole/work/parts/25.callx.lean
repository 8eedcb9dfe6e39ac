/-- posts by the kind of the answer -/
abbrev xp_W : Type := Nat → (Nat → Nat × Nat) → (Nat → Int → Int) → (Nat → Int → Int) → (Nat → Int → Option Nat) → Prop
def xp_i (post : Int → xp_W) : xm_T := fun r n t a b c => ∃ x, r = some (xa_i x) ∧ post x n t a b c
def xp_l (post : Int → xp_W) : xm_T := fun r n t a b c => ∃ x, r = some (xa_l x) ∧ post x n t a b c
def xp_q (post : Option Nat → xp_W) : xm_T := fun r n t a b c => ∃ x, r = some (xa_q x) ∧ post x n t a b c
def xp_v (post : xp_W) : xm_T := fun r n t a b c => r = none ∧ post n t a b c
/-- nothing changed -/
def xs_0 (n : Nat) (tau : Nat → Nat × Nat) (vi vl : Nat → Int → Int) (vr : Nat → Int → Option Nat) : xp_W := fun n' t' a' b' c' => n = n' ∧ tau = t' ∧ vi = a' ∧ vl = b' ∧ vr = c'
theorem xs_0.rf (n : Nat) (tau : Nat → Nat × Nat) (vi vl : Nat → Int → Int) (vr : Nat → Int → Option Nat) : xs_0 n tau vi vl vr n tau vi vl vr := ⟨rfl, rfl, rfl, rfl, rfl⟩

/-- a row with one place changed -/
def fu (f : Int → Int) (z x : Int) : Int → Int := fun w => if w = z then x else f w
theorem fu_s (f : Int → Int) (z x : Int) : fu f z x z = x := by simp [fu]
theorem fu_n (f : Int → Int) (z x : Int) {w : Int} (h : ¬ w = z) : fu f z x w = f w := by simp [fu, h]
theorem xu_c {α : Type} (f : Nat → Int → α) (k : Nat) (z : Int) (x : α) {a : Nat} (h : ¬ a = k) : xu f k z x a = f a := by funext b; simp [xu, h]
theorem xu_k (f : Nat → Int → Int) (k : Nat) (z x : Int) : xu f k z x k = fu (f k) z x := by funext b; simp [xu, fu]
section XV
variable {G : xg_T} {K : xk_T} {cc : ByteArray} {own : String} {nL : Nat} {Q : State → Prop} {cells slots n : Nat} {tau : Nat → Nat × Nat} {vi vl : Nat → Int → Int} {vr : Nat → Int → Option Nat} {pc pc1 : Nat} {lv : List (Nat × xa_T)} {st : List xa_T}
theorem vx_callV_i (hC : xk_C G K cc own nL) {d d1 mc ms mc1 ms1 nL1 : Nat} {y : MethodName} {cc1 : ByteArray} {ret1 : Option FieldType} {a : List xa_T} {stk : List xa_T} {post : Int → xp_W} {k ci len ix np : Nat} {C : String} {T : u_T} {N : Nat} (hM : xm G y cc1 nL1 ret1 d mc ms (xa_r k :: a) n tau vi vl vr (xp_i post)) (hy : xy_V own ix y cc1 nL1 ret1 np) (ht : k < n ∧ tau k = (ci, len)) (hc : vwCl[ci]? = some (C, T, N)) (hyc : y.cls = C) (hnp : a.length = np) (hRm : xk_Rm K d1 mc1 ms1) (hcs : d + 1 ≤ d1 ∧ nL1 ≤ 21 ∧ cells + mc ≤ mc1 ∧ slots + ms ≤ ms1) (hw8 : (st.map xa_c).sum ≤ 8) (hstk : stk = a.reverse ++ (xa_r k :: st)) (hd : xd_D cc pc (.invokevirtual ix) 3 pc1) (kk : ∀ (x : Int) (n : Nat) (tau : Nat → Nat × Nat) (vi vl : Nat → Int → Int) (vr : Nat → Int → Option Nat), post x n tau vi vl vr → xv G K nL Q (cells + mc) (slots + ms) n tau vi vl vr pc1 lv (xa_i x :: st)) : xv G K nL Q cells slots n tau vi vl vr pc lv stk :=
  vx_callV hC hM hy ht hc hyc hnp hRm hcs hw8 hstk hd (fun r n tau vi vl vr hp => by
    obtain ⟨x, rfl, hp⟩ := hp
    exact kk x n tau vi vl vr hp)
theorem vx_callV_l (hC : xk_C G K cc own nL) {d d1 mc ms mc1 ms1 nL1 : Nat} {y : MethodName} {cc1 : ByteArray} {ret1 : Option FieldType} {a : List xa_T} {stk : List xa_T} {post : Int → xp_W} {k ci len ix np : Nat} {C : String} {T : u_T} {N : Nat} (hM : xm G y cc1 nL1 ret1 d mc ms (xa_r k :: a) n tau vi vl vr (xp_l post)) (hy : xy_V own ix y cc1 nL1 ret1 np) (ht : k < n ∧ tau k = (ci, len)) (hc : vwCl[ci]? = some (C, T, N)) (hyc : y.cls = C) (hnp : a.length = np) (hRm : xk_Rm K d1 mc1 ms1) (hcs : d + 1 ≤ d1 ∧ nL1 ≤ 21 ∧ cells + mc ≤ mc1 ∧ slots + ms ≤ ms1) (hw8 : (st.map xa_c).sum ≤ 8) (hstk : stk = a.reverse ++ (xa_r k :: st)) (hd : xd_D cc pc (.invokevirtual ix) 3 pc1) (kk : ∀ (x : Int) (n : Nat) (tau : Nat → Nat × Nat) (vi vl : Nat → Int → Int) (vr : Nat → Int → Option Nat), post x n tau vi vl vr → xv G K nL Q (cells + mc) (slots + ms) n tau vi vl vr pc1 lv (xa_l x :: st)) : xv G K nL Q cells slots n tau vi vl vr pc lv stk :=
  vx_callV hC hM hy ht hc hyc hnp hRm hcs hw8 hstk hd (fun r n tau vi vl vr hp => by
    obtain ⟨x, rfl, hp⟩ := hp
    exact kk x n tau vi vl vr hp)
theorem vx_callV_q (hC : xk_C G K cc own nL) {d d1 mc ms mc1 ms1 nL1 : Nat} {y : MethodName} {cc1 : ByteArray} {ret1 : Option FieldType} {a : List xa_T} {stk : List xa_T} {post : Option Nat → xp_W} {k ci len ix np : Nat} {C : String} {T : u_T} {N : Nat} (hM : xm G y cc1 nL1 ret1 d mc ms (xa_r k :: a) n tau vi vl vr (xp_q post)) (hy : xy_V own ix y cc1 nL1 ret1 np) (ht : k < n ∧ tau k = (ci, len)) (hc : vwCl[ci]? = some (C, T, N)) (hyc : y.cls = C) (hnp : a.length = np) (hRm : xk_Rm K d1 mc1 ms1) (hcs : d + 1 ≤ d1 ∧ nL1 ≤ 21 ∧ cells + mc ≤ mc1 ∧ slots + ms ≤ ms1) (hw8 : (st.map xa_c).sum ≤ 8) (hstk : stk = a.reverse ++ (xa_r k :: st)) (hd : xd_D cc pc (.invokevirtual ix) 3 pc1) (kk : ∀ (x : Option Nat) (n : Nat) (tau : Nat → Nat × Nat) (vi vl : Nat → Int → Int) (vr : Nat → Int → Option Nat), post x n tau vi vl vr → xv G K nL Q (cells + mc) (slots + ms) n tau vi vl vr pc1 lv (xa_q x :: st)) : xv G K nL Q cells slots n tau vi vl vr pc lv stk :=
  vx_callV hC hM hy ht hc hyc hnp hRm hcs hw8 hstk hd (fun r n tau vi vl vr hp => by
    obtain ⟨x, rfl, hp⟩ := hp
    exact kk x n tau vi vl vr hp)
theorem vx_callV_v (hC : xk_C G K cc own nL) {d d1 mc ms mc1 ms1 nL1 : Nat} {y : MethodName} {cc1 : ByteArray} {ret1 : Option FieldType} {a : List xa_T} {stk : List xa_T} {post : xp_W} {k ci len ix np : Nat} {C : String} {T : u_T} {N : Nat} (hM : xm G y cc1 nL1 ret1 d mc ms (xa_r k :: a) n tau vi vl vr (xp_v post)) (hy : xy_V own ix y cc1 nL1 ret1 np) (ht : k < n ∧ tau k = (ci, len)) (hc : vwCl[ci]? = some (C, T, N)) (hyc : y.cls = C) (hnp : a.length = np) (hRm : xk_Rm K d1 mc1 ms1) (hcs : d + 1 ≤ d1 ∧ nL1 ≤ 21 ∧ cells + mc ≤ mc1 ∧ slots + ms ≤ ms1) (hw8 : (st.map xa_c).sum ≤ 8) (hstk : stk = a.reverse ++ (xa_r k :: st)) (hd : xd_D cc pc (.invokevirtual ix) 3 pc1) (kk : ∀ (n : Nat) (tau : Nat → Nat × Nat) (vi vl : Nat → Int → Int) (vr : Nat → Int → Option Nat), post n tau vi vl vr → xv G K nL Q (cells + mc) (slots + ms) n tau vi vl vr pc1 lv (st)) : xv G K nL Q cells slots n tau vi vl vr pc lv stk :=
  vx_callV hC hM hy ht hc hyc hnp hRm hcs hw8 hstk hd (fun r n tau vi vl vr hp => by
    obtain ⟨rfl, hp⟩ := hp
    exact kk n tau vi vl vr hp)
theorem vx_callU_i (hC : xk_C G K cc own nL) {d d1 mc ms mc1 ms1 nL1 : Nat} {y : MethodName} {cc1 : ByteArray} {ret1 : Option FieldType} {a : List xa_T} {stk : List xa_T} {post : Int → xp_W} {k ci len ix np : Nat} {C owner : String} {x0 : MethodName} {T : u_T} {N : Nat} (hM : xm G y cc1 nL1 ret1 d mc ms (xa_r k :: a) n tau vi vl vr (xp_i post)) (hy : xy_U own ix C owner x0 y cc1 nL1 ret1 np) (ht : k < n ∧ tau k = (ci, len)) (hc : vwCl[ci]? = some (C, T, N)) (hnp : a.length = np) (hRm : xk_Rm K d1 mc1 ms1) (hcs : d + 1 ≤ d1 ∧ nL1 ≤ 21 ∧ cells + mc ≤ mc1 ∧ slots + ms ≤ ms1) (hw8 : (st.map xa_c).sum ≤ 8) (hstk : stk = a.reverse ++ (xa_r k :: st)) (hd : xd_D cc pc (.invokevirtual ix) 3 pc1) (kk : ∀ (x : Int) (n : Nat) (tau : Nat → Nat × Nat) (vi vl : Nat → Int → Int) (vr : Nat → Int → Option Nat), post x n tau vi vl vr → xv G K nL Q (cells + mc) (slots + ms) n tau vi vl vr pc1 lv (xa_i x :: st)) : xv G K nL Q cells slots n tau vi vl vr pc lv stk :=
  vx_callU hC hM hy ht hc hnp hRm hcs hw8 hstk hd (fun r n tau vi vl vr hp => by
    obtain ⟨x, rfl, hp⟩ := hp
    exact kk x n tau vi vl vr hp)
theorem vx_callU_l (hC : xk_C G K cc own nL) {d d1 mc ms mc1 ms1 nL1 : Nat} {y : MethodName} {cc1 : ByteArray} {ret1 : Option FieldType} {a : List xa_T} {stk : List xa_T} {post : Int → xp_W} {k ci len ix np : Nat} {C owner : String} {x0 : MethodName} {T : u_T} {N : Nat} (hM : xm G y cc1 nL1 ret1 d mc ms (xa_r k :: a) n tau vi vl vr (xp_l post)) (hy : xy_U own ix C owner x0 y cc1 nL1 ret1 np) (ht : k < n ∧ tau k = (ci, len)) (hc : vwCl[ci]? = some (C, T, N)) (hnp : a.length = np) (hRm : xk_Rm K d1 mc1 ms1) (hcs : d + 1 ≤ d1 ∧ nL1 ≤ 21 ∧ cells + mc ≤ mc1 ∧ slots + ms ≤ ms1) (hw8 : (st.map xa_c).sum ≤ 8) (hstk : stk = a.reverse ++ (xa_r k :: st)) (hd : xd_D cc pc (.invokevirtual ix) 3 pc1) (kk : ∀ (x : Int) (n : Nat) (tau : Nat → Nat × Nat) (vi vl : Nat → Int → Int) (vr : Nat → Int → Option Nat), post x n tau vi vl vr → xv G K nL Q (cells + mc) (slots + ms) n tau vi vl vr pc1 lv (xa_l x :: st)) : xv G K nL Q cells slots n tau vi vl vr pc lv stk :=
  vx_callU hC hM hy ht hc hnp hRm hcs hw8 hstk hd (fun r n tau vi vl vr hp => by
    obtain ⟨x, rfl, hp⟩ := hp
    exact kk x n tau vi vl vr hp)
theorem vx_callU_q (hC : xk_C G K cc own nL) {d d1 mc ms mc1 ms1 nL1 : Nat} {y : MethodName} {cc1 : ByteArray} {ret1 : Option FieldType} {a : List xa_T} {stk : List xa_T} {post : Option Nat → xp_W} {k ci len ix np : Nat} {C owner : String} {x0 : MethodName} {T : u_T} {N : Nat} (hM : xm G y cc1 nL1 ret1 d mc ms (xa_r k :: a) n tau vi vl vr (xp_q post)) (hy : xy_U own ix C owner x0 y cc1 nL1 ret1 np) (ht : k < n ∧ tau k = (ci, len)) (hc : vwCl[ci]? = some (C, T, N)) (hnp : a.length = np) (hRm : xk_Rm K d1 mc1 ms1) (hcs : d + 1 ≤ d1 ∧ nL1 ≤ 21 ∧ cells + mc ≤ mc1 ∧ slots + ms ≤ ms1) (hw8 : (st.map xa_c).sum ≤ 8) (hstk : stk = a.reverse ++ (xa_r k :: st)) (hd : xd_D cc pc (.invokevirtual ix) 3 pc1) (kk : ∀ (x : Option Nat) (n : Nat) (tau : Nat → Nat × Nat) (vi vl : Nat → Int → Int) (vr : Nat → Int → Option Nat), post x n tau vi vl vr → xv G K nL Q (cells + mc) (slots + ms) n tau vi vl vr pc1 lv (xa_q x :: st)) : xv G K nL Q cells slots n tau vi vl vr pc lv stk :=
  vx_callU hC hM hy ht hc hnp hRm hcs hw8 hstk hd (fun r n tau vi vl vr hp => by
    obtain ⟨x, rfl, hp⟩ := hp
    exact kk x n tau vi vl vr hp)
theorem vx_callU_v (hC : xk_C G K cc own nL) {d d1 mc ms mc1 ms1 nL1 : Nat} {y : MethodName} {cc1 : ByteArray} {ret1 : Option FieldType} {a : List xa_T} {stk : List xa_T} {post : xp_W} {k ci len ix np : Nat} {C owner : String} {x0 : MethodName} {T : u_T} {N : Nat} (hM : xm G y cc1 nL1 ret1 d mc ms (xa_r k :: a) n tau vi vl vr (xp_v post)) (hy : xy_U own ix C owner x0 y cc1 nL1 ret1 np) (ht : k < n ∧ tau k = (ci, len)) (hc : vwCl[ci]? = some (C, T, N)) (hnp : a.length = np) (hRm : xk_Rm K d1 mc1 ms1) (hcs : d + 1 ≤ d1 ∧ nL1 ≤ 21 ∧ cells + mc ≤ mc1 ∧ slots + ms ≤ ms1) (hw8 : (st.map xa_c).sum ≤ 8) (hstk : stk = a.reverse ++ (xa_r k :: st)) (hd : xd_D cc pc (.invokevirtual ix) 3 pc1) (kk : ∀ (n : Nat) (tau : Nat → Nat × Nat) (vi vl : Nat → Int → Int) (vr : Nat → Int → Option Nat), post n tau vi vl vr → xv G K nL Q (cells + mc) (slots + ms) n tau vi vl vr pc1 lv (st)) : xv G K nL Q cells slots n tau vi vl vr pc lv stk :=
  vx_callU hC hM hy ht hc hnp hRm hcs hw8 hstk hd (fun r n tau vi vl vr hp => by
    obtain ⟨rfl, hp⟩ := hp
    exact kk n tau vi vl vr hp)
theorem vx_callSU_i (hC : xk_C G K cc own nL) {d d1 mc ms mc1 ms1 nL1 : Nat} {y : MethodName} {cc1 : ByteArray} {ret1 : Option FieldType} {a : List xa_T} {stk : List xa_T} {post : Int → xp_W} {k ci len ix np : Nat} {C : String} {T : u_T} {N : Nat} (hM : xm G y cc1 nL1 ret1 d mc ms (xa_r k :: a) n tau vi vl vr (xp_i post)) (hy : xy_SU own ix y cc1 nL1 ret1 np) (ht : k < n ∧ tau k = (ci, len)) (hc : vwCl[ci]? = some (C, T, N)) (hnp : a.length = np) (hRm : xk_Rm K d1 mc1 ms1) (hcs : d + 1 ≤ d1 ∧ nL1 ≤ 21 ∧ cells + mc ≤ mc1 ∧ slots + ms ≤ ms1) (hw8 : (st.map xa_c).sum ≤ 8) (hstk : stk = a.reverse ++ (xa_r k :: st)) (hd : xd_D cc pc (.invokespecial ix) 3 pc1) (kk : ∀ (x : Int) (n : Nat) (tau : Nat → Nat × Nat) (vi vl : Nat → Int → Int) (vr : Nat → Int → Option Nat), post x n tau vi vl vr → xv G K nL Q (cells + mc) (slots + ms) n tau vi vl vr pc1 lv (xa_i x :: st)) : xv G K nL Q cells slots n tau vi vl vr pc lv stk :=
  vx_callSU hC hM hy ht hc hnp hRm hcs hw8 hstk hd (fun r n tau vi vl vr hp => by
    obtain ⟨x, rfl, hp⟩ := hp
    exact kk x n tau vi vl vr hp)
theorem vx_callSU_l (hC : xk_C G K cc own nL) {d d1 mc ms mc1 ms1 nL1 : Nat} {y : MethodName} {cc1 : ByteArray} {ret1 : Option FieldType} {a : List xa_T} {stk : List xa_T} {post : Int → xp_W} {k ci len ix np : Nat} {C : String} {T : u_T} {N : Nat} (hM : xm G y cc1 nL1 ret1 d mc ms (xa_r k :: a) n tau vi vl vr (xp_l post)) (hy : xy_SU own ix y cc1 nL1 ret1 np) (ht : k < n ∧ tau k = (ci, len)) (hc : vwCl[ci]? = some (C, T, N)) (hnp : a.length = np) (hRm : xk_Rm K d1 mc1 ms1) (hcs : d + 1 ≤ d1 ∧ nL1 ≤ 21 ∧ cells + mc ≤ mc1 ∧ slots + ms ≤ ms1) (hw8 : (st.map xa_c).sum ≤ 8) (hstk : stk = a.reverse ++ (xa_r k :: st)) (hd : xd_D cc pc (.invokespecial ix) 3 pc1) (kk : ∀ (x : Int) (n : Nat) (tau : Nat → Nat × Nat) (vi vl : Nat → Int → Int) (vr : Nat → Int → Option Nat), post x n tau vi vl vr → xv G K nL Q (cells + mc) (slots + ms) n tau vi vl vr pc1 lv (xa_l x :: st)) : xv G K nL Q cells slots n tau vi vl vr pc lv stk :=
  vx_callSU hC hM hy ht hc hnp hRm hcs hw8 hstk hd (fun r n tau vi vl vr hp => by
    obtain ⟨x, rfl, hp⟩ := hp
    exact kk x n tau vi vl vr hp)
theorem vx_callSU_q (hC : xk_C G K cc own nL) {d d1 mc ms mc1 ms1 nL1 : Nat} {y : MethodName} {cc1 : ByteArray} {ret1 : Option FieldType} {a : List xa_T} {stk : List xa_T} {post : Option Nat → xp_W} {k ci len ix np : Nat} {C : String} {T : u_T} {N : Nat} (hM : xm G y cc1 nL1 ret1 d mc ms (xa_r k :: a) n tau vi vl vr (xp_q post)) (hy : xy_SU own ix y cc1 nL1 ret1 np) (ht : k < n ∧ tau k = (ci, len)) (hc : vwCl[ci]? = some (C, T, N)) (hnp : a.length = np) (hRm : xk_Rm K d1 mc1 ms1) (hcs : d + 1 ≤ d1 ∧ nL1 ≤ 21 ∧ cells + mc ≤ mc1 ∧ slots + ms ≤ ms1) (hw8 : (st.map xa_c).sum ≤ 8) (hstk : stk = a.reverse ++ (xa_r k :: st)) (hd : xd_D cc pc (.invokespecial ix) 3 pc1) (kk : ∀ (x : Option Nat) (n : Nat) (tau : Nat → Nat × Nat) (vi vl : Nat → Int → Int) (vr : Nat → Int → Option Nat), post x n tau vi vl vr → xv G K nL Q (cells + mc) (slots + ms) n tau vi vl vr pc1 lv (xa_q x :: st)) : xv G K nL Q cells slots n tau vi vl vr pc lv stk :=
  vx_callSU hC hM hy ht hc hnp hRm hcs hw8 hstk hd (fun r n tau vi vl vr hp => by
    obtain ⟨x, rfl, hp⟩ := hp
    exact kk x n tau vi vl vr hp)
theorem vx_callSU_v (hC : xk_C G K cc own nL) {d d1 mc ms mc1 ms1 nL1 : Nat} {y : MethodName} {cc1 : ByteArray} {ret1 : Option FieldType} {a : List xa_T} {stk : List xa_T} {post : xp_W} {k ci len ix np : Nat} {C : String} {T : u_T} {N : Nat} (hM : xm G y cc1 nL1 ret1 d mc ms (xa_r k :: a) n tau vi vl vr (xp_v post)) (hy : xy_SU own ix y cc1 nL1 ret1 np) (ht : k < n ∧ tau k = (ci, len)) (hc : vwCl[ci]? = some (C, T, N)) (hnp : a.length = np) (hRm : xk_Rm K d1 mc1 ms1) (hcs : d + 1 ≤ d1 ∧ nL1 ≤ 21 ∧ cells + mc ≤ mc1 ∧ slots + ms ≤ ms1) (hw8 : (st.map xa_c).sum ≤ 8) (hstk : stk = a.reverse ++ (xa_r k :: st)) (hd : xd_D cc pc (.invokespecial ix) 3 pc1) (kk : ∀ (n : Nat) (tau : Nat → Nat × Nat) (vi vl : Nat → Int → Int) (vr : Nat → Int → Option Nat), post n tau vi vl vr → xv G K nL Q (cells + mc) (slots + ms) n tau vi vl vr pc1 lv (st)) : xv G K nL Q cells slots n tau vi vl vr pc lv stk :=
  vx_callSU hC hM hy ht hc hnp hRm hcs hw8 hstk hd (fun r n tau vi vl vr hp => by
    obtain ⟨rfl, hp⟩ := hp
    exact kk n tau vi vl vr hp)
theorem vx_callS_i (hC : xk_C G K cc own nL) {d d1 mc ms mc1 ms1 nL1 : Nat} {y : MethodName} {cc1 : ByteArray} {ret1 : Option FieldType} {a : List xa_T} {stk : List xa_T} {post : Int → xp_W} {ix np : Nat} (hM : xm G y cc1 nL1 ret1 d mc ms a n tau vi vl vr (xp_i post)) (hy : xy_S own ix y cc1 nL1 ret1 np) (hnp : a.length = np) (hRm : xk_Rm K d1 mc1 ms1) (hcs : d + 1 ≤ d1 ∧ nL1 ≤ 21 ∧ cells + mc ≤ mc1 ∧ slots + ms ≤ ms1) (hw8 : (st.map xa_c).sum ≤ 8) (hstk : stk = a.reverse ++ (st)) (hd : xd_D cc pc (.invokestatic ix) 3 pc1) (kk : ∀ (x : Int) (n : Nat) (tau : Nat → Nat × Nat) (vi vl : Nat → Int → Int) (vr : Nat → Int → Option Nat), post x n tau vi vl vr → xv G K nL Q (cells + mc) (slots + ms) n tau vi vl vr pc1 lv (xa_i x :: st)) : xv G K nL Q cells slots n tau vi vl vr pc lv stk :=
  vx_callS hC hM hy hnp hRm hcs hw8 hstk hd (fun r n tau vi vl vr hp => by
    obtain ⟨x, rfl, hp⟩ := hp
    exact kk x n tau vi vl vr hp)
theorem vx_callS_l (hC : xk_C G K cc own nL) {d d1 mc ms mc1 ms1 nL1 : Nat} {y : MethodName} {cc1 : ByteArray} {ret1 : Option FieldType} {a : List xa_T} {stk : List xa_T} {post : Int → xp_W} {ix np : Nat} (hM : xm G y cc1 nL1 ret1 d mc ms a n tau vi vl vr (xp_l post)) (hy : xy_S own ix y cc1 nL1 ret1 np) (hnp : a.length = np) (hRm : xk_Rm K d1 mc1 ms1) (hcs : d + 1 ≤ d1 ∧ nL1 ≤ 21 ∧ cells + mc ≤ mc1 ∧ slots + ms ≤ ms1) (hw8 : (st.map xa_c).sum ≤ 8) (hstk : stk = a.reverse ++ (st)) (hd : xd_D cc pc (.invokestatic ix) 3 pc1) (kk : ∀ (x : Int) (n : Nat) (tau : Nat → Nat × Nat) (vi vl : Nat → Int → Int) (vr : Nat → Int → Option Nat), post x n tau vi vl vr → xv G K nL Q (cells + mc) (slots + ms) n tau vi vl vr pc1 lv (xa_l x :: st)) : xv G K nL Q cells slots n tau vi vl vr pc lv stk :=
  vx_callS hC hM hy hnp hRm hcs hw8 hstk hd (fun r n tau vi vl vr hp => by
    obtain ⟨x, rfl, hp⟩ := hp
    exact kk x n tau vi vl vr hp)
theorem vx_callS_q (hC : xk_C G K cc own nL) {d d1 mc ms mc1 ms1 nL1 : Nat} {y : MethodName} {cc1 : ByteArray} {ret1 : Option FieldType} {a : List xa_T} {stk : List xa_T} {post : Option Nat → xp_W} {ix np : Nat} (hM : xm G y cc1 nL1 ret1 d mc ms a n tau vi vl vr (xp_q post)) (hy : xy_S own ix y cc1 nL1 ret1 np) (hnp : a.length = np) (hRm : xk_Rm K d1 mc1 ms1) (hcs : d + 1 ≤ d1 ∧ nL1 ≤ 21 ∧ cells + mc ≤ mc1 ∧ slots + ms ≤ ms1) (hw8 : (st.map xa_c).sum ≤ 8) (hstk : stk = a.reverse ++ (st)) (hd : xd_D cc pc (.invokestatic ix) 3 pc1) (kk : ∀ (x : Option Nat) (n : Nat) (tau : Nat → Nat × Nat) (vi vl : Nat → Int → Int) (vr : Nat → Int → Option Nat), post x n tau vi vl vr → xv G K nL Q (cells + mc) (slots + ms) n tau vi vl vr pc1 lv (xa_q x :: st)) : xv G K nL Q cells slots n tau vi vl vr pc lv stk :=
  vx_callS hC hM hy hnp hRm hcs hw8 hstk hd (fun r n tau vi vl vr hp => by
    obtain ⟨x, rfl, hp⟩ := hp
    exact kk x n tau vi vl vr hp)
theorem vx_callS_v (hC : xk_C G K cc own nL) {d d1 mc ms mc1 ms1 nL1 : Nat} {y : MethodName} {cc1 : ByteArray} {ret1 : Option FieldType} {a : List xa_T} {stk : List xa_T} {post : xp_W} {ix np : Nat} (hM : xm G y cc1 nL1 ret1 d mc ms a n tau vi vl vr (xp_v post)) (hy : xy_S own ix y cc1 nL1 ret1 np) (hnp : a.length = np) (hRm : xk_Rm K d1 mc1 ms1) (hcs : d + 1 ≤ d1 ∧ nL1 ≤ 21 ∧ cells + mc ≤ mc1 ∧ slots + ms ≤ ms1) (hw8 : (st.map xa_c).sum ≤ 8) (hstk : stk = a.reverse ++ (st)) (hd : xd_D cc pc (.invokestatic ix) 3 pc1) (kk : ∀ (n : Nat) (tau : Nat → Nat × Nat) (vi vl : Nat → Int → Int) (vr : Nat → Int → Option Nat), post n tau vi vl vr → xv G K nL Q (cells + mc) (slots + ms) n tau vi vl vr pc1 lv (st)) : xv G K nL Q cells slots n tau vi vl vr pc lv stk :=
  vx_callS hC hM hy hnp hRm hcs hw8 hstk hd (fun r n tau vi vl vr hp => by
    obtain ⟨rfl, hp⟩ := hp
    exact kk n tau vi vl vr hp)
theorem vx_callI_v (hC : xk_C G K cc own nL) {d d1 mc ms mc1 ms1 nL1 : Nat} {y : MethodName} {cc1 : ByteArray} {a : List xa_T} {stk : List xa_T} {post : xp_W} {k ix np : Nat} (hM : xm G y cc1 nL1 none d mc ms (xa_r k :: a) n tau vi vl vr (xp_v post)) (hy : xy_I own ix y cc1 nL1 np) (hnp : a.length = np) (hRm : xk_Rm K d1 mc1 ms1) (hcs : d + 1 ≤ d1 ∧ nL1 ≤ 21 ∧ cells + mc ≤ mc1 ∧ slots + ms ≤ ms1) (hw8 : (st.map xa_c).sum ≤ 8) (hstk : stk = a.reverse ++ (xa_r k :: st)) (hd : xd_D cc pc (.invokespecial ix) 3 pc1) (kk : ∀ (n : Nat) (tau : Nat → Nat × Nat) (vi vl : Nat → Int → Int) (vr : Nat → Int → Option Nat), post n tau vi vl vr → xv G K nL Q (cells + mc) (slots + ms) n tau vi vl vr pc1 lv (st)) : xv G K nL Q cells slots n tau vi vl vr pc lv stk :=
  vx_callI hC hM hy hnp hRm hcs hw8 hstk hd (fun r n tau vi vl vr hp => by
    obtain ⟨rfl, hp⟩ := hp
    exact kk n tau vi vl vr hp)
theorem vx_callIN_v (hC : xk_C G K cc own nL) {d d1 mc ms mc1 ms1 nL1 : Nat} {y : MethodName} {cc1 : ByteArray} {a : List xa_T} {stk : List xa_T} {post : xp_W} {k ix np : Nat} {host : String} (hM : xm G y cc1 nL1 none d mc ms (xa_r k :: a) n tau vi vl vr (xp_v post)) (hy : xy_IN own ix y host cc1 nL1 np) (hnp : a.length = np) (hRm : xk_Rm K d1 mc1 ms1) (hcs : d + 1 ≤ d1 ∧ nL1 ≤ 21 ∧ cells + mc ≤ mc1 ∧ slots + ms ≤ ms1) (hw8 : (st.map xa_c).sum ≤ 8) (hstk : stk = a.reverse ++ (xa_r k :: st)) (hd : xd_D cc pc (.invokespecial ix) 3 pc1) (kk : ∀ (n : Nat) (tau : Nat → Nat × Nat) (vi vl : Nat → Int → Int) (vr : Nat → Int → Option Nat), post n tau vi vl vr → xv G K nL Q (cells + mc) (slots + ms) n tau vi vl vr pc1 lv (st)) : xv G K nL Q cells slots n tau vi vl vr pc lv stk :=
  vx_callIN hC hM hy hnp hRm hcs hw8 hstk hd (fun r n tau vi vl vr hp => by
    obtain ⟨rfl, hp⟩ := hp
    exact kk n tau vi vl vr hp)
theorem vx_gi (hC : xk_C G K cc own nL) (jz : Int) {k ci len j ix : Nat} (ht : k < n ∧ tau k = (ci, len)) (hF : xf_F own ix ci j 0) (hj : (j : Int) = jz) (hd : xd_D cc pc (.getfield ix) 3 pc1) (kk : xv G K nL Q cells slots n tau vi vl vr pc1 lv (xa_i (vi k jz) :: st)) : xv G K nL Q cells slots n tau vi vl vr pc lv (xa_r k :: st) := by
  subst hj
  exact vx_getfi hC ht hF hd kk
theorem vx_gl (hC : xk_C G K cc own nL) (jz : Int) {k ci len j ix : Nat} (ht : k < n ∧ tau k = (ci, len)) (hF : xf_F own ix ci j 1) (hj : (j : Int) = jz) (hd : xd_D cc pc (.getfield ix) 3 pc1) (kk : xv G K nL Q cells slots n tau vi vl vr pc1 lv (xa_l (vl k jz) :: st)) : xv G K nL Q cells slots n tau vi vl vr pc lv (xa_r k :: st) := by
  subst hj
  exact vx_getfl hC ht hF hd kk
theorem vx_gr (hC : xk_C G K cc own nL) (jz : Int) {k ci len j ix : Nat} {r : Option Nat} (ht : k < n ∧ tau k = (ci, len)) (hF : xf_F own ix ci j 2) (hj : (j : Int) = jz) (hr : vr k jz = r) (hd : xd_D cc pc (.getfield ix) 3 pc1) (kk : xv G K nL Q cells slots n tau vi vl vr pc1 lv (xa_q r :: st)) : xv G K nL Q cells slots n tau vi vl vr pc lv (xa_r k :: st) := by
  subst hj
  exact vx_getfr hC ht hF hr hd kk
theorem vx_pi (hC : xk_C G K cc own nL) (jz : Int) {k ci len j ix : Nat} {x : Int} {fin : Bool} (ht : k < n ∧ tau k = (ci, len)) (hF : xf_P own ix ci j 0 fin) (hj : (j : Int) = jz) (hfin : fin = false ∨ K.2.2.2.2.2.2.2.2.1.name = "<init>") (hty : xf_ty ci j = .int ∨ (xf_ty ci j = .boolean ∧ (x = 0 ∨ x = 1))) (hd : xd_D cc pc (.putfield ix) 3 pc1) (kk : xv G K nL Q cells slots n tau (xu vi k jz x) vl vr pc1 lv st) : xv G K nL Q cells slots n tau vi vl vr pc lv (xa_i x :: xa_r k :: st) := by
  subst hj
  exact vx_putfi hC ht hF hfin hty hd kk
theorem vx_pl (hC : xk_C G K cc own nL) (jz : Int) {k ci len j ix : Nat} {x : Int} {fin : Bool} (ht : k < n ∧ tau k = (ci, len)) (hF : xf_P own ix ci j 1 fin) (hj : (j : Int) = jz) (hfin : fin = false ∨ K.2.2.2.2.2.2.2.2.1.name = "<init>") (hty : xf_ty ci j = .long) (hd : xd_D cc pc (.putfield ix) 3 pc1) (kk : xv G K nL Q cells slots n tau vi (xu vl k jz x) vr pc1 lv st) : xv G K nL Q cells slots n tau vi vl vr pc lv (xa_l x :: xa_r k :: st) := by
  subst hj
  exact vx_putfl hC ht hF hfin hty hd kk
theorem vx_pr (hC : xk_C G K cc own nL) (jz : Int) {k ci len j ix : Nat} {r : Option Nat} {fin : Bool} (ht : k < n ∧ tau k = (ci, len)) (hF : xf_P own ix ci j 2 fin) (hj : (j : Int) = jz) (hfin : fin = false ∨ K.2.2.2.2.2.2.2.2.1.name = "<init>") (hd : xd_D cc pc (.putfield ix) 3 pc1) (kk : xv G K nL Q cells slots n tau vi vl (xu vr k jz r) pc1 lv st) : xv G K nL Q cells slots n tau vi vl vr pc lv (xa_q r :: xa_r k :: st) := by
  subst hj
  exact vx_putfr hC ht hF hfin hd kk
theorem vx_eqi {x y : Int} (h : x = y) (k : xv G K nL Q cells slots n tau vi vl vr pc lv (xa_i y :: st)) : xv G K nL Q cells slots n tau vi vl vr pc lv (xa_i x :: st) := by rw [h]; exact k
theorem vx_eql {x y : Int} (h : x = y) (k : xv G K nL Q cells slots n tau vi vl vr pc lv (xa_l y :: st)) : xv G K nL Q cells slots n tau vi vl vr pc lv (xa_l x :: st) := by rw [h]; exact k
theorem vx_top2 {x : Int} {v : xa_T} (k : ∀ y : Int, y = x → xv G K nL Q cells slots n tau vi vl vr pc lv (v :: xa_i y :: st)) : xv G K nL Q cells slots n tau vi vl vr pc lv (v :: xa_i x :: st) := k x rfl
theorem vx_lv {lv1 : List (Nat × xa_T)} (ks : List Nat) (h : ks.filterMap (fun k => lv[k]?) = lv1) (k : xv G K nL Q cells slots n tau vi vl vr pc lv1 st) : xv G K nL Q cells slots n tau vi vl vr pc lv st := fun H locs ls hR hS hl => k H locs ls hR hS (lv_sub hl ks (by
  subst h
  unfold lv_pick xl_m
  rw [List.map_filterMap]
  congr 1
  funext i
  rw [List.getElem?_map]))
theorem vx_norm {z z1 : Int} (h : Int32.ofInt z = Int32.ofInt z1) (k : xv G K nL Q cells slots n tau vi vl vr pc lv (xa_i z1 :: st)) : xv G K nL Q cells slots n tau vi vl vr pc lv (xa_i z :: st) := fun H locs ls hR hS hl => by
  have k := k H locs ls hR hS hl
  simp only [List.map_cons, xa_tr] at k ⊢
  rw [h]
  exact k
end XV
