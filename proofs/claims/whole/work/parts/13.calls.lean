/-- a contract over the number world: called with a in this world, the method answers r and leaves a world, so that post -/
abbrev xm_T : Type := Option xa_T → Nat → (Nat → Nat × Nat) → (Nat → Int → Int) → (Nat → Int → Int) → (Nat → Int → Option Nat) → Prop
def xm_P (G : xg_T) (a : List xa_T) (n : Nat) (tau : Nat → Nat × Nat) (vi vl : Nat → Int → Int) (vr : Nat → Int → Option Nat) : Array Value → State → Prop := fun v U => v = (a.map (xa_tr G)).toArray ∧ xh_R G n tau vi vl vr U.heap ∧ xh_Ev G U
def xm_Q (G : xg_T) (post : xm_T) : Array Value → State → Outcome → State → Prop := fun _ st o t => (∃ (r : Option xa_T) (n : Nat) (tau : Nat → Nat × Nat) (vi vl : Nat → Int → Int) (vr : Nat → Int → Option Nat), o = .returned (r.map (xa_tr G)) ∧ post r n tau vi vl vr ∧ xh_R G n tau vi vl vr t.heap) ∧ st.heap.size ≤ t.heap.size
def xm_R (d mc ms : Nat) : Room := { frames := d, cells := mc, slots := ms, locals := 40 * d }
def xm (G : xg_T) (y : MethodName) (cc : ByteArray) (nL : Nat) (ret : Option FieldType) (d mc ms : Nat) (a : List xa_T) (n : Nat) (tau : Nat → Nat × Nat) (vi vl : Nat → Int → Int) (vr : Nat → Int → Option Nat) (post : xm_T) : Prop :=
  ∀ l : Launch, Met l y (Cond.code y cc nL ret :: xw_tbl) (xm_R d mc ms) (xm_P G a n tau vi vl vr) (xm_Q G post) mc ms (xg_A G)
def xk_Rm (K : xk_T) (d mc ms : Nat) : Prop := d ≤ (xk_R K).frames ∧ 40 * d ≤ (xk_R K).locals ∧ mc ≤ (xk_R K).cells ∧ ms ≤ (xk_R K).slots
def xk_M (K : xk_T) (y : MethodName) (ret : Option FieldType) : Prop := K.2.2.2.2.2.2.2.2.1.sig.returnType = ret ∧ K.2.2.2.2.2.2.2.2.1.locks = false ∧ K.2.2.2.2.2.2.2.2.1.name = y.name
def xk_Q (G : xg_T) (K : xk_T) (post : xm_T) (mc ms : Nat) : State → Prop := MQ K.2.2.2.2.2.2.2.1 (xm_Q G post) K.2.2.2.2.2.2.1 (xk_s K) mc ms (xg_A G)
def xl_a : Nat → List xa_T → List (Nat × xa_T)
  | _, [] => []
  | i, v :: vs => (i, v) :: xl_a (if xa_c v = 2 then i + 2 else i + 1) vs
theorem xl_a_m (G : xg_T) : ∀ (a : List xa_T) (i : Nat), lv_args i (a.map (xa_tr G)) = xl_m G (xl_a i a)
  | [], _ => rfl
  | v :: vs, i => by
    show (i, xa_tr G v) :: lv_args (if (xa_tr G v).category = 2 then i + 2 else i + 1) (vs.map (xa_tr G)) = (i, xa_tr G v) :: xl_m G (xl_a (if xa_c v = 2 then i + 2 else i + 1) vs)
    rw [xa_tr_c, xl_a_m G vs]
theorem xl_sl_len (G : xg_T) : ∀ a : List xa_T, (lg_sl (a.map (xa_tr G))).length = (a.map xa_c).sum
  | [] => rfl
  | v :: vs => by
    have ih := xl_sl_len G vs
    unfold lg_sl at ih ⊢
    rw [List.map_cons, List.flatMap_cons, List.length_append, ih, List.map_cons, List.sum_cons, xa_tr_c]
    rcases v with z | z | r <;> rfl
theorem xm.of {G : xg_T} {y : MethodName} {cc : ByteArray} {nL : Nat} {ret : Option FieldType} {d mc ms : Nat} {a : List xa_T} {n : Nat} {tau : Nat → Nat × Nat} {vi vl : Nat → Int → Int} {vr : Nat → Int → Option Nat} {post : xm_T} {lv : List (Nat × xa_T)} (hy : plainName y.cls = true) (ha : (a.map xa_c).sum ≤ nL) (hlv : xl_a 0 a = lv)
    (body : ∀ K : xk_T, xk_C G K cc y.cls nL → xk_M K y ret → xk_Rm K d mc ms → xv G K nL (xk_Q G K post mc ms) 0 0 n tau vi vl vr 0 lv []) : xm G y cc nL ret d mc ms a n tau vi vl vr post := by
  subst hlv
  intro l
  refine Met.ofW (cc := cc) (maxL := nL) (ret := ret) hy rfl ?_
  intro p e s m args below meth c s₁ B hml hv
  obtain ⟨rfl, hR, hE⟩ := hv
  have hts := atoms_spec (ws := Cond.code y cc nL ret :: xw_tbl) B.pre
  have hC : xk_C G (p, l, e, xm_R d mc ms, s, m, (a.map (xa_tr G)).toArray, below, meth, c) cc y.cls nL := ⟨B.exec, B.bytes, hml, findClass_of_methodNamed B.named, fun w hw => hts w (List.mem_cons_of_mem _ hw), hE, by show xg_b G ≤ s.heap.size; rw [hR.2.1]; omega, hR.2.2.2⟩
  have hk := body (p, l, e, xm_R d mc ms, s, m, (a.map (xa_tr G)).toArray, below, meth, c) hC ⟨B.returns, B.notSynchronized, (name_of_methodNamed B.named B.method).1⟩ ⟨Nat.le_refl _, Nat.le_refl _, Nat.le_refl _, Nat.le_refl _⟩
  have hl := lv_entry (a.map (xa_tr G)) (n := nL) (by rw [xl_sl_len]; exact ha)
  rw [lg_entry_eq]
  rw [xl_a_m] at hl
  exact hk s.heap [] _ hR va_S.rf hl
theorem xm_blind {G : xg_T} {a : List xa_T} {n : Nat} {tau : Nat → Nat × Nat} {vi vl : Nat → Int → Int} {vr : Nat → Int → Option Nat} : FrameBlind (xm_P G a n tau vi vl vr) := fun a U g mk q => ⟨q.1, q.2.1, xh_Ev.same (u := U) rfl q.2.2⟩
theorem xm_good {y : MethodName} {cc : ByteArray} {nL : Nat} {ret : Option FieldType} (h : Cond.code y cc nL ret ∈ xw_tbl) : GoodIn xw_tbl (Cond.code y cc nL ret :: xw_tbl) := fun w hw => by
  rcases List.mem_cons.mp hw with rfl | hw
  · exact xw_good _ h
  · exact xw_good _ hw
theorem xm_goods {A : List Cond} {y : MethodName} {cc : ByteArray} {nL : Nat} {ret : Option FieldType} (hA : ∀ w ∈ A, w ∈ xw_tbl) (h : Cond.code y cc nL ret ∈ xw_tbl) : GoodIn xw_tbl (A ++ (Cond.code y cc nL ret :: xw_tbl)) := fun w hw => by
  rcases List.mem_append.mp hw with hw | hw
  · exact xw_good _ (hA w hw)
  · exact xm_good h w hw
/-- a stronger or weaker post -/
theorem xm.post {G : xg_T} {y : MethodName} {cc : ByteArray} {nL : Nat} {ret : Option FieldType} {d mc ms : Nat} {a : List xa_T} {n : Nat} {tau : Nat → Nat × Nat} {vi vl : Nat → Int → Int} {vr : Nat → Int → Option Nat} {post post' : xm_T} (h : xm G y cc nL ret d mc ms a n tau vi vl vr post) (hp : ∀ r n tau vi vl vr, post r n tau vi vl vr → post' r n tau vi vl vr) : xm G y cc nL ret d mc ms a n tau vi vl vr post' := by
  intro l
  have h := h l
  unfold Met at h ⊢
  intro p e ha hc hk s m args below hf
  intro h1 h2 h3
  obtain ⟨t, o, b1, b2, b3, ⟨⟨⟨r, n', t', vi', vl', vr', g1, g2, g3⟩, g4⟩, g5⟩⟩ := h p e ha hc hk s m args below hf h1 h2 h3
  exact ⟨t, o, b1, b2, b3, ⟨⟨⟨r, n', t', vi', vl', vr', g1, hp _ _ _ _ _ _ g2, g3⟩, g4⟩, g5⟩⟩

section XV
variable {G : xg_T} {K : xk_T} {cc : ByteArray} {own : String} {nL : Nat} {Q : State → Prop} {cells slots n : Nat} {tau : Nat → Nat × Nat} {vi vl : Nat → Int → Int} {vr : Nat → Int → Option Nat} {pc pc1 : Nat} {lv : List (Nat × xa_T)} {st : List xa_T}
theorem xv_run (hC : xk_C G K cc own nL) {mc ms : Nat} {A : Array Value} {stk : List xa_T} {post : xm_T} (hrun : ∀ (H : Heap) (locs : List Loc) (ls : Array Slot), xh_R G n tau vi vl vr H → va_S (xg_A G) (xk_s K).heap H locs → lv_has ls nL (xl_m G lv) → va_Run K.1 K.2.1 K.2.2.1 K.2.2.2.1 K.2.2.2.2.1 K.2.2.2.2.2.1 K.2.2.2.2.2.2.1 K.2.2.2.2.2.2.2.1 K.2.2.2.2.2.2.2.2.1 K.2.2.2.2.2.2.2.2.2 H locs cells slots mc ms (F0 K.2.2.2.2.2.1 pc ls (stk.map (xa_tr G))) (st.map (xa_tr G)) (xm_Q G post A) (xg_A G))
    (kk : ∀ (r : Option xa_T) (n : Nat) (tau : Nat → Nat × Nat) (vi vl : Nat → Int → Int) (vr : Nat → Int → Option Nat), post r n tau vi vl vr → xv G K nL Q (cells + mc) (slots + ms) n tau vi vl vr (pc + 3) lv (r.toList ++ st)) : xv G K nL Q cells slots n tau vi vl vr pc lv stk := by
  obtain ⟨p, l, e, R, s, m, args, below, meth, c⟩ := K
  obtain ⟨hx, hb, hml, hown, hts, hE, hB, hB0⟩ := hC
  intro H locs ls hR hS hl T hT X
  obtain ⟨v, st₀, t, T', L, h0, X', hL, e1, e2, ⟨⟨r, n', tau', vi', vl', vr', hv, hp, hR1⟩, hz⟩, stp⟩ := hrun H locs ls hR hS hl T hT X
  rw [h0] at hz
  have hv : v = r.map (xa_tr G) := by cases hv; rfl
  subst hv
  have hR2 : xh_R G n' tau' vi' vl' vr' T'.heap := by rw [e1]; exact hR1
  have hS2 : va_S (xg_A G) s.heap T'.heap (locs ++ L) := ⟨Nat.le_trans hS.1 (by rw [e1]; exact hz), fun q q1 q2 => by
    have q3 : q < xg_b G := by
      rcases Nat.lt_or_ge q (xg_b G) with z | z
      · exact z
      · exact absurd z q2
    rw [hR2.2.2.2 q q3, hB0 q q3], fun q hq => by
      rcases List.mem_append.mp hq with h | h
      · exact hS.2.2 q h
      · exact hL q h⟩
  have k2 := kk r n' tau' vi' vl' vr' hp T'.heap (locs ++ L) ls hR2 hS2 hl
  have es : (r.toList ++ st).map (xa_tr G) = (r.map (xa_tr G)).toList ++ st.map (xa_tr G) := by cases r <;> rfl
  unfold xk_W at k2
  rw [es] at k2
  obtain ⟨t2, a1, b1⟩ := k2 T' rfl X'
  exact ⟨t2, stp t2 a1, b1⟩
/-- the words of a call of a method of the receiver's own class -/
def xy_V (own : String) (ix : Nat) (y : MethodName) (cc1 : ByteArray) (nL1 : Nat) (ret1 : Option FieldType) (np : Nat) : Prop := (∀ w ∈ ([.methodLink own ix y, .instanceMethod y, .selects y.cls y y, .initialized y.cls] : List Cond), w ∈ xw_tbl) ∧ Cond.code y cc1 nL1 ret1 ∈ xw_tbl ∧ (y.cls ≠ "java/lang/invoke/MethodHandle" ∧ y.cls ≠ "java/lang/invoke/VarHandle" ∧ (parseMethodDescriptor y.desc).map (fun d => d.parameters.length) = some np)
theorem vx_callV (hC : xk_C G K cc own nL) {d d1 mc ms mc1 ms1 nL1 : Nat} {y : MethodName} {cc1 : ByteArray} {ret1 : Option FieldType} {a : List xa_T} {stk : List xa_T} {post : xm_T} {k ci len ix np : Nat} {C : String} {T : u_T} {N : Nat} (hM : xm G y cc1 nL1 ret1 d mc ms (xa_r k :: a) n tau vi vl vr post) (hy : xy_V own ix y cc1 nL1 ret1 np) (ht : k < n ∧ tau k = (ci, len)) (hc : vwCl[ci]? = some (C, T, N)) (hyc : y.cls = C) (hnp : a.length = np) (hRm : xk_Rm K d1 mc1 ms1) (hcs : d + 1 ≤ d1 ∧ nL1 ≤ 21 ∧ cells + mc ≤ mc1 ∧ slots + ms ≤ ms1) (hw8 : (st.map xa_c).sum ≤ 8) (hstk : stk = a.reverse ++ xa_r k :: st) (hd : xd_D cc pc (.invokevirtual ix) 3 pc1) (kk : ∀ (r : Option xa_T) (n : Nat) (tau : Nat → Nat × Nat) (vi vl : Nat → Int → Int) (vr : Nat → Int → Option Nat), post r n tau vi vl vr → xv G K nL Q (cells + mc) (slots + ms) n tau vi vl vr pc1 lv (r.toList ++ st)) : xv G K nL Q cells slots n tau vi vl vr pc lv stk := by
  have hC0 := hC
  obtain ⟨hdg, rfl⟩ := hd
  subst hstk
  refine xv_run (A := #[]) hC0 ?_ kk
  obtain ⟨p, l, e, R, s, m, args, below, meth, c⟩ := K
  obtain ⟨hx, hb, hml, hown, hts, hE, hB, hB0⟩ := hC
  obtain ⟨r1, r2, r3, r4⟩ := hRm
  simp only [xk_R] at r1 r2 r3 r4
  intro H locs ls hR hS hl
  have hw9 : ((st.map (xa_tr G)).map fun v => v.category).sum ≤ 8 := by
    rw [List.map_map, show ((fun v : Value => v.category) ∘ xa_tr G) = xa_c from funext fun v => xa_tr_c G v]
    exact hw8
  obtain ⟨y1, y2, y3⟩ := hy
  obtain ⟨c1, c2, -⟩ := xc_all hc
  have hrecv : ∃ cell : Cell, H[xg_ad G k]? = some cell ∧ cell.vm.isStatics = false ∧ s.vm.findClass y.cls = some cell.cls := by
    rw [hR.ad ht.1, hyc]
    exact va_recv hE.1 hR.2.2.1 hc (q0 := k) (by rw [xe_get ht.1, xe_obj ht.2 c1 c2])
  rw [List.map_append, List.map_reverse]
  exact va_runV (As := a.map (xa_tr G)) (rest := st.map (xa_tr G)) (b := xg_ad G k) ⟨hx, hb, hml, hown, hts⟩ (hM l) (cwV np hts (xm_goods y1 y2) rfl rfl rfl ⟨rfl, y3⟩ ⟨by show d + 1 ≤ R.frames; omega, by show 8 + (nL1 + 11) + 40 * d ≤ R.locals; omega⟩) ⟨xm_blind, hrecv, fun U hU hW => ⟨rfl, by rw [hU]; exact hR, hE.warm hW⟩⟩ rfl (by rw [List.length_map]; exact hnp) hl.1 rfl (lv_room hw9) hdg ⟨by show cells + mc ≤ R.cells; omega, by show slots + ms ≤ R.slots; omega⟩
def xy_U (own : String) (ix : Nat) (C owner : String) (x y : MethodName) (cc1 : ByteArray) (nL1 : Nat) (ret1 : Option FieldType) (np : Nat) : Prop := (∀ w ∈ ([.methodLink own ix x, .sameMethod x.cls owner x.name x.desc, .instanceMethod ⟨owner, x.name, x.desc⟩, .selects C x y, .instanceMethod y, .initialized y.cls] : List Cond), w ∈ xw_tbl) ∧ (∃ b0 m0 r0, Cond.code ⟨owner, x.name, x.desc⟩ b0 m0 r0 ∈ xw_tbl) ∧ Cond.code y cc1 nL1 ret1 ∈ xw_tbl ∧ (owner ≠ "java/lang/invoke/MethodHandle" ∧ owner ≠ "java/lang/invoke/VarHandle" ∧ (parseMethodDescriptor x.desc).map (fun d => d.parameters.length) = some np)
theorem vx_callU (hC : xk_C G K cc own nL) {d d1 mc ms mc1 ms1 nL1 : Nat} {y : MethodName} {cc1 : ByteArray} {ret1 : Option FieldType} {a : List xa_T} {stk : List xa_T} {post : xm_T} {k ci len ix np : Nat} {C owner : String} {x : MethodName} {T : u_T} {N : Nat} (hM : xm G y cc1 nL1 ret1 d mc ms (xa_r k :: a) n tau vi vl vr post) (hy : xy_U own ix C owner x y cc1 nL1 ret1 np) (ht : k < n ∧ tau k = (ci, len)) (hc : vwCl[ci]? = some (C, T, N)) (hnp : a.length = np) (hRm : xk_Rm K d1 mc1 ms1) (hcs : d + 1 ≤ d1 ∧ nL1 ≤ 21 ∧ cells + mc ≤ mc1 ∧ slots + ms ≤ ms1) (hw8 : (st.map xa_c).sum ≤ 8) (hstk : stk = a.reverse ++ xa_r k :: st) (hd : xd_D cc pc (.invokevirtual ix) 3 pc1) (kk : ∀ (r : Option xa_T) (n : Nat) (tau : Nat → Nat × Nat) (vi vl : Nat → Int → Int) (vr : Nat → Int → Option Nat), post r n tau vi vl vr → xv G K nL Q (cells + mc) (slots + ms) n tau vi vl vr pc1 lv (r.toList ++ st)) : xv G K nL Q cells slots n tau vi vl vr pc lv stk := by
  have hC0 := hC
  obtain ⟨hdg, rfl⟩ := hd
  subst hstk
  refine xv_run (A := #[]) hC0 ?_ kk
  obtain ⟨p, l, e, R, s, m, args, below, meth, c⟩ := K
  obtain ⟨hx, hb, hml, hown, hts, hE, hB, hB0⟩ := hC
  obtain ⟨r1, r2, r3, r4⟩ := hRm
  simp only [xk_R] at r1 r2 r3 r4
  intro H locs ls hR hS hl
  have hw9 : ((st.map (xa_tr G)).map fun v => v.category).sum ≤ 8 := by
    rw [List.map_map, show ((fun v : Value => v.category) ∘ xa_tr G) = xa_c from funext fun v => xa_tr_c G v]
    exact hw8
  obtain ⟨y1, ⟨b0, m0, r0, y0⟩, y2, y3⟩ := hy
  obtain ⟨c1, c2, -⟩ := xc_all hc
  have hrecv : ∃ cell : Cell, H[xg_ad G k]? = some cell ∧ cell.vm.isStatics = false ∧ s.vm.findClass C = some cell.cls := by
    rw [hR.ad ht.1]
    exact va_recv hE.1 hR.2.2.1 hc (q0 := k) (by rw [xe_get ht.1, xe_obj ht.2 c1 c2])
  rw [List.map_append, List.map_reverse]
  exact va_runU (As := a.map (xa_tr G)) (rest := st.map (xa_tr G)) (b := xg_ad G k) (C := C) (owner := owner) ⟨hx, hb, hml, hown, hts⟩ (hM l) (va_cwO np hts (xm_goods y1 y2) rfl rfl rfl y0 y3 ⟨by show d + 1 ≤ R.frames; omega, by show 8 + (nL1 + 11) + 40 * d ≤ R.locals; omega⟩) ⟨xm_blind, hrecv, fun U hU hW => ⟨rfl, by rw [hU]; exact hR, hE.warm hW⟩⟩ rfl (by rw [List.length_map]; exact hnp) hl.1 rfl (lv_room hw9) hdg ⟨by show cells + mc ≤ R.cells; omega, by show slots + ms ≤ R.slots; omega⟩
def xy_SU (own : String) (ix : Nat) (y : MethodName) (cc1 : ByteArray) (nL1 : Nat) (ret1 : Option FieldType) (np : Nat) : Prop := (∀ w ∈ ([.methodLink own ix y, .sameMethod y.cls y.cls y.name y.desc, .superclass own y.cls, .instanceMethod y, .initialized y.cls] : List Cond), w ∈ xw_tbl) ∧ Cond.code y cc1 nL1 ret1 ∈ xw_tbl ∧ (y.name ≠ "<init>" ∧ (parseMethodDescriptor y.desc).map (fun d => d.parameters.length) = some np)
theorem vx_callSU (hC : xk_C G K cc own nL) {d d1 mc ms mc1 ms1 nL1 : Nat} {y : MethodName} {cc1 : ByteArray} {ret1 : Option FieldType} {a : List xa_T} {stk : List xa_T} {post : xm_T} {k ci len ix np : Nat} {C : String} {T : u_T} {N : Nat} (hM : xm G y cc1 nL1 ret1 d mc ms (xa_r k :: a) n tau vi vl vr post) (hy : xy_SU own ix y cc1 nL1 ret1 np) (ht : k < n ∧ tau k = (ci, len)) (hc : vwCl[ci]? = some (C, T, N)) (hnp : a.length = np) (hRm : xk_Rm K d1 mc1 ms1) (hcs : d + 1 ≤ d1 ∧ nL1 ≤ 21 ∧ cells + mc ≤ mc1 ∧ slots + ms ≤ ms1) (hw8 : (st.map xa_c).sum ≤ 8) (hstk : stk = a.reverse ++ xa_r k :: st) (hd : xd_D cc pc (.invokespecial ix) 3 pc1) (kk : ∀ (r : Option xa_T) (n : Nat) (tau : Nat → Nat × Nat) (vi vl : Nat → Int → Int) (vr : Nat → Int → Option Nat), post r n tau vi vl vr → xv G K nL Q (cells + mc) (slots + ms) n tau vi vl vr pc1 lv (r.toList ++ st)) : xv G K nL Q cells slots n tau vi vl vr pc lv stk := by
  have hC0 := hC
  obtain ⟨hdg, rfl⟩ := hd
  subst hstk
  refine xv_run (A := #[]) hC0 ?_ kk
  obtain ⟨p, l, e, R, s, m, args, below, meth, c⟩ := K
  obtain ⟨hx, hb, hml, hown, hts, hE, hB, hB0⟩ := hC
  obtain ⟨r1, r2, r3, r4⟩ := hRm
  simp only [xk_R] at r1 r2 r3 r4
  intro H locs ls hR hS hl
  have hw9 : ((st.map (xa_tr G)).map fun v => v.category).sum ≤ 8 := by
    rw [List.map_map, show ((fun v : Value => v.category) ∘ xa_tr G) = xa_c from funext fun v => xa_tr_c G v]
    exact hw8
  obtain ⟨y1, y2, y3⟩ := hy
  obtain ⟨c1, c2, -⟩ := xc_all hc
  have hrecv : ∃ cell : Cell, H[xg_ad G k]? = some cell ∧ cell.vm.isStatics = false ∧ s.vm.findClass C = some cell.cls := by
    rw [hR.ad ht.1]
    exact va_recv hE.1 hR.2.2.1 hc (q0 := k) (by rw [xe_get ht.1, xe_obj ht.2 c1 c2])
  rw [List.map_append, List.map_reverse]
  exact va_runSU (hE.1.1 ci _ hc).2 (As := a.map (xa_tr G)) (rest := st.map (xa_tr G)) (b := xg_ad G k) ⟨hx, hb, hml, hown, hts⟩ (hM l) (va_cwSU np hts (xm_goods y1 y2) rfl rfl rfl y3 ⟨by show d + 1 ≤ R.frames; omega, by show 8 + (nL1 + 11) + 40 * d ≤ R.locals; omega⟩) ⟨xm_blind, hrecv, fun U hU hW => ⟨rfl, by rw [hU]; exact hR, hE.warm hW⟩⟩ rfl (by rw [List.length_map]; exact hnp) hl.1 rfl (lv_room hw9) hdg ⟨by show cells + mc ≤ R.cells; omega, by show slots + ms ≤ R.slots; omega⟩
def xy_S (own : String) (ix : Nat) (y : MethodName) (cc1 : ByteArray) (nL1 : Nat) (ret1 : Option FieldType) (np : Nat) : Prop := (∀ w ∈ ([.methodLink own ix y, .static y, .initialized y.cls] : List Cond), w ∈ xw_tbl) ∧ Cond.code y cc1 nL1 ret1 ∈ xw_tbl ∧ (y.cls ≠ "java/lang/invoke/MethodHandle" ∧ y.cls ≠ "java/lang/invoke/VarHandle" ∧ (parseMethodDescriptor y.desc).map (fun d => d.parameters.length) = some np)
theorem vx_callS (hC : xk_C G K cc own nL) {d d1 mc ms mc1 ms1 nL1 : Nat} {y : MethodName} {cc1 : ByteArray} {ret1 : Option FieldType} {a : List xa_T} {stk : List xa_T} {post : xm_T} {ix np : Nat} (hM : xm G y cc1 nL1 ret1 d mc ms a n tau vi vl vr post) (hy : xy_S own ix y cc1 nL1 ret1 np) (hnp : a.length = np) (hRm : xk_Rm K d1 mc1 ms1) (hcs : d + 1 ≤ d1 ∧ nL1 ≤ 21 ∧ cells + mc ≤ mc1 ∧ slots + ms ≤ ms1) (hw8 : (st.map xa_c).sum ≤ 8) (hstk : stk = a.reverse ++ st) (hd : xd_D cc pc (.invokestatic ix) 3 pc1) (kk : ∀ (r : Option xa_T) (n : Nat) (tau : Nat → Nat × Nat) (vi vl : Nat → Int → Int) (vr : Nat → Int → Option Nat), post r n tau vi vl vr → xv G K nL Q (cells + mc) (slots + ms) n tau vi vl vr pc1 lv (r.toList ++ st)) : xv G K nL Q cells slots n tau vi vl vr pc lv stk := by
  have hC0 := hC
  obtain ⟨hdg, rfl⟩ := hd
  subst hstk
  refine xv_run (A := #[]) hC0 ?_ kk
  obtain ⟨p, l, e, R, s, m, args, below, meth, c⟩ := K
  obtain ⟨hx, hb, hml, hown, hts, hE, hB, hB0⟩ := hC
  obtain ⟨r1, r2, r3, r4⟩ := hRm
  simp only [xk_R] at r1 r2 r3 r4
  intro H locs ls hR hS hl
  have hw9 : ((st.map (xa_tr G)).map fun v => v.category).sum ≤ 8 := by
    rw [List.map_map, show ((fun v : Value => v.category) ∘ xa_tr G) = xa_c from funext fun v => xa_tr_c G v]
    exact hw8
  obtain ⟨y1, y2, y3⟩ := hy
  rw [List.map_append, List.map_reverse]
  exact va_runS (As := a.map (xa_tr G)) (rest := st.map (xa_tr G)) ⟨hx, hb, hml, hown, hts⟩ (hM l) (va_cwS np hts (xm_goods y1 y2) rfl rfl rfl y3 ⟨by show d + 1 ≤ R.frames; omega, by show 8 + (nL1 + 11) + 40 * d ≤ R.locals; omega⟩) ⟨xm_blind, fun U hU hW => ⟨rfl, by rw [hU]; exact hR, hE.warm hW⟩⟩ rfl (by rw [List.length_map]; exact hnp) hl.1 rfl (lv_room hw9) hdg ⟨by show cells + mc ≤ R.cells; omega, by show slots + ms ≤ R.slots; omega⟩
def xy_I (own : String) (ix : Nat) (y : MethodName) (cc1 : ByteArray) (nL1 : Nat) (np : Nat) : Prop := (∀ w ∈ ([.methodLink own ix y, .instanceMethod y, .initialized y.cls] : List Cond), w ∈ xw_tbl) ∧ Cond.code y cc1 nL1 none ∈ xw_tbl ∧ y.name = "<init>" ∧ (y.cls ≠ "java/lang/invoke/MethodHandle" ∧ y.cls ≠ "java/lang/invoke/VarHandle" ∧ (parseMethodDescriptor y.desc).map (fun d => d.parameters.length) = some np)
theorem vx_callI (hC : xk_C G K cc own nL) {d d1 mc ms mc1 ms1 nL1 : Nat} {y : MethodName} {cc1 : ByteArray} {a : List xa_T} {stk : List xa_T} {post : xm_T} {k ix np : Nat} (hM : xm G y cc1 nL1 none d mc ms (xa_r k :: a) n tau vi vl vr post) (hy : xy_I own ix y cc1 nL1 np) (hnp : a.length = np) (hRm : xk_Rm K d1 mc1 ms1) (hcs : d + 1 ≤ d1 ∧ nL1 ≤ 21 ∧ cells + mc ≤ mc1 ∧ slots + ms ≤ ms1) (hw8 : (st.map xa_c).sum ≤ 8) (hstk : stk = a.reverse ++ xa_r k :: st) (hd : xd_D cc pc (.invokespecial ix) 3 pc1) (kk : ∀ (r : Option xa_T) (n : Nat) (tau : Nat → Nat × Nat) (vi vl : Nat → Int → Int) (vr : Nat → Int → Option Nat), post r n tau vi vl vr → xv G K nL Q (cells + mc) (slots + ms) n tau vi vl vr pc1 lv (r.toList ++ st)) : xv G K nL Q cells slots n tau vi vl vr pc lv stk := by
  have hC0 := hC
  obtain ⟨hdg, rfl⟩ := hd
  subst hstk
  refine xv_run (A := #[]) hC0 ?_ kk
  obtain ⟨p, l, e, R, s, m, args, below, meth, c⟩ := K
  obtain ⟨hx, hb, hml, hown, hts, hE, hB, hB0⟩ := hC
  obtain ⟨r1, r2, r3, r4⟩ := hRm
  simp only [xk_R] at r1 r2 r3 r4
  intro H locs ls hR hS hl
  have hw9 : ((st.map (xa_tr G)).map fun v => v.category).sum ≤ 8 := by
    rw [List.map_map, show ((fun v : Value => v.category) ∘ xa_tr G) = xa_c from funext fun v => xa_tr_c G v]
    exact hw8
  obtain ⟨y1, y2, y4, y3⟩ := hy
  rw [List.map_append, List.map_reverse]
  exact va_runI (As := a.map (xa_tr G)) (rest := st.map (xa_tr G)) (b := xg_ad G k) ⟨hx, hb, hml, hown, hts⟩ (hM l) (cwI np hts (xm_good y2) rfl rfl rfl (hts _ (y1 _ (by simp))) (hts _ (y1 _ (by simp))) (hts _ (y1 _ (by simp))) y4 y3 ⟨by show d + 1 ≤ R.frames; omega, by show 8 + (nL1 + 11) + 40 * d ≤ R.locals; omega⟩) ⟨xm_blind, fun U hU hW => ⟨rfl, by rw [hU]; exact hR, hE.warm hW⟩⟩ rfl (by rw [List.length_map]; exact hnp) hl.1 rfl (lv_room hw9) hdg ⟨by show cells + mc ≤ R.cells; omega, by show slots + ms ≤ R.slots; omega⟩
def xy_IN (own : String) (ix : Nat) (y : MethodName) (host : String) (cc1 : ByteArray) (nL1 : Nat) (np : Nat) : Prop := (∀ w ∈ ([.instanceMethod y, .initialized y.cls] : List Cond), w ∈ xw_tbl) ∧ (own, ix, y, host) ∈ xw_nest ∧ Cond.code y cc1 nL1 none ∈ xw_tbl ∧ y.name = "<init>" ∧ (y.cls ≠ "java/lang/invoke/MethodHandle" ∧ y.cls ≠ "java/lang/invoke/VarHandle" ∧ (parseMethodDescriptor y.desc).map (fun d => d.parameters.length) = some np)
theorem vx_callIN (hC : xk_C G K cc own nL) {d d1 mc ms mc1 ms1 nL1 : Nat} {y : MethodName} {cc1 : ByteArray} {a : List xa_T} {stk : List xa_T} {post : xm_T} {k ix np : Nat} {host : String} (hM : xm G y cc1 nL1 none d mc ms (xa_r k :: a) n tau vi vl vr post) (hy : xy_IN own ix y host cc1 nL1 np) (hnp : a.length = np) (hRm : xk_Rm K d1 mc1 ms1) (hcs : d + 1 ≤ d1 ∧ nL1 ≤ 21 ∧ cells + mc ≤ mc1 ∧ slots + ms ≤ ms1) (hw8 : (st.map xa_c).sum ≤ 8) (hstk : stk = a.reverse ++ xa_r k :: st) (hd : xd_D cc pc (.invokespecial ix) 3 pc1) (kk : ∀ (r : Option xa_T) (n : Nat) (tau : Nat → Nat × Nat) (vi vl : Nat → Int → Int) (vr : Nat → Int → Option Nat), post r n tau vi vl vr → xv G K nL Q (cells + mc) (slots + ms) n tau vi vl vr pc1 lv (r.toList ++ st)) : xv G K nL Q cells slots n tau vi vl vr pc lv stk := by
  have hC0 := hC
  obtain ⟨hdg, rfl⟩ := hd
  subst hstk
  refine xv_run (A := #[]) hC0 ?_ kk
  obtain ⟨p, l, e, R, s, m, args, below, meth, c⟩ := K
  obtain ⟨hx, hb, hml, hown, hts, hE, hB, hB0⟩ := hC
  obtain ⟨r1, r2, r3, r4⟩ := hRm
  simp only [xk_R] at r1 r2 r3 r4
  intro H locs ls hR hS hl
  have hw9 : ((st.map (xa_tr G)).map fun v => v.category).sum ≤ 8 := by
    rw [List.map_map, show ((fun v : Value => v.category) ∘ xa_tr G) = xa_c from funext fun v => xa_tr_c G v]
    exact hw8
  obtain ⟨y1, y5, y2, y4, y3⟩ := hy
  rw [List.map_append, List.map_reverse]
  exact va_runIN (As := a.map (xa_tr G)) (rest := st.map (xa_tr G)) (b := xg_ad G k) ⟨hx, hb, hml, hown, hts⟩ (hM l) ⟨va_cnB np hts (xm_good y2) rfl rfl rfl (hE.2.2.1 _ y5) (hts _ (y1 _ (by simp))) y3 ⟨by show d + 1 ≤ R.frames; omega, by show 8 + (nL1 + 11) + 40 * d ≤ R.locals; omega⟩, y4, hts _ (y1 _ (by simp))⟩ ⟨xm_blind, fun U hU hW => ⟨rfl, by rw [hU]; exact hR, hE.warm hW⟩⟩ rfl (by rw [List.length_map]; exact hnp) hl.1 rfl (lv_room hw9) hdg ⟨by show cells + mc ≤ R.cells; omega, by show slots + ms ≤ R.slots; omega⟩
theorem vx_objInit (hC : xk_C G K cc own nL) {ix k d1 mc1 ms1 : Nat} (hRm : xk_Rm K d1 mc1 ms1) (h1 : 1 ≤ d1) (hws : ∀ w ∈ ([.methodLink own ix objectInit, .instanceMethod objectInit, .code objectInit ⟨#[0xb1]⟩ 1 none] : List Cond), w ∈ xw_tbl) (hw8 : (st.map xa_c).sum ≤ 8) (hd : xd_D cc pc (.invokespecial ix) 3 pc1) (kk : xv G K nL Q cells slots n tau vi vl vr pc1 lv st) : xv G K nL Q cells slots n tau vi vl vr pc lv (xa_r k :: st) := by
  obtain ⟨p, l, e, R, s, m, args, below, meth, c⟩ := K
  obtain ⟨hx, hb, hml, hown, hts, hE, hB, hB0⟩ := hC
  obtain ⟨hd, rfl⟩ := hd
  intro H locs ls hR hS hl
  obtain ⟨r1, r2, r3, r4⟩ := hRm
  simp only [xk_R] at r1 r2 r3 r4
  have hw9 : ((st.map (xa_tr G)).map fun v => v.category).sum ≤ 8 := by
    rw [List.map_map, show ((fun v : Value => v.category) ∘ xa_tr G) = xa_c from funext fun v => xa_tr_c G v]
    exact hw8
  exact W.objInit hx hb hown (hts _ (hws _ (by simp))) (hts _ (hws _ (by simp))) (hts _ (hws _ (by simp))) rfl (by show ls.size = c.maxLocals; rw [hl.1]; exact hml.symm) rfl hd (by show 1 ≤ R.frames; omega) (by show 2 * 0 + _ + 12 ≤ R.locals; omega) (kk H locs ls hR hS hl)
theorem vx_iret (hC : xk_C G K cc own nL) {post : xm_T} {mc ms : Nat} {y : MethodName} {ty : FieldType} {x : Int} (hM : xk_M K y (some ty)) (hn : narrow ty (.int (Int32.ofInt x)) = .int (Int32.ofInt x)) (hd : xd_D cc pc .ireturn 1 pc1) (hp : post (some (xa_i x)) n tau vi vl vr) : xv G K nL (xk_Q G K post mc ms) mc ms n tau vi vl vr pc lv [xa_i x] := by
  obtain ⟨p, l, e, R, s, m, args, below, meth, c⟩ := K
  obtain ⟨hx, hb, hml, hown, hts, hE, hB, hB0⟩ := hC
  obtain ⟨hd, rfl⟩ := hd
  intro H locs ls hR hS hl
  exact W.zret hx hb hM.1 hn (fun t ht hW => ⟨⟨some (xa_i x), n, tau, vi, vl, vr, rfl, hp, by rw [ht]; exact hR⟩, by rw [ht]; exact hS.1⟩) hS.2.2 hd hM.2.1
theorem vx_lret (hC : xk_C G K cc own nL) {post : xm_T} {mc ms : Nat} {y : MethodName} {x : Int} (hM : xk_M K y (some .long)) (hd : xd_D cc pc .lreturn 1 pc1) (hp : post (some (xa_l x)) n tau vi vl vr) : xv G K nL (xk_Q G K post mc ms) mc ms n tau vi vl vr pc lv [xa_l x] := by
  obtain ⟨p, l, e, R, s, m, args, below, meth, c⟩ := K
  obtain ⟨hx, hb, hml, hown, hts, hE, hB, hB0⟩ := hC
  obtain ⟨hd, rfl⟩ := hd
  intro H locs ls hR hS hl
  exact W.lret hx hb hM.1 (fun t ht hW => ⟨⟨some (xa_l x), n, tau, vi, vl, vr, rfl, hp, by rw [ht]; exact hR⟩, by rw [ht]; exact hS.1⟩) hS.2.2 hd hM.2.1
theorem vx_vret (hC : xk_C G K cc own nL) {post : xm_T} {mc ms : Nat} {y : MethodName} (hM : xk_M K y none) (hd : xd_D cc pc .return_ 1 pc1) (hp : post none n tau vi vl vr) : xv G K nL (xk_Q G K post mc ms) mc ms n tau vi vl vr pc lv [] := by
  obtain ⟨p, l, e, R, s, m, args, below, meth, c⟩ := K
  obtain ⟨hx, hb, hml, hown, hts, hE, hB, hB0⟩ := hC
  obtain ⟨hd, rfl⟩ := hd
  intro H locs ls hR hS hl
  exact W.vret hx hb hM.1 (fun t ht hW => ⟨⟨none, n, tau, vi, vl, vr, rfl, hp, by rw [ht]; exact hR⟩, by rw [ht]; exact hS.1⟩) hS.2.2 hd hM.2.1
theorem vx_aret (hC : xk_C G K cc own nL) {post : xm_T} {mc ms : Nat} {y : MethodName} {rt : FieldType} {r : Option Nat} (hM : xk_M K y (some rt)) (hrt : (∃ n, rt = .object n) ∨ ∃ t, rt = .array t) (hd : xd_D cc pc .areturn 1 pc1) (hp : post (some (xa_q r)) n tau vi vl vr) : xv G K nL (xk_Q G K post mc ms) mc ms n tau vi vl vr pc lv [xa_q r] := by
  obtain ⟨p, l, e, R, s, m, args, below, meth, c⟩ := K
  obtain ⟨hx, hb, hml, hown, hts, hE, hB, hB0⟩ := hC
  obtain ⟨hd, rfl⟩ := hd
  intro H locs ls hR hS hl
  exact W.aret hx hb hM.1 hrt (by cases r with | none => exact Or.inl rfl | some k => exact Or.inr ⟨_, rfl⟩) (fun t ht hW => ⟨⟨some (xa_q r), n, tau, vi, vl, vr, rfl, hp, by rw [ht]; exact hR⟩, by rw [ht]; exact hS.1⟩) hS.2.2 hd hM.2.1
theorem vx_widen {k1 k2 : Nat} (h1 : cells ≤ k1) (h2 : slots ≤ k2) (kk : xv G K nL Q k1 k2 n tau vi vl vr pc lv st) : xv G K nL Q cells slots n tau vi vl vr pc lv st := fun H locs ls hR hS hl => W.widen h1 h2 (kk H locs ls hR hS hl)
end XV
