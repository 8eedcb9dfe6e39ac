/-! THE CLAIM OUT OF ONE WALK OF THE LAW'S BODY. Your part is whole_start (and what it stands on); all else here is the same for every law, but numbers. -/
def R_law : String := "LastPennyLaw"
def lw_P (b : Addr) (xs : List Int32) (args : Array Value) (s : State) : Prop := args = #[.ref b] ∧ s.IntsAt b xs ∧ xs.length ≤ 320 ∧ (Jvm.Cond.and given_1 narrow_1).before args s = true
def lw_Q (_ : Array Value) (s : State) (o : Outcome) (t : State) : Prop := o = .returned (some (.int 1)) ∧ Framed s o t [] 600000 7302250
def lw_Z (below : List Frame) (a : Array Value) (s : State) : State → Prop := fun t => ∃ o, t.status = .running ∧ Ended t below o ∧ lw_Q a s o t
/-- the law's own end, with 1 on the stack, nothing written that was there before, its room as the claim has it -/
theorem lw_ret {p : Program} {l : Launch} {e : Env} {s : State} {m : MethodId} {below : List Frame} {meth : Method} {c : Code} {b : Nat} (hx : p.tables.exec = Jvm.exec) (hb : c.code = code) (hr : meth.sig.returnType = ret) (hlocks : meth.locks = false) {pc : Nat} {H : Heap} {ls : Array Slot} (hdg : decode code pc = .ok (.ireturn, 1)) : W p l e room_1 s m #[Value.ref b] below meth c H [] 600000 7302250 (lw_Z below #[Value.ref b] s) (F0 m pc ls [.int 1]) := by
  intro T hT X
  obtain ⟨fs, hret, hrun, hended, hW, hframe⟩ := X.leave (v := some (.int 1)) (hlocks := hlocks) (fun h => by rw [hr] at h; cases h)
  have hmeth' : T.vm.method? m = some meth := X.method'
  refine ⟨T.setFrames fs, ?_, .returned (some (.int 1)), hrun, hended, rfl, ⟨_, rfl⟩, hW, hframe⟩
  jvm_step X.here [X.here.top, hx, hb, hdg, hmeth', hr, ret, narrow_b1]
  (try refine ⟨rfl, ?_⟩); (try refine ⟨rfl, ?_⟩)
  first | (intro acts; rw [hret _ acts rfl rfl rfl]) | rw [hret _ _ rfl rfl rfl]
  exact Steps.refl _
/-- what holds at the law's entry: the machine, the code, the tables' words (any of lw_tbl by 'hts w (by decide +kernel)'), the script of L ints xs at the cell b, what the Statement gives of the start (any of its parts by flat_of_before) -/
def lw_At (p : Program) (s : State) (m : MethodId) (meth : Method) (c : Code) (b L : Nat) (xs : Nat → Int32) : Prop :=
  p.tables.exec = Jvm.exec ∧ c.code = code ∧ meth.sig.returnType = ret ∧ c.maxLocals = 4 ∧ s.vm.findClass R_law = some m.cls ∧ (∀ w ∈ lw_tbl, w.before #[Value.ref b] s = true) ∧ va_X b L xs s s.heap ∧ b < s.heap.size ∧ meth.locks = false ∧ (Jvm.Cond.and given_1 narrow_1).before #[Value.ref b] s = true
set_option maxHeartbeats 4000000 in
set_option maxRecDepth 100000 in
theorem whole_start {p : Program} {e : Env} {s : State} {m : MethodId} {below : List Frame} {meth : Method} {c : Code} (l : Launch) {b L : Nat} {xs : Nat → Int32} (hL : L ≤ 320) (C0 : lw_At p s m meth c b L xs) : W p l e room_1 s m #[Value.ref b] below meth c s.heap [] 0 0 (lw_Z below #[Value.ref b] s) (entryFrame m ([Value.ref b] : List Value).toArray 4) := by
  obtain ⟨hx, hb, hr, hml, hown, hts, hX, hbl, hlocks, hgv⟩ := C0
  obtain ⟨G, hG1, hG2, hEv⟩ := xh_start hts hgv
  have hC : xk_C G (p, l, e, room_1, s, m, #[Value.ref b], below, meth, c) cL_law RL 4 := ⟨hx, hb, hml, hown, fun w hw => hts w (List.mem_filter.mp hw).1, hEv, (by show G.2.2.1.size ≤ s.heap.size; rw [hG1]; exact Nat.le_refl _), fun q _ => by show s.heap[q]? = G.2.2.1[q]?; rw [hG1]⟩
  have hX2 : va_X (G.2.2.2 19) L xs s s.heap := by rw [hG2]; exact hX
  have hbl2 : G.2.2.2 19 < s.heap.size := by rw [hG2]; exact hbl
  have hbA : ¬ xg_A G (G.2.2.2 19) := by
    show ¬ G.2.2.1.size ≤ G.2.2.2 19
    rw [hG1, hG2]
    exact Nat.not_le.mpr hbl
  have hRm : xk_Rm (p, l, e, room_1, s, m, #[Value.ref b], below, meth, c) 100 600000 7302250 := by
    show 100 ≤ room_1.frames ∧ 40 * 100 ≤ room_1.locals ∧ 600000 ≤ room_1.cells ∧ 7302250 ≤ room_1.slots
    decide
  have hend : ∀ (cells slots n : Nat) (tau : Nat → Nat × Nat) (vi vl : Nat → Int → Int) (vr : Nat → Int → Option Nat) (i : Int), cells ≤ 1000 → slots ≤ 100000 → xv G (p, l, e, room_1, s, m, #[Value.ref b], below, meth, c) 4 (lw_Z below #[Value.ref b] s) cells slots n tau vi vl vr 1157 [(0, xa_r 1000019), (1, xa_r 0), (2, xa_r 31), (3, xa_i i)] [] := by
    intro cells slots n tau vi vl vr i h1 h2
    refine vx_iconst hC eL_law_1157 ?_
    intro H locs ls hR hS hl
    show W p l e room_1 s m #[Value.ref b] below meth c H locs cells slots (lw_Z below #[Value.ref b] s) (F0 m 1158 ls [.int 1])
    refine va_forget (fun q hq => ?_) ?_
    · have h9 : G.2.2.1.size ≤ q.base := hS.2.2 q hq
      rw [hG1] at h9
      exact h9
    · refine W.widen (k := 600000) (n := 7302250) (by omega) (by omega) ?_
      exact lw_ret hx hb hr hlocks eL_law_1158.1
  have body : xv G (p, l, e, room_1, s, m, #[Value.ref b], below, meth, c) 4 (lw_Z below #[Value.ref b] s) 0 0 0 (fun _ => (0, 0)) (fun _ _ => 0) (fun _ _ => 0) (fun _ _ => none) 0 [(0, xa_r 1000019)] [] := by
    refine vx_new hC (ci := 11) rfl ln_L_7 (by omega) hRm (by omega) eL_law_0 ?_
    refine vx_hp (fun n1 t1 a1 b1 c1 hn1 ht1 ha1 hb1 hc1 => ?_)
    have ha1 := ha1.trans (xz_z rfl)
    have hb1 := hb1.trans (xz_z rfl)
    obtain rfl : n1 = 1 := by omega
    refine vx_dup hC rfl eL_law_3 ?_
    refine vx_callI_v hC (kX11_init G 0 _ _ _ _ _ 0 ⟨by omega, by rw [ht1, xz_s]⟩ (by omega) ha1 hb1) ly_L_9 rfl hRm (by omega) (Nat.le_of_ble_eq_true rfl) rfl eL_law_4 (fun n2 t2 a2 b2 c2 h2 => ?_)
    obtain ⟨hn2, ht2, rfl, rfl, hc2⟩ := h2
    obtain rfl : n2 = 31 := by omega
    refine vx_astore_n hC (lv1 := [(1, xa_r 0), (0, xa_r 1000019)]) (by decide) rfl eL_law_7 ?_
    refine vx_new hC (ci := 12) rfl ln_L_10 (by omega) hRm (by omega) eL_law_8 ?_
    refine vx_hp (fun n3 t3 a3 b3 c3 hn3 ht3 ha3 hb3 hc3 => ?_)
    have ha3 := (ha3.trans (xz_z ha1)).trans ha1
    have hb3 := (hb3.trans (xz_z hb1)).trans hb1
    obtain rfl : n3 = 32 := by omega
    refine vx_dup hC rfl eL_law_11 ?_
    refine vx_callI_v hC (kX12_init G 0 _ _ _ _ _ 31 ⟨by omega, by rw [ht3, xz_s]⟩ (by omega) ha3 hb3) ly_L_12 rfl hRm (by omega) (Nat.le_of_ble_eq_true rfl) rfl eL_law_12 (fun n4 t4 a4 b4 c4 h4 => ?_)
    obtain ⟨hn4, ht4, ha4, rfl, hc4⟩ := h4
    obtain rfl : n4 = 45 := by omega
    refine vx_astore_n hC (lv1 := [(2, xa_r 31), (1, xa_r 0), (0, xa_r 1000019)]) (by decide) rfl eL_law_15 ?_
    refine vx_iconst hC eL_law_16 ?_
    refine vx_istore_n hC (lv1 := [(3, xa_i 0), (2, xa_r 31), (1, xa_r 0), (0, xa_r 1000019)]) (by decide) rfl eL_law_17 ?_
    refine vx_lv (lv1 := [(0, xa_r 1000019), (1, xa_r 0), (2, xa_r 31), (3, xa_i 0)]) [3, 2, 1, 0] rfl ?_
    have eT : t4 = iT0 := by rw [ht4, ht3, ht2, ht1]; rfl
    have eC : c4 = iC0 := by rw [hc4, hc3, hc2, hc1]; rfl
    have eA : a4 = iA0 := by rw [ha4, ha3]; rfl
    have hLI : LI 45 t4 a4 c4 := by rw [eT, eC, eA]; exact LI_0
    exact lw_loop hC hX2 hbl2 hbA hRm hL hend 400 0 _ _ 45 t4 a4 _ c4 hLI (by omega) (by omega) (by omega) (by omega) (by omega) (by omega)
  have hR0 : xh_R G 0 (fun _ => (0, 0)) (fun _ _ => 0) (fun _ _ => 0) (fun _ _ => none) s.heap := by
    refine ⟨by omega, ?_, fun k q h => by simp [xe_W] at h, fun q _ => by rw [hG1]⟩
    show s.heap.size = G.2.2.1.size + 0
    rw [hG1]; rfl
  have hl := lv_entry ([.ref b]) (n := 4) (Nat.le_of_ble_eq_true rfl)
  rw [lg_entry_eq]
  generalize (lg_sl ([.ref b]) ++ List.replicate (4 - (lg_sl ([.ref b])).length) Slot.unset).toArray = ls at hl ⊢
  have hl1 : lv_has ls 4 [(0, .ref b)] := hl
  have hl2 : lv_has ls 4 (xl_m G [(0, xa_r 1000019)]) := by
    show lv_has ls 4 [(0, .ref (xg_ad G 1000019))]
    rw [show (1000019 : Nat) = 1000000 + 19 from rfl, xn_ad, hG2]
    exact hl1
  exact body s.heap [] ls hR0 va_S.rf hl2
