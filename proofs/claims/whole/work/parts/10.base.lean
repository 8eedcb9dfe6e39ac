/-! the world in mathematical numbers: values, heap, what a state of the machine must hold of them -/
abbrev xa_T : Type := Int ⊕ (Int ⊕ Option Nat)
abbrev xa_i (z : Int) : xa_T := .inl z
abbrev xa_l (z : Int) : xa_T := .inr (.inl z)
abbrev xa_q (r : Option Nat) : xa_T := .inr (.inr r)
abbrev xa_r (k : Nat) : xa_T := .inr (.inr (some k))
abbrev xa_n : xa_T := .inr (.inr none)
def xa_c : xa_T → Nat
  | .inr (.inl _) => 2
  | _ => 1
abbrev xg_T : Type := va_G × (Nat → ClassId) × Heap × (Nat → Nat)
abbrev xg_b (G : xg_T) : Nat := G.2.2.1.size
def xg_ad (G : xg_T) (k : Nat) : Nat := if k < 1000000 then xg_b G + k else G.2.2.2 (k - 1000000)
def xg_A (G : xg_T) : Nat → Prop := fun q => xg_b G ≤ q
def xa_tr (G : xg_T) : xa_T → Value
  | .inl z => .int (Int32.ofInt z)
  | .inr (.inl z) => .long (Int64.ofInt z)
  | .inr (.inr r) => va_rf (r.map (xg_ad G))
theorem xa_tr_c (G : xg_T) (v : xa_T) : (xa_tr G v).category = xa_c v := by
  rcases v with z | z | r
  · rfl
  · rfl
  · cases r <;> rfl
def xw_tbl : List Cond := lw_tbl.filter goodWord
theorem xw_good : GoodIn xw_tbl xw_tbl := fun _ hw => ⟨hw, good_of_word (List.mem_filter.mp hw).2⟩
theorem xw_in {w : Cond} (i : Nat) (h : lw_tbl[i]? = some w) (hg : goodWord w = true) : w ∈ xw_tbl := List.mem_filter.mpr ⟨List.mem_of_getElem? h, hg⟩
def xf_ty (ci : Nat) : Nat → FieldType := match ci with
  | 0 => tyX0 | 1 => tyX1 | 2 => tyX2 | 3 => tyX3 | 4 => tyX4 | 5 => tyX5 | 6 => tyX6 | 7 => tyX7 | 8 => tyX8 | 9 => tyX9 | 10 => tyX10 | 11 => tyX11 | _ => tyX12
def xf_n (ci : Nat) : Nat := match ci with
  | 0 => 4 | 1 => 4 | 2 => 12 | 3 => 4 | 4 => 4 | 5 => 9 | 6 => 12 | 7 => 4 | 8 => 4 | 9 => 4 | 10 => 4 | 11 => 6 | _ => 26
def xf_k (ty : FieldType) : Nat := match ty with
  | .long => 1
  | .object _ => 2
  | .array _ => 2
  | _ => 0
def xf_v (G : xg_T) (k : Nat) (i l : Int) (r : Option Nat) : Value := match k with
  | 0 => .int (Int32.ofInt i)
  | 1 => .long (Int64.ofInt l)
  | _ => va_rf (r.map (xg_ad G))
/-- what the cell k holds -/
def xe_E (G : xg_T) (tau : Nat → Nat × Nat) (vi vl : Nat → Int → Int) (vr : Nat → Int → Option Nat) (k : Nat) : va_E :=
  if (tau k).1 < 13 then .inr ((tau k).1, (List.range (xf_n (tau k).1)).map fun j => xf_v G (xf_k (xf_ty (tau k).1 j)) (vi k j) (vl k j) (vr k j))
  else if (tau k).1 = 15 then .inl (G.2.1 15, (tau k).2, .inr (.inl fun j => Int64.ofInt (vl k j)))
  else if (tau k).1 < 17 then .inl (G.2.1 (tau k).1, (tau k).2, .inl fun j => Int32.ofInt (vi k j))
  else .inl (G.2.1 (tau k).1, (tau k).2, .inr (.inr (.inr (.inr fun j => (vr k j).map (xg_ad G)))))
def xe_W (G : xg_T) (n : Nat) (tau : Nat → Nat × Nat) (vi vl : Nat → Int → Int) (vr : Nat → Int → Option Nat) : va_W := (List.range n).map fun k => (xg_b G + k, xe_E G tau vi vl vr k)
def xu {α : Type} (f : Nat → Int → α) (k : Nat) (z : Int) (x : α) : Nat → Int → α := fun a b => if a = k ∧ b = z then x else f a b
theorem xu_s {α : Type} (f : Nat → Int → α) (k : Nat) (z : Int) (x : α) : xu f k z x k z = x := by simp [xu]
theorem xu_n {α : Type} (f : Nat → Int → α) (k : Nat) (z : Int) (x : α) {a : Nat} {b : Int} (h : ¬ (a = k ∧ b = z)) : xu f k z x a b = f a b := by simp [xu, h]
/-- the heap holds it, and what lay there at the law's start lies there still -/
def xh_R (G : xg_T) (n : Nat) (tau : Nat → Nat × Nat) (vi vl : Nat → Int → Int) (vr : Nat → Int → Option Nat) (H : Heap) : Prop :=
  n ≤ 1000000 ∧ H.size = xg_b G + n ∧ va_P G.1 vwCl (xe_W G n tau vi vl vr) H ∧ ∀ q : Nat, q < xg_b G → H[q]? = G.2.2.1[q]?
theorem xe_get {G : xg_T} {n : Nat} {tau : Nat → Nat × Nat} {vi vl : Nat → Int → Int} {vr : Nat → Int → Option Nat} {k : Nat} (h : k < n) : (xe_W G n tau vi vl vr)[k]? = some (xg_b G + k, xe_E G tau vi vl vr k) := by
  simp [xe_W, h]
theorem xe_get' {G : xg_T} {n : Nat} {tau : Nat → Nat × Nat} {vi vl : Nat → Int → Int} {vr : Nat → Int → Option Nat} {k : Nat} {q : Nat × va_E} (h : (xe_W G n tau vi vl vr)[k]? = some q) : k < n ∧ q = (xg_b G + k, xe_E G tau vi vl vr k) := by
  have hk : k < n := by
    have := (List.getElem?_eq_some_iff.mp h).1
    simpa [xe_W] using this
  rw [xe_get hk] at h
  exact ⟨hk, (Option.some.inj h).symm⟩
theorem xe_D {G : xg_T} {n : Nat} {tau : Nat → Nat × Nat} {vi vl : Nat → Int → Int} {vr : Nat → Int → Option Nat} : va_D (xg_A G) (xe_W G n tau vi vl vr) := by
  refine ⟨fun i j p q hi hj e => ?_, fun k q hk => ?_⟩
  · obtain ⟨-, rfl⟩ := xe_get' hi
    obtain ⟨-, rfl⟩ := xe_get' hj
    have e : xg_b G + i = xg_b G + j := e
    omega
  · obtain ⟨-, rfl⟩ := xe_get' hk
    show xg_b G ≤ xg_b G + k
    omega
theorem xe_set {G : xg_T} {n : Nat} {tau tau' : Nat → Nat × Nat} {vi vl vi' vl' : Nat → Int → Int} {vr vr' : Nat → Int → Option Nat} {k : Nat} {e : va_E} (he : xe_E G tau' vi' vl' vr' k = e) (ho : ∀ j, j ≠ k → xe_E G tau' vi' vl' vr' j = xe_E G tau vi vl vr j) : (xe_W G n tau vi vl vr).set k (xg_b G + k, e) = xe_W G n tau' vi' vl' vr' := by
  subst he
  apply List.ext_getElem?
  intro j
  by_cases hj : j = k
  · subst hj
    by_cases hn : j < n
    · rw [xe_get hn, List.getElem?_set_self (by simpa [xe_W] using hn)]
    · rw [List.getElem?_eq_none (by simp [xe_W]; omega), List.getElem?_eq_none (by simp [xe_W]; omega)]
  · rw [List.getElem?_set_ne (fun h => hj h.symm)]
    by_cases hn : j < n
    · rw [xe_get hn, xe_get hn, ho j hj]
    · rw [List.getElem?_eq_none (by simp [xe_W]; omega), List.getElem?_eq_none (by simp [xe_W]; omega)]
theorem xe_push {G : xg_T} {n : Nat} {tau tau' : Nat → Nat × Nat} {vi vl vi' vl' : Nat → Int → Int} {vr vr' : Nat → Int → Option Nat} {e : va_E} (he : xe_E G tau' vi' vl' vr' n = e) (ho : ∀ j, j < n → xe_E G tau' vi' vl' vr' j = xe_E G tau vi vl vr j) : xe_W G n tau vi vl vr ++ [(xg_b G + n, e)] = xe_W G (n + 1) tau' vi' vl' vr' := by
  subst he
  unfold xe_W
  rw [List.range_succ, List.map_append]
  congr 1
  apply List.map_congr_left
  intro j hj
  rw [ho j (List.mem_range.mp hj)]
/-- what the tables and the cells that nobody writes give -/
def xw_tys (G : xg_T) : List (ClassId × FieldType) := [(G.2.1 13, .byte), (G.2.1 14, .int), (G.2.1 15, .long), (G.2.1 16, .boolean), (G.2.1 17, .object RX4), (G.2.1 18, .object RX8)]
def xw_sites : List (String × Nat × String × Nat) := [("LastPenny$Reader", 99, "ilt ", 0), ("LastPenny$Reader", 105, "an ", 1), ("LastPenny$Reader", 107, "imit ", 2), ("LastPenny$Reader", 80, "0123456789", 3), ("LastPenny$Reader", 119, "nkpgsd", 4), ("LastPenny$Reader", 121, "<=>", 5), ("LastPennyModel", 121, "ean ", 6), ("LastPennyModel", 103, "nkpgsd", 4), ("LastPennyModel", 109, "<=>", 5), ("LastPennyModel", 127, "imit ", 2), ("LastPennyModel", 132, "tilt ", 7)]
/-- the texts' bytes -/
def xw_byt : List (List Int) := [[105, 108, 116, 32], [97, 110, 32], [105, 109, 105, 116, 32], [48, 49, 50, 51, 52, 53, 54, 55, 56, 57], [110, 107, 112, 103, 115, 100], [60, 61, 62], [101, 97, 110, 32], [116, 105, 108, 116, 32]]
def xw_cast : List (String × String) := [(RX3, RX0), (RX1, RX9), (RX10, RX7), (RX0, RX4), (RX9, RX4), (RX7, RX4), (RX3, RX4), (RX1, RX4), (RX10, RX4)]
def xw_nest : List (String × Nat × MethodName × String) := [(RX11, 11, yX6_init, RX11), (RX11, 23, yX2_init, RX11), (RX11, 30, yX5_init, RX11)]
def xw_nc : List (String × String) := [RX0, RX9, RX7, RX3, RX1, RX10, RX4].flatMap fun a => ([RX0, RX9, RX7, RX3, RX1, RX10].filter fun b => !(a == b) && !(xw_cast.contains (a, b))).map fun b => (a, b)
def xh_Ev (G : xg_T) (U : State) : Prop :=
  va_K G.1 vwCl (xw_tys G) U ∧ (∀ q ∈ xw_cast, va_Nw (.castable q.1 q.2) U) ∧ (∀ q ∈ xw_nest, va_Nw (.methodLinkNest q.1 q.2.1 q.2.2.1 q.2.2.2) U) ∧ (∀ q ∈ xw_nc, va_Nc q.1 q.2 U) ∧ (va_AO RX4 U ∧ va_AO RX8 U) ∧
  (∀ q ∈ xw_sites, vk_R q.1 q.2.1 q.2.2.1 (G.2.2.2 (2 + q.2.2.2)) U) ∧
  (va_Z "LastPenny$Chances" "GIVERS" "[I" (.ref (G.2.2.2 0)) (xg_A G) U G.2.2.1 ∧ va_Z "LastPenny$Chances" "TAKERS" "[I" (.ref (G.2.2.2 1)) (xg_A G) U G.2.2.1 ∧ va_Z "java/lang/String" "COMPACT_STRINGS" "Z" (.int 1) (xg_A G) U G.2.2.1 ∧ (va_Z "jdk/internal/util/Preconditions" "SIOOBE_FORMATTER" "Ljava/util/function/BiFunction;" .null (xg_A G) U G.2.2.1 ∨ va_Z "jdk/internal/util/Preconditions" "SIOOBE_FORMATTER" "Ljava/util/function/BiFunction;" (.ref (G.2.2.2 18)) (xg_A G) U G.2.2.1)) ∧
  (va_T .int (G.2.2.2 0) 6 (fun j => .int (Int32.ofInt (([0, 0, 1, 1, 2, 2] : List Int).getD j 0))) (xg_A G) U G.2.2.1 ∧ va_T .int (G.2.2.2 1) 6 (fun j => .int (Int32.ofInt (([1, 2, 0, 2, 0, 1] : List Int).getD j 0))) (xg_A G) U G.2.2.1) ∧
  (∀ i : Nat, i < 8 → va_O "java/lang/String" (G.2.2.2 (2 + i)) (xg_A G) U G.2.2.1 ∧ va_OF "java/lang/String" "coder" "B" (.int 0) (G.2.2.2 (2 + i)) (xg_A G) U G.2.2.1 ∧ va_OF "java/lang/String" "value" "[B" (.ref (G.2.2.2 (10 + i))) (G.2.2.2 (2 + i)) (xg_A G) U G.2.2.1 ∧ va_T .byte (G.2.2.2 (10 + i)) (xw_byt.getD i []).length (fun j => .int (Int32.ofInt ((xw_byt.getD i []).getD j 0))) (xg_A G) U G.2.2.1)
theorem xh_Ev.moved {G : xg_T} {u U : State} (hv : u.vm.Alike U.vm) (hn : ∀ (q : String × Nat × MethodName × String), va_Nw (.methodLinkNest q.1 q.2.1 q.2.2.1 q.2.2.2) u → va_Nw (.methodLinkNest q.1 q.2.1 q.2.2.1 q.2.2.2) U) (hc : ∀ q : String × String, va_Nw (.castable q.1 q.2) u → va_Nw (.castable q.1 q.2) U) (hk : ∀ (a : String) (i : Nat) (t : String) (k : Nat), vk_R a i t k u → vk_R a i t k U) (h : xh_Ev G u) : xh_Ev G U := by
  obtain ⟨h1, h2, h3, h4, ⟨h5, h5b⟩, h6, ⟨h7, h8, h9, h9b⟩, ⟨h10, h11⟩, h12⟩ := h
  exact ⟨h1.moved hv, fun q hq => hc q (h2 q hq), fun q hq => hn q (h3 q hq), fun q hq => (h4 q hq).moved hv, ⟨h5.moved hv, h5b.moved hv⟩, fun q hq => hk _ _ _ _ (h6 q hq), ⟨h7.moved hv, h8.moved hv, h9.moved hv, h9b.imp (fun h => h.moved hv) (fun h => h.moved hv)⟩, ⟨h10.moved hv, h11.moved hv⟩, fun i hi => ⟨(h12 i hi).1.moved hv, (h12 i hi).2.1.moved hv, (h12 i hi).2.2.1.moved hv, (h12 i hi).2.2.2.moved hv⟩⟩
theorem xh_Ev.warm {G : xg_T} {u U : State} (hW : u.WarmedH U.vm) (h : xh_Ev G u) : xh_Ev G U :=
  xh_Ev.moved hW.alike (fun _ h => va_Nw.warmM hW h) (fun _ h => va_Nw.warmC hW h) (fun _ _ _ _ h => vk_R.warm hW h) h
theorem xh_Ev.same {G : xg_T} {u U : State} (hv : u.vm = U.vm) (h : xh_Ev G u) : xh_Ev G U :=
  xh_Ev.moved (by rw [hv]; exact Vm.Alike.refl _) (fun _ h => va_Nw.same rfl hv h) (fun _ h => va_Nw.same rfl hv h) (fun _ _ _ _ h => vk_R.same hv.symm h) h
/-- the machine's own things of a method's run -/
abbrev xk_T : Type := Program × Launch × Env × Room × State × MethodId × Array Value × List Frame × Method × Code
def xk_W (K : xk_T) (H : Heap) (locs : List Loc) (cells slots : Nat) (Q : State → Prop) (pc : Nat) (ls : Array Slot) (st : List Value) : Prop :=
  W K.1 K.2.1 K.2.2.1 K.2.2.2.1 K.2.2.2.2.1 K.2.2.2.2.2.1 K.2.2.2.2.2.2.1 K.2.2.2.2.2.2.2.1 K.2.2.2.2.2.2.2.2.1 K.2.2.2.2.2.2.2.2.2 H locs cells slots Q (F0 K.2.2.2.2.2.1 pc ls st)
abbrev xk_s (K : xk_T) : State := K.2.2.2.2.1
abbrev xk_R (K : xk_T) : Room := K.2.2.2.1
def xk_C (G : xg_T) (K : xk_T) (cc : ByteArray) (own : String) (nL : Nat) : Prop :=
  K.1.tables.exec = Jvm.exec ∧ K.2.2.2.2.2.2.2.2.2.code = cc ∧ K.2.2.2.2.2.2.2.2.2.maxLocals = nL ∧ (xk_s K).vm.findClass own = some K.2.2.2.2.2.1.cls ∧ (∀ w ∈ xw_tbl, w.before K.2.2.2.2.2.2.1 (xk_s K) = true) ∧ xh_Ev G (xk_s K) ∧ xg_b G ≤ (xk_s K).heap.size ∧ ∀ q : Nat, q < xg_b G → (xk_s K).heap[q]? = G.2.2.1[q]?
def xl_m (G : xg_T) (lv : List (Nat × xa_T)) : List (Nat × Value) := lv.map fun q => (q.1, xa_tr G q.2)
/-- from here the machine comes to Q, whatever cells represent this world -/
def xv (G : xg_T) (K : xk_T) (nL : Nat) (Q : State → Prop) (cells slots n : Nat) (tau : Nat → Nat × Nat) (vi vl : Nat → Int → Int) (vr : Nat → Int → Option Nat) (pc : Nat) (lv : List (Nat × xa_T)) (st : List xa_T) : Prop :=
  ∀ (H : Heap) (locs : List Loc) (ls : Array Slot), xh_R G n tau vi vl vr H → va_S (xg_A G) (xk_s K).heap H locs → lv_has ls nL (xl_m G lv) → xk_W K H locs cells slots Q pc ls (st.map (xa_tr G))
/-- an instruction, and the place behind it -/
def xd_D (cc : ByteArray) (pc : Nat) (i : Instr) (len pc' : Nat) : Prop := decode cc pc = .ok (i, len) ∧ pc + len = pc'
def xl_s (lv : List (Nat × xa_T)) (i : Nat) (v : xa_T) : List (Nat × xa_T) := (i, v) :: lv.filter (fun q => !(q.1 == i) && !(q.1 + 1 == i && xa_c q.2 == 2))
def xl_sl (lv : List (Nat × xa_T)) (i : Nat) (v : xa_T) : List (Nat × xa_T) := (i, v) :: lv.filter (fun q => !(q.1 == i) && (!(q.1 == i + 1) && !(q.1 + 1 == i && xa_c q.2 == 2)))
theorem xl_m_s (G : xg_T) (lv : List (Nat × xa_T)) (i : Nat) (v : xa_T) : (i, xa_tr G v) :: (xl_m G lv).filter (fun q => !(q.1 == i) && !(q.1 + 1 == i && q.2.category == 2)) = xl_m G (xl_s lv i v) := by
  unfold xl_m xl_s
  rw [List.filter_map, List.map_cons]
  congr 3
  funext q
  simp [Function.comp, xa_tr_c]
theorem xl_m_sl (G : xg_T) (lv : List (Nat × xa_T)) (i : Nat) (v : xa_T) : (i, xa_tr G v) :: (xl_m G lv).filter (fun q => !(q.1 == i) && (!(q.1 == i + 1) && !(q.1 + 1 == i && q.2.category == 2))) = xl_m G (xl_sl lv i v) := by
  unfold xl_m xl_sl
  rw [List.filter_map, List.map_cons]
  congr 3
  funext q
  simp [Function.comp, xa_tr_c]
theorem xl_at {G : xg_T} {ls : Array Slot} {nL : Nat} {lv : List (Nat × xa_T)} (h : lv_has ls nL (xl_m G lv)) {k i : Nat} {v : xa_T} (hk : lv[k]? = some (i, v)) : ls[i]? = some (.val (xa_tr G v)) := by
  refine lv_at h k ?_
  simp [xl_m, hk]
theorem xn_t {x : Int} (h1 : -2147483648 ≤ x) (h2 : x < 2147483648) : (Int32.ofInt x).toInt = x := Int32.toInt_ofInt_of_le (by omega) (by omega)
theorem xn_tl {x : Int} (h1 : -9223372036854775808 ≤ x) (h2 : x < 9223372036854775808) : (Int64.ofInt x).toInt = x := Int64.toInt_ofInt_of_le (by omega) (by omega)
theorem xn_lt {x y : Int} (h : -2147483648 ≤ x ∧ x < 2147483648 ∧ -2147483648 ≤ y ∧ y < 2147483648) : Int32.ofInt x < Int32.ofInt y ↔ x < y := by
  rw [Int32.lt_iff_toInt_lt, xn_t h.1 h.2.1, xn_t h.2.2.1 h.2.2.2]
theorem xn_le {x y : Int} (h : -2147483648 ≤ x ∧ x < 2147483648 ∧ -2147483648 ≤ y ∧ y < 2147483648) : Int32.ofInt x ≤ Int32.ofInt y ↔ x ≤ y := by
  rw [Int32.le_iff_toInt_le, xn_t h.1 h.2.1, xn_t h.2.2.1 h.2.2.2]
theorem xn_eq {x y : Int} (h : -2147483648 ≤ x ∧ x < 2147483648 ∧ -2147483648 ≤ y ∧ y < 2147483648) : Int32.ofInt x = Int32.ofInt y ↔ x = y := by
  rw [← Int32.toInt_inj, xn_t h.1 h.2.1, xn_t h.2.2.1 h.2.2.2]
theorem xn_0 : Int32.ofInt 0 = 0 := rfl
theorem xn_in {z : Int} {n : Nat} (h1 : 0 ≤ z) (h2 : z < n) (hn : n < 2147483648) : vp_in (Int32.ofInt z) n ∧ (Int32.ofInt z).toNatClampNeg = z.toNat := by
  have e := xn_t (x := z) (by omega) (by omega)
  have e2 : (Int32.ofInt z).toNatClampNeg = z.toNat := by show (Int32.ofInt z).toInt.toNat = _; rw [e]
  refine ⟨?_, e2⟩
  unfold vp_in
  rw [e2, show (0 : Int32) = Int32.ofInt 0 from rfl, xn_lt ⟨by omega, by omega, by omega, by omega⟩]
  omega

section XV
variable {G : xg_T} {K : xk_T} {cc : ByteArray} {own : String} {nL : Nat} {Q : State → Prop} {cells slots n : Nat} {tau : Nat → Nat × Nat} {vi vl : Nat → Int → Int} {vr : Nat → Int → Option Nat} {pc pc1 : Nat} {lv : List (Nat × xa_T)} {st : List xa_T}
theorem vx_iconst (hC : xk_C G K cc own nL) {z : Int} (hd : xd_D cc pc (.iconst z) 1 pc1) (k : xv G K nL Q cells slots n tau vi vl vr pc1 lv (xa_i z :: st)) : xv G K nL Q cells slots n tau vi vl vr pc lv st := by
  obtain ⟨p, l, e, R, s, m, args, below, meth, c⟩ := K
  obtain ⟨hx, hb, hml, hown, hts, hE, hB, hB0⟩ := hC
  obtain ⟨hd, rfl⟩ := hd
  intro H locs ls hR hS hl
  exact lv_iconst hx hb hd rfl (k H locs ls hR hS hl)
theorem vx_bipush (hC : xk_C G K cc own nL) {z : Int} (hz : (Int8.ofInt z).toInt32 = Int32.ofInt z) (hd : xd_D cc pc (.bipush z) 2 pc1) (k : xv G K nL Q cells slots n tau vi vl vr pc1 lv (xa_i z :: st)) : xv G K nL Q cells slots n tau vi vl vr pc lv st := by
  obtain ⟨p, l, e, R, s, m, args, below, meth, c⟩ := K
  obtain ⟨hx, hb, hml, hown, hts, hE, hB, hB0⟩ := hC
  obtain ⟨hd, rfl⟩ := hd
  intro H locs ls hR hS hl
  exact lv_bipush hx hb hd hz (k H locs ls hR hS hl)
theorem vx_sipush (hC : xk_C G K cc own nL) {z : Int} (hz : (Int16.ofInt z).toInt32 = Int32.ofInt z) (hd : xd_D cc pc (.sipush z) 3 pc1) (k : xv G K nL Q cells slots n tau vi vl vr pc1 lv (xa_i z :: st)) : xv G K nL Q cells slots n tau vi vl vr pc lv st := by
  obtain ⟨p, l, e, R, s, m, args, below, meth, c⟩ := K
  obtain ⟨hx, hb, hml, hown, hts, hE, hB, hB0⟩ := hC
  obtain ⟨hd, rfl⟩ := hd
  intro H locs ls hR hS hl
  exact lv_sipush hx hb hd hz (k H locs ls hR hS hl)
theorem vx_lconst (hC : xk_C G K cc own nL) {f : Fin 2} (z : Int) (hz : Int64.ofNat (f : Nat) = Int64.ofInt z) (hd : xd_D cc pc (.lconst f) 1 pc1) (k : xv G K nL Q cells slots n tau vi vl vr pc1 lv (xa_l z :: st)) : xv G K nL Q cells slots n tau vi vl vr pc lv st := by
  obtain ⟨p, l, e, R, s, m, args, below, meth, c⟩ := K
  obtain ⟨hx, hb, hml, hown, hts, hE, hB, hB0⟩ := hC
  obtain ⟨hd, rfl⟩ := hd
  intro H locs ls hR hS hl
  exact lv_lconst hx hb hd hz (k H locs ls hR hS hl)
theorem vx_null (hC : xk_C G K cc own nL) (hd : xd_D cc pc .aconst_null 1 pc1) (k : xv G K nL Q cells slots n tau vi vl vr pc1 lv (xa_n :: st)) : xv G K nL Q cells slots n tau vi vl vr pc lv st := by
  obtain ⟨p, l, e, R, s, m, args, below, meth, c⟩ := K
  obtain ⟨hx, hb, hml, hown, hts, hE, hB, hB0⟩ := hC
  obtain ⟨hd, rfl⟩ := hd
  intro H locs ls hR hS hl
  exact lv_null hx hb hd (k H locs ls hR hS hl)
theorem vx_ldc2 (hC : xk_C G K cc own nL) {ix : Nat} (z : Int) (hw : Cond.constantLong own ix (Int64.ofInt z) ∈ xw_tbl) (hd : xd_D cc pc (.ldc2_w ix) 3 pc1) (k : xv G K nL Q cells slots n tau vi vl vr pc1 lv (xa_l z :: st)) : xv G K nL Q cells slots n tau vi vl vr pc lv st := by
  obtain ⟨p, l, e, R, s, m, args, below, meth, c⟩ := K
  obtain ⟨hx, hb, hml, hown, hts, hE, hB, hB0⟩ := hC
  obtain ⟨hd, rfl⟩ := hd
  intro H locs ls hR hS hl
  exact lv_ldc2 hx hb hown (hts _ hw) hd (k H locs ls hR hS hl)
theorem vx_ldc (hC : xk_C G K cc own nL) {ix : Nat} (z : Int) (hw : Cond.constant own ix (Int32.ofInt z) ∈ xw_tbl) (hd : xd_D cc pc (.ldc ix) 2 pc1) (k : xv G K nL Q cells slots n tau vi vl vr pc1 lv (xa_i z :: st)) : xv G K nL Q cells slots n tau vi vl vr pc lv st := by
  obtain ⟨p, l, e, R, s, m, args, below, meth, c⟩ := K
  obtain ⟨hx, hb, hml, hown, hts, hE, hB, hB0⟩ := hC
  obtain ⟨hd, rfl⟩ := hd
  intro H locs ls hR hS hl
  exact lv_ldc hx hb hown (hts _ hw) hd (k H locs ls hR hS hl)
theorem vx_iload_n (hC : xk_C G K cc own nL) {f : Fin 4} {x : Int} (q : Nat) (hq : lv[q]? = some ((f : Nat), xa_i x)) (hd : xd_D cc pc (.iload_n f) 1 pc1) (k : xv G K nL Q cells slots n tau vi vl vr pc1 lv (xa_i x :: st)) : xv G K nL Q cells slots n tau vi vl vr pc lv st := by
  obtain ⟨p, l, e, R, s, m, args, below, meth, c⟩ := K
  obtain ⟨hx, hb, hml, hown, hts, hE, hB, hB0⟩ := hC
  obtain ⟨hd, rfl⟩ := hd
  intro H locs ls hR hS hl
  exact lv_iload_n hx hb hd rfl (xl_at hl hq) (k H locs ls hR hS hl)
theorem vx_iload (hC : xk_C G K cc own nL) {i : Nat} {x : Int} (q : Nat) (hq : lv[q]? = some (i, xa_i x)) (hd : xd_D cc pc (.iload i) 2 pc1) (k : xv G K nL Q cells slots n tau vi vl vr pc1 lv (xa_i x :: st)) : xv G K nL Q cells slots n tau vi vl vr pc lv st := by
  obtain ⟨p, l, e, R, s, m, args, below, meth, c⟩ := K
  obtain ⟨hx, hb, hml, hown, hts, hE, hB, hB0⟩ := hC
  obtain ⟨hd, rfl⟩ := hd
  intro H locs ls hR hS hl
  exact lv_iload hx hb hd (xl_at hl hq) (k H locs ls hR hS hl)
theorem vx_lload_n (hC : xk_C G K cc own nL) {f : Fin 4} {x : Int} (q : Nat) (hq : lv[q]? = some ((f : Nat), xa_l x)) (hd : xd_D cc pc (.lload_n f) 1 pc1) (k : xv G K nL Q cells slots n tau vi vl vr pc1 lv (xa_l x :: st)) : xv G K nL Q cells slots n tau vi vl vr pc lv st := by
  obtain ⟨p, l, e, R, s, m, args, below, meth, c⟩ := K
  obtain ⟨hx, hb, hml, hown, hts, hE, hB, hB0⟩ := hC
  obtain ⟨hd, rfl⟩ := hd
  intro H locs ls hR hS hl
  exact lv_lload_n hx hb hd rfl (xl_at hl hq) (k H locs ls hR hS hl)
theorem vx_lload (hC : xk_C G K cc own nL) {i : Nat} {x : Int} (q : Nat) (hq : lv[q]? = some (i, xa_l x)) (hd : xd_D cc pc (.lload i) 2 pc1) (k : xv G K nL Q cells slots n tau vi vl vr pc1 lv (xa_l x :: st)) : xv G K nL Q cells slots n tau vi vl vr pc lv st := by
  obtain ⟨p, l, e, R, s, m, args, below, meth, c⟩ := K
  obtain ⟨hx, hb, hml, hown, hts, hE, hB, hB0⟩ := hC
  obtain ⟨hd, rfl⟩ := hd
  intro H locs ls hR hS hl
  exact lv_lload hx hb hd (xl_at hl hq) (k H locs ls hR hS hl)
theorem vx_aload_n (hC : xk_C G K cc own nL) {f : Fin 4} {x : Option Nat} (q : Nat) (hq : lv[q]? = some ((f : Nat), xa_q x)) (hd : xd_D cc pc (.aload_n f) 1 pc1) (k : xv G K nL Q cells slots n tau vi vl vr pc1 lv (xa_q x :: st)) : xv G K nL Q cells slots n tau vi vl vr pc lv st := by
  obtain ⟨p, l, e, R, s, m, args, below, meth, c⟩ := K
  obtain ⟨hx, hb, hml, hown, hts, hE, hB, hB0⟩ := hC
  obtain ⟨hd, rfl⟩ := hd
  intro H locs ls hR hS hl
  cases x with
  | none => exact lv_aload_nN hx hb hd rfl (xl_at hl hq) (k H locs ls hR hS hl)
  | some x => exact lv_aload_n hx hb hd rfl (xl_at hl hq) (k H locs ls hR hS hl)
theorem vx_aload (hC : xk_C G K cc own nL) {i : Nat} {x : Option Nat} (q : Nat) (hq : lv[q]? = some (i, xa_q x)) (hd : xd_D cc pc (.aload i) 2 pc1) (k : xv G K nL Q cells slots n tau vi vl vr pc1 lv (xa_q x :: st)) : xv G K nL Q cells slots n tau vi vl vr pc lv st := by
  obtain ⟨p, l, e, R, s, m, args, below, meth, c⟩ := K
  obtain ⟨hx, hb, hml, hown, hts, hE, hB, hB0⟩ := hC
  obtain ⟨hd, rfl⟩ := hd
  intro H locs ls hR hS hl
  cases x with
  | none => exact lv_aloadN hx hb hd (xl_at hl hq) (k H locs ls hR hS hl)
  | some x => exact lv_aload hx hb hd (xl_at hl hq) (k H locs ls hR hS hl)
theorem vx_istore_n (hC : xk_C G K cc own nL) {f : Fin 4} {x : Int} {lv1 : List (Nat × xa_T)} (hn : (f : Nat) < nL) (hs : xl_s lv (f : Nat) (xa_i x) = lv1) (hd : xd_D cc pc (.istore_n f) 1 pc1) (k : xv G K nL Q cells slots n tau vi vl vr pc1 lv1 st) : xv G K nL Q cells slots n tau vi vl vr pc lv (xa_i x :: st) := by
  obtain ⟨p, l, e, R, s, m, args, below, meth, c⟩ := K
  obtain ⟨hx, hb, hml, hown, hts, hE, hB, hB0⟩ := hC
  obtain ⟨hd, rfl⟩ := hd
  intro H locs ls hR hS hl
  subst hs
  exact lv_istore_n hx hb hd rfl hl hn (xl_m_s G lv _ (xa_i x)) (fun ls h => k H locs ls hR hS h)
theorem vx_lstore_n (hC : xk_C G K cc own nL) {f : Fin 4} {x : Int} {lv1 : List (Nat × xa_T)} (hn : (f : Nat) + 1 < nL) (hs : xl_sl lv (f : Nat) (xa_l x) = lv1) (hd : xd_D cc pc (.lstore_n f) 1 pc1) (k : xv G K nL Q cells slots n tau vi vl vr pc1 lv1 st) : xv G K nL Q cells slots n tau vi vl vr pc lv (xa_l x :: st) := by
  obtain ⟨p, l, e, R, s, m, args, below, meth, c⟩ := K
  obtain ⟨hx, hb, hml, hown, hts, hE, hB, hB0⟩ := hC
  obtain ⟨hd, rfl⟩ := hd
  intro H locs ls hR hS hl
  subst hs
  exact lv_lstore_n hx hb hd rfl hl hn (xl_m_sl G lv _ (xa_l x)) (fun ls h => k H locs ls hR hS h)
theorem vx_astore_n (hC : xk_C G K cc own nL) {f : Fin 4} {x : Option Nat} {lv1 : List (Nat × xa_T)} (hn : (f : Nat) < nL) (hs : xl_s lv (f : Nat) (xa_q x) = lv1) (hd : xd_D cc pc (.astore_n f) 1 pc1) (k : xv G K nL Q cells slots n tau vi vl vr pc1 lv1 st) : xv G K nL Q cells slots n tau vi vl vr pc lv (xa_q x :: st) := by
  obtain ⟨p, l, e, R, s, m, args, below, meth, c⟩ := K
  obtain ⟨hx, hb, hml, hown, hts, hE, hB, hB0⟩ := hC
  obtain ⟨hd, rfl⟩ := hd
  intro H locs ls hR hS hl
  subst hs
  cases x with
  | none => exact lv_astore_nN hx hb hd rfl hl hn (xl_m_s G lv _ xa_n) (fun ls h => k H locs ls hR hS h)
  | some x => exact lv_astore_n hx hb hd rfl hl hn (xl_m_s G lv _ (xa_r x)) (fun ls h => k H locs ls hR hS h)
theorem vx_istore (hC : xk_C G K cc own nL) {i : Nat} {x : Int} {lv1 : List (Nat × xa_T)} (hn : i < nL) (hs : xl_s lv i (xa_i x) = lv1) (hd : xd_D cc pc (.istore i) 2 pc1) (k : xv G K nL Q cells slots n tau vi vl vr pc1 lv1 st) : xv G K nL Q cells slots n tau vi vl vr pc lv (xa_i x :: st) := by
  obtain ⟨p, l, e, R, s, m, args, below, meth, c⟩ := K
  obtain ⟨hx, hb, hml, hown, hts, hE, hB, hB0⟩ := hC
  obtain ⟨hd, rfl⟩ := hd
  intro H locs ls hR hS hl
  subst hs
  exact lv_istore hx hb hd hl hn (xl_m_s G lv _ (xa_i x)) (fun ls h => k H locs ls hR hS h)
theorem vx_lstore (hC : xk_C G K cc own nL) {i : Nat} {x : Int} {lv1 : List (Nat × xa_T)} (hn : i + 1 < nL) (hs : xl_sl lv i (xa_l x) = lv1) (hd : xd_D cc pc (.lstore i) 2 pc1) (k : xv G K nL Q cells slots n tau vi vl vr pc1 lv1 st) : xv G K nL Q cells slots n tau vi vl vr pc lv (xa_l x :: st) := by
  obtain ⟨p, l, e, R, s, m, args, below, meth, c⟩ := K
  obtain ⟨hx, hb, hml, hown, hts, hE, hB, hB0⟩ := hC
  obtain ⟨hd, rfl⟩ := hd
  intro H locs ls hR hS hl
  subst hs
  exact lv_lstore hx hb hd hl hn (xl_m_sl G lv _ (xa_l x)) (fun ls h => k H locs ls hR hS h)
theorem vx_astore (hC : xk_C G K cc own nL) {i : Nat} {x : Option Nat} {lv1 : List (Nat × xa_T)} (hn : i < nL) (hs : xl_s lv i (xa_q x) = lv1) (hd : xd_D cc pc (.astore i) 2 pc1) (k : xv G K nL Q cells slots n tau vi vl vr pc1 lv1 st) : xv G K nL Q cells slots n tau vi vl vr pc lv (xa_q x :: st) := by
  obtain ⟨p, l, e, R, s, m, args, below, meth, c⟩ := K
  obtain ⟨hx, hb, hml, hown, hts, hE, hB, hB0⟩ := hC
  obtain ⟨hd, rfl⟩ := hd
  intro H locs ls hR hS hl
  subst hs
  cases x with
  | none => exact lv_astoreN hx hb hd hl hn (xl_m_s G lv _ xa_n) (fun ls h => k H locs ls hR hS h)
  | some x => exact lv_astore hx hb hd hl hn (xl_m_s G lv _ (xa_r x)) (fun ls h => k H locs ls hR hS h)
theorem vx_iinc (hC : xk_C G K cc own nL) {i : Nat} {z x : Int} {lv1 : List (Nat × xa_T)} (q : Nat) (hq : lv[q]? = some (i, xa_i x)) (hn : i < nL) (hs : xl_s lv i (xa_i (x + z)) = lv1) (hd : xd_D cc pc (.iinc i z) 3 pc1) (k : xv G K nL Q cells slots n tau vi vl vr pc1 lv1 st) : xv G K nL Q cells slots n tau vi vl vr pc lv st := by
  obtain ⟨p, l, e, R, s, m, args, below, meth, c⟩ := K
  obtain ⟨hx, hb, hml, hown, hts, hE, hB, hB0⟩ := hC
  obtain ⟨hd, rfl⟩ := hd
  intro H locs ls hR hS hl
  subst hs
  exact lv_iinc (k := q) (x := Int32.ofInt x) (v := Int32.ofInt (x + z)) hx hb hd hl (by simp [xl_m, hq, xa_tr]) (by rw [Int32.ofInt_add]) hn (xl_m_s G lv _ (xa_i (x + z))) (fun ls h => k H locs ls hR hS h)
theorem vx_iadd (hC : xk_C G K cc own nL) {x y : Int} (hd : xd_D cc pc .iadd 1 pc1) (k : xv G K nL Q cells slots n tau vi vl vr pc1 lv (xa_i (x + y) :: st)) : xv G K nL Q cells slots n tau vi vl vr pc lv (xa_i y :: xa_i x :: st) := by
  obtain ⟨p, l, e, R, s, m, args, below, meth, c⟩ := K
  obtain ⟨hx, hb, hml, hown, hts, hE, hB, hB0⟩ := hC
  obtain ⟨hd, rfl⟩ := hd
  intro H locs ls hR hS hl
  refine lv_iadd hx hb hd ?_
  rw [← Int32.ofInt_add]
  exact k H locs ls hR hS hl
theorem vx_ladd (hC : xk_C G K cc own nL) {x y : Int} (hd : xd_D cc pc .ladd 1 pc1) (k : xv G K nL Q cells slots n tau vi vl vr pc1 lv (xa_l (x + y) :: st)) : xv G K nL Q cells slots n tau vi vl vr pc lv (xa_l y :: xa_l x :: st) := by
  obtain ⟨p, l, e, R, s, m, args, below, meth, c⟩ := K
  obtain ⟨hx, hb, hml, hown, hts, hE, hB, hB0⟩ := hC
  obtain ⟨hd, rfl⟩ := hd
  intro H locs ls hR hS hl
  refine lv_ladd hx hb hd ?_
  rw [← Int64.ofInt_add]
  exact k H locs ls hR hS hl
theorem vx_isub (hC : xk_C G K cc own nL) {x y : Int} (hd : xd_D cc pc .isub 1 pc1) (k : xv G K nL Q cells slots n tau vi vl vr pc1 lv (xa_i (x - y) :: st)) : xv G K nL Q cells slots n tau vi vl vr pc lv (xa_i y :: xa_i x :: st) := by
  obtain ⟨p, l, e, R, s, m, args, below, meth, c⟩ := K
  obtain ⟨hx, hb, hml, hown, hts, hE, hB, hB0⟩ := hC
  obtain ⟨hd, rfl⟩ := hd
  intro H locs ls hR hS hl
  refine lv_isub hx hb hd ?_
  rw [← Int32.ofInt_sub]
  exact k H locs ls hR hS hl
theorem vx_lsub (hC : xk_C G K cc own nL) {x y : Int} (hd : xd_D cc pc .lsub 1 pc1) (k : xv G K nL Q cells slots n tau vi vl vr pc1 lv (xa_l (x - y) :: st)) : xv G K nL Q cells slots n tau vi vl vr pc lv (xa_l y :: xa_l x :: st) := by
  obtain ⟨p, l, e, R, s, m, args, below, meth, c⟩ := K
  obtain ⟨hx, hb, hml, hown, hts, hE, hB, hB0⟩ := hC
  obtain ⟨hd, rfl⟩ := hd
  intro H locs ls hR hS hl
  refine lv_lsub hx hb hd ?_
  rw [← Int64.ofInt_sub]
  exact k H locs ls hR hS hl
theorem vx_imul (hC : xk_C G K cc own nL) {x y : Int} (hd : xd_D cc pc .imul 1 pc1) (k : xv G K nL Q cells slots n tau vi vl vr pc1 lv (xa_i (x * y) :: st)) : xv G K nL Q cells slots n tau vi vl vr pc lv (xa_i y :: xa_i x :: st) := by
  obtain ⟨p, l, e, R, s, m, args, below, meth, c⟩ := K
  obtain ⟨hx, hb, hml, hown, hts, hE, hB, hB0⟩ := hC
  obtain ⟨hd, rfl⟩ := hd
  intro H locs ls hR hS hl
  refine lv_imul hx hb hd ?_
  rw [← Int32.ofInt_mul]
  exact k H locs ls hR hS hl
theorem vx_lmul (hC : xk_C G K cc own nL) {x y : Int} (hd : xd_D cc pc .lmul 1 pc1) (k : xv G K nL Q cells slots n tau vi vl vr pc1 lv (xa_l (x * y) :: st)) : xv G K nL Q cells slots n tau vi vl vr pc lv (xa_l y :: xa_l x :: st) := by
  obtain ⟨p, l, e, R, s, m, args, below, meth, c⟩ := K
  obtain ⟨hx, hb, hml, hown, hts, hE, hB, hB0⟩ := hC
  obtain ⟨hd, rfl⟩ := hd
  intro H locs ls hR hS hl
  refine lv_lmul hx hb hd ?_
  rw [← Int64.ofInt_mul]
  exact k H locs ls hR hS hl
theorem vx_ineg (hC : xk_C G K cc own nL) {x : Int} (hd : xd_D cc pc .ineg 1 pc1) (k : xv G K nL Q cells slots n tau vi vl vr pc1 lv (xa_i (-x) :: st)) : xv G K nL Q cells slots n tau vi vl vr pc lv (xa_i x :: st) := by
  obtain ⟨p, l, e, R, s, m, args, below, meth, c⟩ := K
  obtain ⟨hx, hb, hml, hown, hts, hE, hB, hB0⟩ := hC
  obtain ⟨hd, rfl⟩ := hd
  intro H locs ls hR hS hl
  refine lv_ineg hx hb hd ?_
  rw [← Int32.ofInt_neg]
  exact k H locs ls hR hS hl
theorem vx_iand (hC : xk_C G K cc own nL) {x y : Int} (hd : xd_D cc pc .iand 1 pc1) (k : xv G K nL Q cells slots n tau vi vl vr pc1 lv (xa_i (Int32.ofInt x &&& Int32.ofInt y).toInt :: st)) : xv G K nL Q cells slots n tau vi vl vr pc lv (xa_i y :: xa_i x :: st) := by
  obtain ⟨p, l, e, R, s, m, args, below, meth, c⟩ := K
  obtain ⟨hx, hb, hml, hown, hts, hE, hB, hB0⟩ := hC
  obtain ⟨hd, rfl⟩ := hd
  intro H locs ls hR hS hl
  have k := k H locs ls hR hS hl
  simp only [List.map_cons, xa_tr, Int32.ofInt_toInt] at k
  exact lv_iand hx hb hd k
theorem vx_land (hC : xk_C G K cc own nL) {x y : Int} (hd : xd_D cc pc .land 1 pc1) (k : xv G K nL Q cells slots n tau vi vl vr pc1 lv (xa_l (Int64.ofInt x &&& Int64.ofInt y).toInt :: st)) : xv G K nL Q cells slots n tau vi vl vr pc lv (xa_l y :: xa_l x :: st) := by
  obtain ⟨p, l, e, R, s, m, args, below, meth, c⟩ := K
  obtain ⟨hx, hb, hml, hown, hts, hE, hB, hB0⟩ := hC
  obtain ⟨hd, rfl⟩ := hd
  intro H locs ls hR hS hl
  have k := k H locs ls hR hS hl
  simp only [List.map_cons, xa_tr, Int64.ofInt_toInt] at k
  exact lv_land hx hb hd k
theorem vx_ior (hC : xk_C G K cc own nL) {x y : Int} (hd : xd_D cc pc .ior 1 pc1) (k : xv G K nL Q cells slots n tau vi vl vr pc1 lv (xa_i (Int32.ofInt x ||| Int32.ofInt y).toInt :: st)) : xv G K nL Q cells slots n tau vi vl vr pc lv (xa_i y :: xa_i x :: st) := by
  obtain ⟨p, l, e, R, s, m, args, below, meth, c⟩ := K
  obtain ⟨hx, hb, hml, hown, hts, hE, hB, hB0⟩ := hC
  obtain ⟨hd, rfl⟩ := hd
  intro H locs ls hR hS hl
  have k := k H locs ls hR hS hl
  simp only [List.map_cons, xa_tr, Int32.ofInt_toInt] at k
  exact lv_ior hx hb hd k
theorem vx_lor (hC : xk_C G K cc own nL) {x y : Int} (hd : xd_D cc pc .lor 1 pc1) (k : xv G K nL Q cells slots n tau vi vl vr pc1 lv (xa_l (Int64.ofInt x ||| Int64.ofInt y).toInt :: st)) : xv G K nL Q cells slots n tau vi vl vr pc lv (xa_l y :: xa_l x :: st) := by
  obtain ⟨p, l, e, R, s, m, args, below, meth, c⟩ := K
  obtain ⟨hx, hb, hml, hown, hts, hE, hB, hB0⟩ := hC
  obtain ⟨hd, rfl⟩ := hd
  intro H locs ls hR hS hl
  have k := k H locs ls hR hS hl
  simp only [List.map_cons, xa_tr, Int64.ofInt_toInt] at k
  exact lv_lor hx hb hd k
theorem vx_ixor (hC : xk_C G K cc own nL) {x y : Int} (hd : xd_D cc pc .ixor 1 pc1) (k : xv G K nL Q cells slots n tau vi vl vr pc1 lv (xa_i (Int32.ofInt x ^^^ Int32.ofInt y).toInt :: st)) : xv G K nL Q cells slots n tau vi vl vr pc lv (xa_i y :: xa_i x :: st) := by
  obtain ⟨p, l, e, R, s, m, args, below, meth, c⟩ := K
  obtain ⟨hx, hb, hml, hown, hts, hE, hB, hB0⟩ := hC
  obtain ⟨hd, rfl⟩ := hd
  intro H locs ls hR hS hl
  have k := k H locs ls hR hS hl
  simp only [List.map_cons, xa_tr, Int32.ofInt_toInt] at k
  exact lv_ixor hx hb hd k
theorem vx_lxor (hC : xk_C G K cc own nL) {x y : Int} (hd : xd_D cc pc .lxor 1 pc1) (k : xv G K nL Q cells slots n tau vi vl vr pc1 lv (xa_l (Int64.ofInt x ^^^ Int64.ofInt y).toInt :: st)) : xv G K nL Q cells slots n tau vi vl vr pc lv (xa_l y :: xa_l x :: st) := by
  obtain ⟨p, l, e, R, s, m, args, below, meth, c⟩ := K
  obtain ⟨hx, hb, hml, hown, hts, hE, hB, hB0⟩ := hC
  obtain ⟨hd, rfl⟩ := hd
  intro H locs ls hR hS hl
  have k := k H locs ls hR hS hl
  simp only [List.map_cons, xa_tr, Int64.ofInt_toInt] at k
  exact lv_lxor hx hb hd k
theorem vx_ishl (hC : xk_C G K cc own nL) {x y : Int} (hd : xd_D cc pc .ishl 1 pc1) (k : xv G K nL Q cells slots n tau vi vl vr pc1 lv (xa_i (Int32.ofInt x <<< (Int32.ofInt y &&& 31)).toInt :: st)) : xv G K nL Q cells slots n tau vi vl vr pc lv (xa_i y :: xa_i x :: st) := by
  obtain ⟨p, l, e, R, s, m, args, below, meth, c⟩ := K
  obtain ⟨hx, hb, hml, hown, hts, hE, hB, hB0⟩ := hC
  obtain ⟨hd, rfl⟩ := hd
  intro H locs ls hR hS hl
  have k := k H locs ls hR hS hl
  simp only [List.map_cons, xa_tr, Int32.ofInt_toInt] at k
  exact lv_ishl hx hb hd k
theorem vx_lshl (hC : xk_C G K cc own nL) {x y : Int} (hd : xd_D cc pc .lshl 1 pc1) (k : xv G K nL Q cells slots n tau vi vl vr pc1 lv (xa_l (Int64.ofInt x <<< ((Int32.ofInt y).toInt64 &&& 63)).toInt :: st)) : xv G K nL Q cells slots n tau vi vl vr pc lv (xa_i y :: xa_l x :: st) := by
  obtain ⟨p, l, e, R, s, m, args, below, meth, c⟩ := K
  obtain ⟨hx, hb, hml, hown, hts, hE, hB, hB0⟩ := hC
  obtain ⟨hd, rfl⟩ := hd
  intro H locs ls hR hS hl
  have k := k H locs ls hR hS hl
  simp only [List.map_cons, xa_tr, Int64.ofInt_toInt] at k
  exact lv_lshl hx hb hd rfl k
theorem vx_ishr (hC : xk_C G K cc own nL) {x y : Int} (hd : xd_D cc pc .ishr 1 pc1) (k : xv G K nL Q cells slots n tau vi vl vr pc1 lv (xa_i (Int32.ofInt x >>> (Int32.ofInt y &&& 31)).toInt :: st)) : xv G K nL Q cells slots n tau vi vl vr pc lv (xa_i y :: xa_i x :: st) := by
  obtain ⟨p, l, e, R, s, m, args, below, meth, c⟩ := K
  obtain ⟨hx, hb, hml, hown, hts, hE, hB, hB0⟩ := hC
  obtain ⟨hd, rfl⟩ := hd
  intro H locs ls hR hS hl
  have k := k H locs ls hR hS hl
  simp only [List.map_cons, xa_tr, Int32.ofInt_toInt] at k
  exact lv_ishr hx hb hd k
theorem vx_lshr (hC : xk_C G K cc own nL) {x y : Int} (hd : xd_D cc pc .lshr 1 pc1) (k : xv G K nL Q cells slots n tau vi vl vr pc1 lv (xa_l (Int64.ofInt x >>> ((Int32.ofInt y).toInt64 &&& 63)).toInt :: st)) : xv G K nL Q cells slots n tau vi vl vr pc lv (xa_i y :: xa_l x :: st) := by
  obtain ⟨p, l, e, R, s, m, args, below, meth, c⟩ := K
  obtain ⟨hx, hb, hml, hown, hts, hE, hB, hB0⟩ := hC
  obtain ⟨hd, rfl⟩ := hd
  intro H locs ls hR hS hl
  have k := k H locs ls hR hS hl
  simp only [List.map_cons, xa_tr, Int64.ofInt_toInt] at k
  exact lv_lshr hx hb hd rfl k
theorem vx_iushr (hC : xk_C G K cc own nL) {x y : Int} (hd : xd_D cc pc .iushr 1 pc1) (k : xv G K nL Q cells slots n tau vi vl vr pc1 lv (xa_i ((Int32.ofInt x).toUInt32 >>> ((Int32.ofInt y).toUInt32 &&& Int32.toUInt32 31)).toInt32.toInt :: st)) : xv G K nL Q cells slots n tau vi vl vr pc lv (xa_i y :: xa_i x :: st) := by
  obtain ⟨p, l, e, R, s, m, args, below, meth, c⟩ := K
  obtain ⟨hx, hb, hml, hown, hts, hE, hB, hB0⟩ := hC
  obtain ⟨hd, rfl⟩ := hd
  intro H locs ls hR hS hl
  have k := k H locs ls hR hS hl
  simp only [List.map_cons, xa_tr, Int32.ofInt_toInt] at k
  exact lv_iushr hx hb hd rfl k
end XV
