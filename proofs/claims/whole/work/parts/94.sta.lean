/-! what holds at the law's start, in the words of the number world -/
def st_T : Nat → Term := fun i => if i = 0 then .string "LastPenny$Reader" 99 else if i = 1 then .string "LastPenny$Reader" 105 else if i = 2 then .string "LastPenny$Reader" 107 else if i = 3 then .string "LastPenny$Reader" 80 else if i = 4 then .string "LastPenny$Reader" 119 else if i = 5 then .string "LastPenny$Reader" 121 else if i = 6 then .string "LastPennyModel" 121 else .string "LastPennyModel" 132
abbrev st_F : List Cond := flatC (Jvm.Cond.and given_1 narrow_1)
abbrev st_V (i : Nat) : Term := .field (st_T i) "java/lang/String" "value" "[B"
abbrev st_G : Term := .static "LastPenny$Chances" "GIVERS" "[I"
abbrev st_H : Term := .static "LastPenny$Chances" "TAKERS" "[I"
set_option maxHeartbeats 4000000 in
set_option maxRecDepth 100000 in
theorem st_ex : ∀ i, i < 8 → Cond.exactly (st_T i) "java/lang/String" ∈ st_F := by decide +kernel
set_option maxHeartbeats 4000000 in
set_option maxRecDepth 100000 in
theorem st_co : ∀ i, i < 8 → Cond.eq (.field (st_T i) "java/lang/String" "coder" "B") (.int 0) ∈ st_F := by decide +kernel
set_option maxHeartbeats 4000000 in
set_option maxRecDepth 100000 in
theorem st_ar : ∀ i, i < 8 → Cond.arrayOf (st_V i) .byte ∈ st_F := by decide +kernel
set_option maxHeartbeats 4000000 in
set_option maxRecDepth 100000 in
theorem st_le : ∀ i, i < 8 → Cond.eq (.length (st_V i)) (.int (Int32.ofNat ((xw_byt.map List.length).getD i 0))) ∈ st_F := by decide +kernel
set_option maxHeartbeats 4000000 in
set_option maxRecDepth 100000 in
theorem st_el : ∀ i, i < 8 → ∀ j, j < (xw_byt.map List.length).getD i 0 → Cond.eq (.elem (st_V i) (.int (Int32.ofNat j))) (.int (((xw_byt.map fun l => l.map Int32.ofInt).getD i []).getD j 0)) ∈ st_F := by decide +kernel
set_option maxHeartbeats 4000000 in
set_option maxRecDepth 100000 in
theorem st_ne : ∀ i, i < 8 → ∀ j, j < 8 → i ≠ j → Cond.not (Cond.eq (st_T i) (st_T j)) ∈ st_F ∨ Cond.not (Cond.eq (st_T j) (st_T i)) ∈ st_F := by decide +kernel
set_option maxHeartbeats 4000000 in
set_option maxRecDepth 100000 in
theorem st_nc : ∀ q ∈ xw_nc, Cond.not (.castable q.1 q.2) ∈ st_F := by decide +kernel
set_option maxHeartbeats 4000000 in
set_option maxRecDepth 100000 in
theorem st_cast : ∀ q ∈ xw_cast, Cond.castable q.1 q.2 ∈ lw_tbl := List.forall_mem_cons.mpr ⟨List.mem_of_getElem? (i := 1315) (by decide +kernel), List.forall_mem_cons.mpr ⟨List.mem_of_getElem? (i := 1316) (by decide +kernel), List.forall_mem_cons.mpr ⟨List.mem_of_getElem? (i := 1317) (by decide +kernel), List.forall_mem_cons.mpr ⟨List.mem_of_getElem? (i := 1318) (by decide +kernel), List.forall_mem_cons.mpr ⟨List.mem_of_getElem? (i := 1319) (by decide +kernel), List.forall_mem_cons.mpr ⟨List.mem_of_getElem? (i := 1320) (by decide +kernel), List.forall_mem_cons.mpr ⟨List.mem_of_getElem? (i := 1321) (by decide +kernel), List.forall_mem_cons.mpr ⟨List.mem_of_getElem? (i := 1322) (by decide +kernel), List.forall_mem_cons.mpr ⟨List.mem_of_getElem? (i := 1323) (by decide +kernel), fun _ h => absurd h List.not_mem_nil⟩⟩⟩⟩⟩⟩⟩⟩⟩
set_option maxHeartbeats 4000000 in
set_option maxRecDepth 100000 in
theorem st_nest : ∀ q ∈ xw_nest, Cond.methodLinkNest q.1 q.2.1 q.2.2.1 q.2.2.2 ∈ lw_tbl := List.forall_mem_cons.mpr ⟨List.mem_of_getElem? (i := 84) (by decide +kernel), List.forall_mem_cons.mpr ⟨List.mem_of_getElem? (i := 145) (by decide +kernel), List.forall_mem_cons.mpr ⟨List.mem_of_getElem? (i := 194) (by decide +kernel), fun _ h => absurd h List.not_mem_nil⟩⟩⟩
set_option maxHeartbeats 4000000 in
set_option maxRecDepth 100000 in
theorem st_gi : Cond.arrayOf st_G .int ∈ st_F ∧ Cond.eq (.length st_G) (.int (Int32.ofNat 6)) ∈ st_F ∧ (∀ j, j < 6 → Cond.eq (.elem st_G (.int (Int32.ofNat j))) (.int (Int32.ofInt (([0, 0, 1, 1, 2, 2] : List Int).getD j 0))) ∈ st_F) := by decide +kernel
set_option maxHeartbeats 4000000 in
set_option maxRecDepth 100000 in
theorem st_ta : Cond.arrayOf st_H .int ∈ st_F ∧ Cond.eq (.length st_H) (.int (Int32.ofNat 6)) ∈ st_F ∧ (∀ j, j < 6 → Cond.eq (.elem st_H (.int (Int32.ofNat j))) (.int (Int32.ofInt (([1, 2, 0, 2, 0, 1] : List Int).getD j 0))) ∈ st_F) := by decide +kernel
set_option maxHeartbeats 4000000 in
set_option maxRecDepth 100000 in
theorem st_cs : Cond.eq (.static "java/lang/String" "COMPACT_STRINGS" "Z") (.int 1) ∈ st_F := by decide +kernel
set_option maxHeartbeats 4000000 in
set_option maxRecDepth 100000 in
theorem st_si : Cond.isRef (.static "jdk/internal/util/Preconditions" "SIOOBE_FORMATTER" "Ljava/util/function/BiFunction;") ∈ st_F := by decide +kernel
set_option maxHeartbeats 4000000 in
set_option maxRecDepth 100000 in
theorem st_sm : Cond.eq (.string "LastPenny$Reader" 119) (.string "LastPennyModel" 103) ∈ st_F ∧ Cond.eq (.string "LastPenny$Reader" 121) (.string "LastPennyModel" 109) ∈ st_F ∧ Cond.eq (.string "LastPenny$Reader" 107) (.string "LastPennyModel" 127) ∈ st_F := by decide +kernel
set_option maxHeartbeats 4000000 in
set_option maxRecDepth 100000 in
theorem st_map (l : List Int) (j : Nat) : (l.map Int32.ofInt).getD j 0 = Int32.ofInt (l.getD j 0) := by
  rw [List.getD_eq_getElem?_getD, List.getD_eq_getElem?_getD, List.getElem?_map]
  cases l[j]? <;> rfl
set_option maxHeartbeats 4000000 in
set_option maxRecDepth 100000 in
theorem st_len : ∀ i, i < 8 → (xw_byt.map List.length).getD i 0 = (xw_byt.getD i []).length := by decide
set_option maxHeartbeats 4000000 in
set_option maxRecDepth 100000 in
theorem st_byt : ∀ i, i < 8 → (xw_byt.map fun l => l.map Int32.ofInt).getD i [] = (xw_byt.getD i []).map Int32.ofInt := by decide
set_option maxHeartbeats 4000000 in
set_option maxRecDepth 100000 in
theorem st_kn {s : State} {args : Array Value} (hts : ∀ w ∈ xw_tbl, w.before args s = true) (k : Nat) : ∃ c : ClassId × (Nat → Nat), ∀ q : vw_C, vwCl[k]? = some q → u_Kn s q.1 q.2.1 q.2.2 c.1 c.2 := by
  have two : ∀ {a b c : Cond}, (∀ w ∈ ([a, b, c] : List Cond), w ∈ xw_tbl) → b.before args s = true := fun h => hts _ (h _ (List.mem_cons_of_mem _ List.mem_cons_self))
  match k with
  | 0 => obtain ⟨c, i, h⟩ := u_known (ws := xw_tbl) hts xc_i0 (two ln_X11_237); exact ⟨(c, i), fun q hq => by cases hq; exact h⟩
  | 1 => obtain ⟨c, i, h⟩ := u_known (ws := xw_tbl) hts xc_i1 (two ln_X11_245); exact ⟨(c, i), fun q hq => by cases hq; exact h⟩
  | 2 => obtain ⟨c, i, h⟩ := u_known (ws := xw_tbl) hts xc_i2 (two ln_X11_21); exact ⟨(c, i), fun q hq => by cases hq; exact h⟩
  | 3 => obtain ⟨c, i, h⟩ := u_known (ws := xw_tbl) hts xc_i3 (two ln_X11_243); exact ⟨(c, i), fun q hq => by cases hq; exact h⟩
  | 4 => obtain ⟨c, i, h⟩ := u_known (ws := xw_tbl) hts xc_i4 (two ln_X11_98); exact ⟨(c, i), fun q hq => by cases hq; exact h⟩
  | 5 => obtain ⟨c, i, h⟩ := u_known (ws := xw_tbl) hts xc_i5 (two ln_X11_28); exact ⟨(c, i), fun q hq => by cases hq; exact h⟩
  | 6 => obtain ⟨c, i, h⟩ := u_known (ws := xw_tbl) hts xc_i6 (two ln_X11_9); exact ⟨(c, i), fun q hq => by cases hq; exact h⟩
  | 7 => obtain ⟨c, i, h⟩ := u_known (ws := xw_tbl) hts xc_i7 (two ln_X11_241); exact ⟨(c, i), fun q hq => by cases hq; exact h⟩
  | 8 => obtain ⟨c, i, h⟩ := u_known (ws := xw_tbl) hts xc_i8 (two ln_X5_55); exact ⟨(c, i), fun q hq => by cases hq; exact h⟩
  | 9 => obtain ⟨c, i, h⟩ := u_known (ws := xw_tbl) hts xc_i9 (two ln_X11_239); exact ⟨(c, i), fun q hq => by cases hq; exact h⟩
  | 10 => obtain ⟨c, i, h⟩ := u_known (ws := xw_tbl) hts xc_i10 (two ln_X11_119); exact ⟨(c, i), fun q hq => by cases hq; exact h⟩
  | 11 => obtain ⟨c, i, h⟩ := u_known (ws := xw_tbl) hts xc_i11 (two ln_L_7); exact ⟨(c, i), fun q hq => by cases hq; exact h⟩
  | 12 => obtain ⟨c, i, h⟩ := u_known (ws := xw_tbl) hts xc_i12 (two ln_L_10); exact ⟨(c, i), fun q hq => by cases hq; exact h⟩
  | k + 13 => obtain ⟨c, i, h⟩ := u_known (ws := xw_tbl) hts xc_i0 (two ln_X11_237); exact ⟨(c, i), fun q hq => by cases hq⟩
set_option maxHeartbeats 4000000 in
set_option maxRecDepth 100000 in
theorem xh_start {s : State} {b : Nat} (hts : ∀ w ∈ lw_tbl, w.before #[Value.ref b] s = true) (hgv : (Jvm.Cond.and given_1 narrow_1).before #[Value.ref b] s = true) : ∃ G : xg_T, G.2.2.1 = s.heap ∧ G.2.2.2 19 = b ∧ xh_Ev G s := by
  have hs : ∀ w ∈ st_F, w.before #[Value.ref b] s = true := flat_of_before _ hgv
  have htx : ∀ w ∈ xw_tbl, w.before #[Value.ref b] s = true := fun w hw => hts w (List.mem_filter.mp hw).1
  have hw : ∀ {w : Cond} (i : Nat), lw_tbl[i]? = some w → w.before #[Value.ref b] s = true := fun i h => hts _ (List.mem_of_getElem? h)
  have hA : ∀ a : Nat, a < s.heap.size → ¬ (fun q : Nat => s.heap.size ≤ q) a := fun a ha h => absurd h (Nat.not_le.mpr ha)
  obtain ⟨dC, hdC⟩ := Classical.axiomOfChoice (st_kn htx)
  obtain ⟨cB, kB, pB, b1, b2, b3⟩ := Cond.arrayClass_spec (htx _ wd_141)
  obtain ⟨cI, kI, pI, i1, i2, i3⟩ := Cond.arrayClass_spec (htx _ wd_142)
  obtain ⟨cJ, kJ, pJ, j1, j2, j3⟩ := Cond.arrayClass_spec (htx _ wd_191)
  obtain ⟨cZ, kZ, pZ, z1, z2, z3⟩ := Cond.arrayClass_spec (htx _ wd_1029)
  have hoT : (Cond.arrayOver (.object RX8)).before #[Value.ref b] s = true := hw 89 (by decide +kernel)
  have hoP : (Cond.arrayOver (.object RX4)).before #[Value.ref b] s = true := hw 91 (by decide +kernel)
  obtain ⟨pT, cT, kT, t1, -, t2, t3, t4⟩ := Cond.arrayOver_spec hoT
  obtain ⟨pP, cP, kP, p1, -, p2, p3, p4⟩ := Cond.arrayOver_spec hoP
  obtain ⟨adK, adV, hS, hev⟩ := vk_Sof (args := #[Value.ref b]) (s := s) (N := 8) (tm := st_T) (len := xw_byt.map List.length) (byt := xw_byt.map fun l => l.map Int32.ofInt) (A := fun q : Nat => s.heap.size ≤ q) (by decide) (fun i hi => hs _ (st_ex i hi)) (fun i hi => hs _ (st_co i hi)) (fun i hi => hs _ (st_ar i hi)) (fun i hi => hs _ (st_le i hi)) (fun i hi j hj => hs _ (st_el i hi j hj)) (fun i j hi hj hij => (st_ne i hi j hj hij).imp (hs _) (hs _)) hA
  obtain ⟨g0, ge0, gt0⟩ := va_Tof (args := #[Value.ref b]) (s := s) (tm := st_G) (ty := .int) (N := 6) (f := fun j => .int (Int32.ofInt (([0, 0, 1, 1, 2, 2] : List Int).getD j 0))) (A := fun q : Nat => s.heap.size ≤ q) (by decide) (hs _ st_gi.1) (va_eqt (hs _ st_gi.2.1)) (fun j hj => va_eqt (hs _ (st_gi.2.2 j hj))) hA
  obtain ⟨g1, ge1, gt1⟩ := va_Tof (args := #[Value.ref b]) (s := s) (tm := st_H) (ty := .int) (N := 6) (f := fun j => .int (Int32.ofInt (([1, 2, 0, 2, 0, 1] : List Int).getD j 0))) (A := fun q : Nat => s.heap.size ≤ q) (by decide) (hs _ st_ta.1) (va_eqt (hs _ st_ta.2.1)) (fun j hj => va_eqt (hs _ (st_ta.2.2 j hj))) hA
  have hz0 : va_Z "LastPenny$Chances" "GIVERS" "[I" (.ref g0) (fun q : Nat => s.heap.size ≤ q) s s.heap := va_Zref (hw 780 (by decide +kernel)) (htx _ wd_54) ge0 hA
  have hz1 : va_Z "LastPenny$Chances" "TAKERS" "[I" (.ref g1) (fun q : Nat => s.heap.size ≤ q) s s.heap := va_Zref (hw 782 (by decide +kernel)) (htx _ wd_54) ge1 hA
  have hz2 : va_Z "java/lang/String" "COMPACT_STRINGS" "Z" (.int 1) (fun q : Nat => s.heap.size ≤ q) s s.heap := va_Zof (hw 287 (by decide +kernel)) (htx _ wd_58) (va_eqi (hs _ st_cs)) hA
  have hz3 : va_Zq "jdk/internal/util/Preconditions" "SIOOBE_FORMATTER" "Ljava/util/function/BiFunction;" (fun q : Nat => s.heap.size ≤ q) s s.heap := va_Zqof (hw 303 (by decide +kernel)) (htx _ wd_60) (hs _ st_si) hA
  obtain ⟨t18, ht18⟩ : ∃ t : Nat, va_Z "jdk/internal/util/Preconditions" "SIOOBE_FORMATTER" "Ljava/util/function/BiFunction;" .null (fun q : Nat => s.heap.size ≤ q) s s.heap ∨ va_Z "jdk/internal/util/Preconditions" "SIOOBE_FORMATTER" "Ljava/util/function/BiFunction;" (.ref t) (fun q : Nat => s.heap.size ≤ q) s s.heap := by
    rcases hz3 with h | ⟨t, h⟩
    · exact ⟨0, Or.inl h⟩
    · exact ⟨t, Or.inr h⟩
  obtain ⟨ad, a0, a1, a2, a3, a4, a5⟩ : ∃ ad : Nat → Nat, ad 0 = g0 ∧ ad 1 = g1 ∧ (∀ i, i < 8 → ad (2 + i) = adK i) ∧ (∀ i, i < 8 → ad (10 + i) = adV i) ∧ ad 18 = t18 ∧ ad 19 = b := by
    refine ⟨fun k => if k = 0 then g0 else if k = 1 then g1 else if k < 10 then adK (k - 2) else if k < 18 then adV (k - 10) else if k = 18 then t18 else b, rfl, rfl, fun i hi => ?_, fun i hi => ?_, rfl, rfl⟩
    · show (if 2 + i = 0 then g0 else if 2 + i = 1 then g1 else if 2 + i < 10 then adK (2 + i - 2) else _) = adK i
      rw [if_neg (by omega), if_neg (by omega), if_pos (by omega), show 2 + i - 2 = i by omega]
    · show (if 10 + i = 0 then g0 else if 10 + i = 1 then g1 else if 10 + i < 10 then adK (10 + i - 2) else if 10 + i < 18 then adV (10 + i - 10) else _) = adV i
      rw [if_neg (by omega), if_neg (by omega), if_neg (by omega), if_pos (by omega), show 10 + i - 10 = i by omega]
  obtain ⟨cl, l3, l4, l5, l6, l7, l8⟩ : ∃ cl : Nat → ClassId, cl 13 = cB ∧ cl 14 = cI ∧ cl 15 = cJ ∧ cl 16 = cZ ∧ cl 17 = cP ∧ cl 18 = cT := ⟨fun k => if k = 13 then cB else if k = 14 then cI else if k = 15 then cJ else if k = 16 then cZ else if k = 17 then cP else cT, rfl, rfl, rfl, rfl, rfl, rfl⟩
  refine ⟨((fun k => (dC k).1, fun k => (dC k).2), cl, s.heap, ad), rfl, a5, ⟨fun c q hq => hdC c q hq, fun k q hk => ?_⟩, fun q hq => va_Nw.of rfl (hts _ (st_cast q hq)), fun q hq => va_Nw.of rfl (hts _ (st_nest q hq)), fun q hq => va_Nc.of (hs _ (st_nc q hq)), ⟨va_AO.of hoP, va_AO.of hoT⟩, ?_, ⟨?_, ?_, hz2, ?_⟩, ⟨?_, ?_⟩, fun i hi => ?_⟩
  · match k, hk with
    | 0, hk => cases hk; show ArrOfT s (cl 13) .byte ∧ va_RA s (cl 13) .byte; rw [l3]; exact ⟨fun n z => ⟨fun k h => (by cases h), kB, b2, pB, b3⟩, b1⟩
    | 1, hk => cases hk; show ArrOfT s (cl 14) .int ∧ va_RA s (cl 14) .int; rw [l4]; exact ⟨fun n z => ⟨fun k h => (by cases h), kI, i2, pI, i3⟩, i1⟩
    | 2, hk => cases hk; show ArrOfT s (cl 15) .long ∧ va_RA s (cl 15) .long; rw [l5]; exact ⟨fun n z => ⟨fun k h => (by cases h), kJ, j2, pJ, j3⟩, j1⟩
    | 3, hk => cases hk; show ArrOfT s (cl 16) .boolean ∧ va_RA s (cl 16) .boolean; rw [l6]; exact ⟨fun n z => ⟨fun k h => (by cases h), kZ, z2, pZ, z3⟩, z1⟩
    | 4, hk => cases hk; show ArrOfT s (cl 17) (.object RX4) ∧ va_RA s (cl 17) (.object RX4); rw [l7]; exact ⟨fun n z => ⟨fun k h => (by cases h), kP, p2, pP, p3⟩, kP, pP, p2, p3, p1, p4⟩
    | 5, hk => cases hk; show ArrOfT s (cl 18) (.object RX8) ∧ va_RA s (cl 18) (.object RX8); rw [l8]; exact ⟨fun n z => ⟨fun k h => (by cases h), kT, t2, pT, t3⟩, kT, pT, t2, t3, t1, t4⟩
    | k + 6, hk => cases hk
  · have hr : ∀ (o : String) (k : Nat) (tx : String) (i : Nat), i < 8 → (Cond.stringRef o k tx).before #[Value.ref b] s = true → (Term.string o k).eval #[Value.ref b] s none [] s = some (.ref (adK i)) → vk_R o k tx (ad (2 + i)) s := fun o k tx i hi h1 h2 => by rw [a2 i hi]; exact vk_R.of h1 h2
    refine List.forall_mem_cons.mpr ⟨hr _ _ _ 0 (by decide) (hw 273 (by decide +kernel)) (hev 0 (by decide)), List.forall_mem_cons.mpr ⟨hr _ _ _ 1 (by decide) (hw 326 (by decide +kernel)) (hev 1 (by decide)), List.forall_mem_cons.mpr ⟨hr _ _ _ 2 (by decide) (hw 327 (by decide +kernel)) (hev 2 (by decide)), List.forall_mem_cons.mpr ⟨hr _ _ _ 3 (by decide) (hw 332 (by decide +kernel)) (hev 3 (by decide)), List.forall_mem_cons.mpr ⟨hr _ _ _ 4 (by decide) (hw 407 (by decide +kernel)) (hev 4 (by decide)), List.forall_mem_cons.mpr ⟨hr _ _ _ 5 (by decide) (hw 408 (by decide +kernel)) (hev 5 (by decide)), List.forall_mem_cons.mpr ⟨hr _ _ _ 6 (by decide) (hw 1057 (by decide +kernel)) (hev 6 (by decide)), List.forall_mem_cons.mpr ⟨hr _ _ _ 4 (by decide) (hw 1088 (by decide +kernel)) (va_eqR (hs _ st_sm.1) (hev 4 (by decide))), List.forall_mem_cons.mpr ⟨hr _ _ _ 5 (by decide) (hw 1093 (by decide +kernel)) (va_eqR (hs _ st_sm.2.1) (hev 5 (by decide))), List.forall_mem_cons.mpr ⟨hr _ _ _ 2 (by decide) (hw 1094 (by decide +kernel)) (va_eqR (hs _ st_sm.2.2) (hev 2 (by decide))), List.forall_mem_cons.mpr ⟨hr _ _ _ 7 (by decide) (hw 1095 (by decide +kernel)) (hev 7 (by decide)), fun _ h => absurd h List.not_mem_nil⟩⟩⟩⟩⟩⟩⟩⟩⟩⟩⟩
  · show va_Z _ _ _ (.ref (ad 0)) _ _ _; rw [a0]; exact hz0
  · show va_Z _ _ _ (.ref (ad 1)) _ _ _; rw [a1]; exact hz1
  · show va_Z _ _ _ .null _ _ _ ∨ va_Z _ _ _ (.ref (ad 18)) _ _ _; rw [a4]; exact ht18
  · show va_T _ (ad 0) _ _ _ _ _; rw [a0]; exact gt0
  · show va_T _ (ad 1) _ _ _ _ _; rw [a1]; exact gt1
  · have h := hS.1 i hi
    rw [st_len i hi, st_byt i hi] at h
    show va_O _ (ad (2 + i)) _ _ _ ∧ va_OF _ _ _ _ (ad (2 + i)) _ _ _ ∧ va_OF _ _ _ (.ref (ad (10 + i))) (ad (2 + i)) _ _ _ ∧ va_T _ (ad (10 + i)) _ _ _ _ _
    rw [a2 i hi, a3 i hi]
    refine ⟨h.1, h.2.1, h.2.2.1, ?_⟩
    have e : (fun j => Value.int (((xw_byt.getD i []).map Int32.ofInt).getD j 0)) = fun j => Value.int (Int32.ofInt ((xw_byt.getD i []).getD j 0)) := by
      funext j
      rw [st_map]
    rw [e] at h
    exact h.2.2.2
