def iT0 : Nat → Nat × Nat := i12T (xz (i11T (xz (fun _ => (0, 0)) 0 (11, 0)) 1) 31 (12, 0)) 32
def iC0 : Nat → Int → Option Nat := i12C (xz (i11C (xz (fun _ _ => none) 0 (fun _ => none)) 0 1) 31 (fun _ => none)) 31 32
def iA0 : Nat → Int → Int := xu (fun _ _ => 0) 32 4 (-1)
set_option maxRecDepth 100000 in
theorem xo_0 : xo 45 iT0 iC0 := ⟨⟨by decide, by decide⟩, by decide +kernel, by decide +kernel⟩
theorem iA0_n {k : Nat} (h : ¬ k = 32) : iA0 k = fun _ => 0 := by unfold iA0; rw [xu_c _ _ _ _ h]
theorem iA0_z {k : Nat} {z : Int} (h : ¬ k = 32) : iA0 k z = 0 := by rw [iA0_n h]
theorem iA0_s {z : Int} (h : ¬ z = 4) : iA0 32 z = 0 := by unfold iA0; rw [xu_n _ _ _ _ (fun q => h q.2)]
theorem iA0_4 : iA0 32 4 = -1 := by unfold iA0; rw [xu_s]
set_option maxRecDepth 100000 in
theorem iC0_r : (∀ z, iC0 3 z = none) ∧ (∀ z, iC0 10 z = none) ∧ (∀ z, iC0 4 z = none) ∧ (∀ z, iC0 11 z = none) := ⟨fun _ => rfl, fun _ => rfl, fun _ => rfl, fun _ => rfl⟩
set_option maxRecDepth 100000 in
theorem iC0_t : iC0 15 8 = some 22 ∧ iC0 15 9 = some 23 := by decide +kernel
theorem V_0 : ms_V (iA0 32) := by
  refine ⟨⟨fun z => ?_, ?_, ?_, ?_, ?_, ?_, ?_, ?_, fun p p1 p2 => ?_, fun z z1 z2 => ?_, fun z z1 z2 => ?_, fun z z1 z2 => ?_, fun t t1 t2 => ?_⟩, ?_⟩
  · by_cases e : z = 4
    · rw [e, iA0_4]; omega
    · rw [iA0_s e]; omega
  · rw [iA0_s (by decide)]; omega
  · rw [iA0_s (by decide)]; omega
  · rw [iA0_s (by decide)]; omega
  · rw [iA0_s (by decide)]; omega
  · rw [iA0_4, iA0_s (by decide)]; rfl
  · rw [iA0_s (by decide)]; omega
  · rw [iA0_s (by decide)]; omega
  · rw [iA0_s (by decide)] at p2; omega
  · rw [iA0_s (by omega)]; omega
  · rw [iA0_s (by omega)]; omega
  · rw [iA0_s (by omega)]; omega
  · rw [iA0_s (by decide)] at t2; omega
  · exact iA0_s (by decide)
theorem LI_0 : LI 45 iT0 iA0 iC0 := by
  have s0 : iA0 32 0 = 0 := iA0_s (by decide)
  have s1 : iA0 32 1 = 0 := iA0_s (by decide)
  have s2 : iA0 32 2 = 0 := iA0_s (by decide)
  have s3 : iA0 32 3 = 0 := iA0_s (by decide)
  have s5 : iA0 32 5 = 0 := iA0_s (by decide)
  have z0 : ∀ {k : Nat} {z : Int}, ¬ k = 32 → iA0 k z = 0 := fun h => iA0_z h
  obtain ⟨r1, r2, r3, r4⟩ := iC0_r
  refine ⟨⟨xo_0, V_0, Or.inl (z0 (by decide)), ?_, fun z hz => iA0_s (by omega), fun z hz => z0 (by decide)⟩, ⟨?_, Or.inl (z0 (by decide)), ?_, ?_, ?_, ?_, Or.inl iC0_t, ?_, ?_, ?_⟩⟩
  · rw [z0 (by decide)]; omega
  · refine ⟨?_, ?_, ?_, ?_, ?_, ?_, fun z y1 y2 => ?_, fun z y1 y2 => ?_, fun z y1 y2 => ?_, fun p p1 p2 => ?_, fun t t1 t2 => ?_⟩
    · rw [z0 (by decide), s3]
    · rw [z0 (by decide), s1]
    · rw [z0 (by decide), s0]
    · rw [z0 (by decide), s5]
    · rw [z0 (by decide), s2]
    · rw [z0 (by decide), s2]; rfl
    · rw [s3] at y2; omega
    · rw [s0] at y2; omega
    · rw [s0] at y2; omega
    · rw [s0] at p2; omega
    · rw [s1] at t2; omega
  · rw [z0 (by decide), z0 (by decide)]
  · rw [z0 (by decide), z0 (by decide)]
  · intro z y1 y2
    rw [z0 (by decide)] at y2
    omega
  · rw [z0 (by decide)]; omega
  · intro z y1 y2
    rw [z0 (by decide)]; omega
  · intro z y1 y2
    rw [z0 (by decide)]; omega
  · intro z k
    refine ⟨fun q => ?_, fun q => ?_⟩
    · rw [r1, r2] at q
      rcases q with q | q <;> cases q
    · rw [r3, r4] at q
      rcases q with q | q <;> cases q
set_option maxHeartbeats 4000000 in
set_option maxRecDepth 100000 in
theorem lw_loop {G : xg_T} {K : xk_T} {Q : State → Prop} (hC : xk_C G K cL_law RL 4) {L : Nat} {xs : Nat → Int32} (hX : va_X (G.2.2.2 19) L xs (xk_s K) (xk_s K).heap) (hbl : G.2.2.2 19 < (xk_s K).heap.size) (hbA : ¬ xg_A G (G.2.2.2 19)) (hRm : xk_Rm K 100 600000 7302250) (hL : L ≤ 320) (hend : ∀ (cells slots n : Nat) (tau : Nat → Nat × Nat) (vi vl : Nat → Int → Int) (vr : Nat → Int → Option Nat) (i : Int), cells ≤ 1000 → slots ≤ 100000 → xv G K 4 Q cells slots n tau vi vl vr 1157 [(0, xa_r 1000019), (1, xa_r 0), (2, xa_r 31), (3, xa_i i)] []) : ∀ (j : Nat) (i : Int) (cells slots n : Nat) (tau : Nat → Nat × Nat) (vi vl : Nat → Int → Int) (vr : Nat → Int → Option Nat), LI n tau vi vr → 0 ≤ i → i ≤ (L : Int) + 5 → (n : Int) ≤ 45 + i → (cells : Int) ≤ 45 + i → (slots : Int) ≤ 4000 + 61 * i → (L : Int) + 6 - i < (j : Int) → xv G K 4 Q cells slots n tau vi vl vr 18 [(0, xa_r 1000019), (1, xa_r 0), (2, xa_r 31), (3, xa_i i)] [] := by
  intro j
  induction j with
  | zero => intro i cells slots n tau vi vl vr h i0 i1 hn hc hs hj; exfalso; omega
  | succ j ih =>
    intro i cells slots n tau vi vl vr h i0 i1 hn hc hs hj
    refine vx_iload_n hC 3 rfl eL_law_18 ?_
    refine vx_aload_n hC 0 rfl eL_law_19 ?_
    refine vx_slen hC hX hbl hbA eL_law_20 ?_
    refine vx_iconst hC eL_law_21 ?_
    refine vx_isub hC eL_law_22 ?_
    refine vx_icmp_gt hC (tgt := 1157) (by omega) (by decide) eL_law_23 (fun c1 => ?_) (fun c1 => ?_)
    · exact hend cells slots n tau vi vl vr i (by omega) (by omega)
    · refine vx_aload_n hC 0 rfl eL_law_26 ?_
      refine vx_iload_n hC 3 rfl eL_law_27 ?_
      refine vx_sld hC hX hbl hbA (by omega) (by omega) eL_law_28 ?_
      refine vx_bipush hC (by decide) eL_law_29 ?_
      refine vx_iand hC eL_law_31 ?_
      refine vx_top (fun x hx => ?_)
      have hxr : -2147483648 ≤ x ∧ x < 2147483648 := by
        have h1 := Int32.le_toInt (Int32.ofInt (sx xs i) &&& Int32.ofInt 31)
        have h2 := Int32.toInt_lt (Int32.ofInt (sx xs i) &&& Int32.ofInt 31)
        rw [← hx] at h1 h2
        omega
      clear hx
      have nxt : ∀ (n1 : Nat) (t1 : Nat → Nat × Nat) (a1 b1 : Nat → Int → Int) (c1 : Nat → Int → Option Nat) (ce sl : Nat), LI n1 t1 a1 c1 → n1 ≤ n + 4 → (ce ≤ cells + 4 ∧ sl ≤ slots + 304) → xv G K 4 Q ce sl n1 t1 a1 b1 c1 1151 [(0, xa_r 1000019), (1, xa_r 0), (2, xa_r 31), (3, xa_i i)] [] := by
        intro n1 t1 a1 b1 cc1 ce sl g1 g2 g3
        refine vx_iinc hC (lv1 := [(3, xa_i (i + 5)), (0, xa_r 1000019), (1, xa_r 0), (2, xa_r 31)]) 3 rfl (by decide) rfl eL_law_1151 ?_
        refine vx_goto hC (tgt := 18) (by decide) eL_law_1154 ?_
        refine vx_lv (lv1 := [(0, xa_r 1000019), (1, xa_r 0), (2, xa_r 31), (3, xa_i (i + 5))]) [1, 2, 3, 0] rfl ?_
        exact ih (i + 5) ce sl n1 t1 a1 b1 cc1 g1 (by omega) (by omega) (by omega) (by omega) (by omega) (by omega)
      rcases (show x = 0 ∨ x = 1 ∨ x = 2 ∨ x = 3 ∨ x = 4 ∨ x = 5 ∨ x = 6 ∨ x = 7 ∨ x = 8 ∨ x = 9 ∨ x = 10 ∨ x = 11 ∨ x = 12 ∨ x = 13 ∨ x = 14 ∨ x = 15 ∨ x = 16 ∨ x = 17 ∨ x = 18 ∨ x = 19 ∨ x = 20 ∨ x = 21 ∨ x = 22 ∨ x = 23 ∨ x = 24 ∨ x = 25 ∨ x = 26 ∨ x = 27 ∨ x = 28 ∨ (x < 0 ∨ 28 < x) by omega) with c2 | c2 | c2 | c2 | c2 | c2 | c2 | c2 | c2 | c2 | c2 | c2 | c2 | c2 | c2 | c2 | c2 | c2 | c2 | c2 | c2 | c2 | c2 | c2 | c2 | c2 | c2 | c2 | c2 | c2
      · refine vx_tableIn hC (tgt := 164) hxr (by omega) (by rw [c2]; rfl) (by decide) eL_law_32 ?_
        exact lc_0 hC hX hbl hbA hRm (by omega) hL h (by omega) (by omega) nxt
      · refine vx_tableIn hC (tgt := 187) hxr (by omega) (by rw [c2]; rfl) (by decide) eL_law_32 ?_
        exact lc_1 hC hX hbl hbA hRm (by omega) hL h (by omega) (by omega) nxt
      · refine vx_tableIn hC (tgt := 200) hxr (by omega) (by rw [c2]; rfl) (by decide) eL_law_32 ?_
        exact lc_2 hC hX hbl hbA hRm (by omega) hL h (by omega) (by omega) nxt
      · refine vx_tableIn hC (tgt := 223) hxr (by omega) (by rw [c2]; rfl) (by decide) eL_law_32 ?_
        exact lc_3 hC hX hbl hbA hRm (by omega) hL h (by omega) (by omega) nxt
      · refine vx_tableIn hC (tgt := 246) hxr (by omega) (by rw [c2]; rfl) (by decide) eL_law_32 ?_
        exact lc_4 hC hX hbl hbA hRm (by omega) hL h (by omega) (by omega) nxt
      · refine vx_tableIn hC (tgt := 299) hxr (by omega) (by rw [c2]; rfl) (by decide) eL_law_32 ?_
        exact lc_5 hC hX hbl hbA hRm (by omega) hL h (by omega) (by omega) nxt
      · refine vx_tableIn hC (tgt := 332) hxr (by omega) (by rw [c2]; rfl) (by decide) eL_law_32 ?_
        exact lc_6 hC hX hbl hbA hRm (by omega) hL h (by omega) (by omega) nxt
      · refine vx_tableIn hC (tgt := 365) hxr (by omega) (by rw [c2]; rfl) (by decide) eL_law_32 ?_
        exact lc_7 hC hX hbl hbA hRm (by omega) hL h (by omega) (by omega) nxt
      · refine vx_tableIn hC (tgt := 408) hxr (by omega) (by rw [c2]; rfl) (by decide) eL_law_32 ?_
        exact lc_8 hC hX hbl hbA hRm (by omega) hL h (by omega) (by omega) nxt
      · refine vx_tableIn hC (tgt := 457) hxr (by omega) (by rw [c2]; rfl) (by decide) eL_law_32 ?_
        exact lc_9 hC hX hbl hbA hRm (by omega) hL h (by omega) (by omega) nxt
      · refine vx_tableIn hC (tgt := 511) hxr (by omega) (by rw [c2]; rfl) (by decide) eL_law_32 ?_
        exact lc_10 hC hX hbl hbA hRm (by omega) hL h (by omega) (by omega) nxt
      · refine vx_tableIn hC (tgt := 555) hxr (by omega) (by rw [c2]; rfl) (by decide) eL_law_32 ?_
        exact lc_11 hC hX hbl hbA hRm (by omega) hL h (by omega) (by omega) nxt
      · refine vx_tableIn hC (tgt := 599) hxr (by omega) (by rw [c2]; rfl) (by decide) eL_law_32 ?_
        exact lc_12 hC hX hbl hbA hRm (by omega) hL h (by omega) (by omega) nxt
      · refine vx_tableIn hC (tgt := 633) hxr (by omega) (by rw [c2]; rfl) (by decide) eL_law_32 ?_
        exact lc_13 hC hX hbl hbA hRm (by omega) hL h (by omega) (by omega) nxt
      · refine vx_tableIn hC (tgt := 666) hxr (by omega) (by rw [c2]; rfl) (by decide) eL_law_32 ?_
        exact lc_14 hC hX hbl hbA hRm (by omega) hL h (by omega) (by omega) nxt
      · refine vx_tableIn hC (tgt := 710) hxr (by omega) (by rw [c2]; rfl) (by decide) eL_law_32 ?_
        exact lc_15 hC hX hbl hbA hRm (by omega) hL h (by omega) (by omega) nxt
      · refine vx_tableIn hC (tgt := 754) hxr (by omega) (by rw [c2]; rfl) (by decide) eL_law_32 ?_
        exact lc_16 hC hX hbl hbA hRm (by omega) hL h (by omega) (by omega) nxt
      · refine vx_tableIn hC (tgt := 787) hxr (by omega) (by rw [c2]; rfl) (by decide) eL_law_32 ?_
        exact lc_17 hC hX hbl hbA hRm (by omega) hL h (by omega) (by omega) nxt
      · refine vx_tableIn hC (tgt := 841) hxr (by omega) (by rw [c2]; rfl) (by decide) eL_law_32 ?_
        exact lc_18 hC hX hbl hbA hRm (by omega) hL h (by omega) (by omega) nxt
      · refine vx_tableIn hC (tgt := 895) hxr (by omega) (by rw [c2]; rfl) (by decide) eL_law_32 ?_
        exact lc_19 hC hX hbl hbA hRm (by omega) hL h (by omega) (by omega) nxt
      · refine vx_tableIn hC (tgt := 934) hxr (by omega) (by rw [c2]; rfl) (by decide) eL_law_32 ?_
        exact lc_20 hC hX hbl hbA hRm (by omega) hL h (by omega) (by omega) nxt
      · refine vx_tableIn hC (tgt := 947) hxr (by omega) (by rw [c2]; rfl) (by decide) eL_law_32 ?_
        exact lc_21 hC hX hbl hbA hRm (by omega) hL h (by omega) (by omega) nxt
      · refine vx_tableIn hC (tgt := 980) hxr (by omega) (by rw [c2]; rfl) (by decide) eL_law_32 ?_
        exact lc_22 hC hX hbl hbA hRm (by omega) hL h (by omega) (by omega) nxt
      · refine vx_tableIn hC (tgt := 1003) hxr (by omega) (by rw [c2]; rfl) (by decide) eL_law_32 ?_
        exact lc_23 hC hX hbl hbA hRm (by omega) hL h (by omega) (by omega) nxt
      · refine vx_tableIn hC (tgt := 1046) hxr (by omega) (by rw [c2]; rfl) (by decide) eL_law_32 ?_
        exact lc_24 hC hX hbl hbA hRm (by omega) hL h (by omega) (by omega) nxt
      · refine vx_tableIn hC (tgt := 1069) hxr (by omega) (by rw [c2]; rfl) (by decide) eL_law_32 ?_
        exact lc_25 hC hX hbl hbA hRm (by omega) hL h (by omega) (by omega) nxt
      · refine vx_tableIn hC (tgt := 1102) hxr (by omega) (by rw [c2]; rfl) (by decide) eL_law_32 ?_
        exact lc_26 hC hX hbl hbA hRm (by omega) hL h (by omega) (by omega) nxt
      · refine vx_tableIn hC (tgt := 1115) hxr (by omega) (by rw [c2]; rfl) (by decide) eL_law_32 ?_
        exact lc_27 hC hX hbl hbA hRm (by omega) hL h (by omega) (by omega) nxt
      · refine vx_tableIn hC (tgt := 1128) hxr (by omega) (by rw [c2]; rfl) (by decide) eL_law_32 ?_
        exact lc_28 hC hX hbl hbA hRm (by omega) hL h (by omega) (by omega) nxt
      · refine vx_tableOut hC (tgt := 1151) hxr (by omega) (by decide) eL_law_32 ?_
        exact nxt n tau vi vl vr cells slots h (by omega) (by omega)
