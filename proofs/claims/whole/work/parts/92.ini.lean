theorem xz_z {vi : Nat → Int → Int} {n : Nat} (h : vi = fun _ _ => 0) : xz vi n (fun _ => 0) = vi := by subst h; funext a; unfold xz; split <;> rfl
def i6T (tau : Nat → Nat × Nat) (n : Nat) : Nat → Nat × Nat := (xz (xz (xz (xz (xz (xz tau n (13, 100)) (n + 1) (18, 5)) (n + 2) (17, 4)) (n + 3) (14, 4)) (n + 4) (14, 16)) (n + 5) (14, 6))
def i6C (vr : Nat → Int → Option Nat) (k n : Nat) : Nat → Int → Option Nat := (xu (xz (xu (xz (xu (xz (xu (xz (xu (xz (xu (xz vr n (fun _ => none)) k 0 (some n)) (n + 1) (fun _ => none)) k 2 (some (n + 1))) (n + 2) (fun _ => none)) k 4 (some (n + 2))) (n + 3) (fun _ => none)) k 5 (some (n + 3))) (n + 4) (fun _ => none)) k 6 (some (n + 4))) (n + 5) (fun _ => none)) k 11 (some (n + 5)))
theorem i6T_n {tau : Nat → Nat × Nat} {n a : Nat} (h : a < n) : i6T tau n a = tau a := by unfold i6T; rw [xz_n _ _ (by omega), xz_n _ _ (by omega), xz_n _ _ (by omega), xz_n _ _ (by omega), xz_n _ _ (by omega), xz_n _ _ (by omega)]
def i2T (tau : Nat → Nat × Nat) (n : Nat) : Nat → Nat × Nat := (xz (xz (xz (xz (xz (xz (xz (xz (xz (xz tau n (15, 13)) (n + 1) (15, 13)) (n + 2) (14, 13)) (n + 3) (14, 13)) (n + 4) (14, 13)) (n + 5) (14, 91)) (n + 6) (15, 169)) (n + 7) (15, 169)) (n + 8) (14, 3)) (n + 9) (15, 3))
def i2C (vr : Nat → Int → Option Nat) (k n : Nat) : Nat → Int → Option Nat := (xu (xz (xu (xz (xu (xz (xu (xz (xu (xz (xu (xz (xu (xz (xu (xz (xu (xz (xu (xz vr n (fun _ => none)) k 0 (some n)) (n + 1) (fun _ => none)) k 1 (some (n + 1))) (n + 2) (fun _ => none)) k 4 (some (n + 2))) (n + 3) (fun _ => none)) k 5 (some (n + 3))) (n + 4) (fun _ => none)) k 6 (some (n + 4))) (n + 5) (fun _ => none)) k 7 (some (n + 5))) (n + 6) (fun _ => none)) k 8 (some (n + 6))) (n + 7) (fun _ => none)) k 9 (some (n + 7))) (n + 8) (fun _ => none)) k 10 (some (n + 8))) (n + 9) (fun _ => none)) k 11 (some (n + 9)))
theorem i2T_n {tau : Nat → Nat × Nat} {n a : Nat} (h : a < n) : i2T tau n a = tau a := by unfold i2T; rw [xz_n _ _ (by omega), xz_n _ _ (by omega), xz_n _ _ (by omega), xz_n _ _ (by omega), xz_n _ _ (by omega), xz_n _ _ (by omega), xz_n _ _ (by omega), xz_n _ _ (by omega), xz_n _ _ (by omega), xz_n _ _ (by omega)]
def i5T (tau : Nat → Nat × Nat) (n : Nat) : Nat → Nat × Nat := (xz (xz (xz tau n (14, 10)) (n + 1) (14, 10)) (n + 2) (14, 100))
def i5C (vr : Nat → Int → Option Nat) (k n : Nat) : Nat → Int → Option Nat := (xu (xz (xu (xz (xu (xz vr n (fun _ => none)) k 3 (some n)) (n + 1) (fun _ => none)) k 4 (some (n + 1))) (n + 2) (fun _ => none)) k 6 (some (n + 2)))
theorem i5T_n {tau : Nat → Nat × Nat} {n a : Nat} (h : a < n) : i5T tau n a = tau a := by unfold i5T; rw [xz_n _ _ (by omega), xz_n _ _ (by omega), xz_n _ _ (by omega)]
def i12T (tau : Nat → Nat × Nat) (n : Nat) : Nat → Nat × Nat := (xz (xz (xz (xz (xz (xz (xz (xz (xz (xz (xz (xz (xz tau n (14, 876)) (n + 1) (14, 876)) (n + 2) (14, 6)) (n + 3) (16, 64)) (n + 4) (15, 13)) (n + 5) (15, 13)) (n + 6) (15, 13)) (n + 7) (15, 13)) (n + 8) (15, 169)) (n + 9) (15, 169)) (n + 10) (15, 7)) (n + 11) (15, 7)) (n + 12) (14, 20))
def i12C (vr : Nat → Int → Option Nat) (k n : Nat) : Nat → Int → Option Nat := (xu (xz (xu (xz (xu (xz (xu (xz (xu (xz (xu (xz (xu (xz (xu (xz (xu (xz (xu (xz (xu (xz (xu (xz (xu (xz vr n (fun _ => none)) k 1 (some n)) (n + 1) (fun _ => none)) k 2 (some (n + 1))) (n + 2) (fun _ => none)) k 9 (some (n + 2))) (n + 3) (fun _ => none)) k 10 (some (n + 3))) (n + 4) (fun _ => none)) k 11 (some (n + 4))) (n + 5) (fun _ => none)) k 12 (some (n + 5))) (n + 6) (fun _ => none)) k 14 (some (n + 6))) (n + 7) (fun _ => none)) k 15 (some (n + 7))) (n + 8) (fun _ => none)) k 17 (some (n + 8))) (n + 9) (fun _ => none)) k 18 (some (n + 9))) (n + 10) (fun _ => none)) k 19 (some (n + 10))) (n + 11) (fun _ => none)) k 20 (some (n + 11))) (n + 12) (fun _ => none)) k 21 (some (n + 12)))
theorem i12T_n {tau : Nat → Nat × Nat} {n a : Nat} (h : a < n) : i12T tau n a = tau a := by unfold i12T; rw [xz_n _ _ (by omega), xz_n _ _ (by omega), xz_n _ _ (by omega), xz_n _ _ (by omega), xz_n _ _ (by omega), xz_n _ _ (by omega), xz_n _ _ (by omega), xz_n _ _ (by omega), xz_n _ _ (by omega), xz_n _ _ (by omega), xz_n _ _ (by omega), xz_n _ _ (by omega), xz_n _ _ (by omega)]
set_option maxHeartbeats 4000000 in
set_option maxRecDepth 100000 in
theorem kX6_init (G : xg_T) (d : Nat) (n : Nat) (tau : Nat → Nat × Nat) (vi vl : Nat → Int → Int) (vr : Nat → Int → Option Nat) (k : Nat) (ht : k < n ∧ tau k = (6, 0)) (hn : n + 6 ≤ 100000) (hvi : vi = fun _ _ => 0) (hvl : vl = fun _ _ => 0) : xm G yX6_init cX6_init 1 none (d + 2) 6 135 [xa_r k] n tau vi vl vr (xp_v (fun n1 t1 a1 b1 c1 => n1 = n + 6 ∧ t1 = i6T tau n ∧ vi = a1 ∧ vl = b1 ∧ c1 = i6C vr k n)) := by
  refine xm.of (lv := [(0, xa_r k)]) (by decide) (Nat.le_of_ble_eq_true rfl) rfl (fun K hC hM hRm => ?_)
  refine vx_aload_n hC 0 rfl eX6_init_0 ?_
  refine vx_objInit hC hRm (by omega) ly_X6_3 (Nat.le_of_ble_eq_true rfl) eX6_init_1 ?_
  refine vx_aload_n hC 0 rfl eX6_init_4 ?_
  refine vx_bipush hC (by decide) eX6_init_5 ?_
  refine vx_newarrB hC (len := 100) rfl (by omega) wd_141 (by omega) hRm (by omega) eX6_init_7 ?_
  refine vx_hp (fun ng1 tg1 ag1 bg1 cg1 hng1 htg1 hag1 hbg1 hcg1 => ?_)
  have ug1_k : k < ng1 ∧ tg1 k = (6, _) := ⟨by have := (ht).1; omega, by rw [htg1, xz_n _ _ (by have := (ht).1; omega)]; exact (ht).2⟩
  have ug1 : n < ng1 ∧ tg1 n = (13, 100) := ⟨by omega, by rw [htg1, xz_s]⟩
  rw [xz_z hvi] at hag1; rw [xz_z hvl] at hbg1
  have hag1 := hag1.symm; have hbg1 := hbg1.symm; subst hag1; subst hbg1
  refine vx_pr hC 0 ug1_k lp_X6_9 rfl (Or.inr hM.2.2) eX6_init_9 ?_
  refine vx_vr (fun v2 hv2 => ?_)
  refine vx_aload_n hC 0 rfl eX6_init_12 ?_
  refine vx_iconst hC eX6_init_13 ?_
  refine vx_newarrT hC (len := 5) rfl (by omega) wd_88 (by omega) hRm (by omega) eX6_init_14 ?_
  refine vx_hp (fun ng3 tg3 ag3 bg3 cg3 hng3 htg3 hag3 hbg3 hcg3 => ?_)
  have ug3_k : k < ng3 ∧ tg3 k = (6, _) := ⟨by have := (ug1_k).1; omega, by rw [htg3, xz_n _ _ (by have := (ug1_k).1; omega)]; exact (ug1_k).2⟩
  have ug3_n : n < ng3 ∧ tg3 n = (13, _) := ⟨by have := (ug1).1; omega, by rw [htg3, xz_n _ _ (by have := (ug1).1; omega)]; exact (ug1).2⟩
  have ug3 : ng1 < ng3 ∧ tg3 ng1 = (18, 5) := ⟨by omega, by rw [htg3, xz_s]⟩
  rw [xz_z hvi] at hag3; rw [xz_z hvl] at hbg3
  have hag3 := hag3.symm; have hbg3 := hbg3.symm; subst hag3; subst hbg3
  refine vx_pr hC 2 ug3_k lp_X6_17 rfl (Or.inr hM.2.2) eX6_init_17 ?_
  refine vx_vr (fun v4 hv4 => ?_)
  refine vx_aload_n hC 0 rfl eX6_init_20 ?_
  refine vx_iconst hC eX6_init_21 ?_
  refine vx_newarrP hC (len := 4) rfl (by omega) wd_90 (by omega) hRm (by omega) eX6_init_22 ?_
  refine vx_hp (fun ng5 tg5 ag5 bg5 cg5 hng5 htg5 hag5 hbg5 hcg5 => ?_)
  have ug5_k : k < ng5 ∧ tg5 k = (6, _) := ⟨by have := (ug3_k).1; omega, by rw [htg5, xz_n _ _ (by have := (ug3_k).1; omega)]; exact (ug3_k).2⟩
  have ug5_n : n < ng5 ∧ tg5 n = (13, _) := ⟨by have := (ug3_n).1; omega, by rw [htg5, xz_n _ _ (by have := (ug3_n).1; omega)]; exact (ug3_n).2⟩
  have ug5_ng1 : ng1 < ng5 ∧ tg5 ng1 = (18, _) := ⟨by have := (ug3).1; omega, by rw [htg5, xz_n _ _ (by have := (ug3).1; omega)]; exact (ug3).2⟩
  have ug5 : ng3 < ng5 ∧ tg5 ng3 = (17, 4) := ⟨by omega, by rw [htg5, xz_s]⟩
  rw [xz_z hvi] at hag5; rw [xz_z hvl] at hbg5
  have hag5 := hag5.symm; have hbg5 := hbg5.symm; subst hag5; subst hbg5
  refine vx_pr hC 4 ug5_k lp_X6_23 rfl (Or.inr hM.2.2) eX6_init_25 ?_
  refine vx_vr (fun v6 hv6 => ?_)
  refine vx_aload_n hC 0 rfl eX6_init_28 ?_
  refine vx_iconst hC eX6_init_29 ?_
  refine vx_newarrI hC (len := 4) rfl (by omega) wd_142 (by omega) hRm (by omega) eX6_init_30 ?_
  refine vx_hp (fun ng7 tg7 ag7 bg7 cg7 hng7 htg7 hag7 hbg7 hcg7 => ?_)
  have ug7_k : k < ng7 ∧ tg7 k = (6, _) := ⟨by have := (ug5_k).1; omega, by rw [htg7, xz_n _ _ (by have := (ug5_k).1; omega)]; exact (ug5_k).2⟩
  have ug7_n : n < ng7 ∧ tg7 n = (13, _) := ⟨by have := (ug5_n).1; omega, by rw [htg7, xz_n _ _ (by have := (ug5_n).1; omega)]; exact (ug5_n).2⟩
  have ug7_ng1 : ng1 < ng7 ∧ tg7 ng1 = (18, _) := ⟨by have := (ug5_ng1).1; omega, by rw [htg7, xz_n _ _ (by have := (ug5_ng1).1; omega)]; exact (ug5_ng1).2⟩
  have ug7_ng3 : ng3 < ng7 ∧ tg7 ng3 = (17, _) := ⟨by have := (ug5).1; omega, by rw [htg7, xz_n _ _ (by have := (ug5).1; omega)]; exact (ug5).2⟩
  have ug7 : ng5 < ng7 ∧ tg7 ng5 = (14, 4) := ⟨by omega, by rw [htg7, xz_s]⟩
  rw [xz_z hvi] at hag7; rw [xz_z hvl] at hbg7
  have hag7 := hag7.symm; have hbg7 := hbg7.symm; subst hag7; subst hbg7
  refine vx_pr hC 5 ug7_k lp_X6_27 rfl (Or.inr hM.2.2) eX6_init_32 ?_
  refine vx_vr (fun v8 hv8 => ?_)
  refine vx_aload_n hC 0 rfl eX6_init_35 ?_
  refine vx_bipush hC (by decide) eX6_init_36 ?_
  refine vx_newarrI hC (len := 16) rfl (by omega) wd_142 (by omega) hRm (by omega) eX6_init_38 ?_
  refine vx_hp (fun ng9 tg9 ag9 bg9 cg9 hng9 htg9 hag9 hbg9 hcg9 => ?_)
  have ug9_k : k < ng9 ∧ tg9 k = (6, _) := ⟨by have := (ug7_k).1; omega, by rw [htg9, xz_n _ _ (by have := (ug7_k).1; omega)]; exact (ug7_k).2⟩
  have ug9_n : n < ng9 ∧ tg9 n = (13, _) := ⟨by have := (ug7_n).1; omega, by rw [htg9, xz_n _ _ (by have := (ug7_n).1; omega)]; exact (ug7_n).2⟩
  have ug9_ng1 : ng1 < ng9 ∧ tg9 ng1 = (18, _) := ⟨by have := (ug7_ng1).1; omega, by rw [htg9, xz_n _ _ (by have := (ug7_ng1).1; omega)]; exact (ug7_ng1).2⟩
  have ug9_ng3 : ng3 < ng9 ∧ tg9 ng3 = (17, _) := ⟨by have := (ug7_ng3).1; omega, by rw [htg9, xz_n _ _ (by have := (ug7_ng3).1; omega)]; exact (ug7_ng3).2⟩
  have ug9_ng5 : ng5 < ng9 ∧ tg9 ng5 = (14, _) := ⟨by have := (ug7).1; omega, by rw [htg9, xz_n _ _ (by have := (ug7).1; omega)]; exact (ug7).2⟩
  have ug9 : ng7 < ng9 ∧ tg9 ng7 = (14, 16) := ⟨by omega, by rw [htg9, xz_s]⟩
  rw [xz_z hvi] at hag9; rw [xz_z hvl] at hbg9
  have hag9 := hag9.symm; have hbg9 := hbg9.symm; subst hag9; subst hbg9
  refine vx_pr hC 6 ug9_k lp_X6_31 rfl (Or.inr hM.2.2) eX6_init_40 ?_
  refine vx_vr (fun v10 hv10 => ?_)
  refine vx_aload_n hC 0 rfl eX6_init_43 ?_
  refine vx_bipush hC (by decide) eX6_init_44 ?_
  refine vx_newarrI hC (len := 6) rfl (by omega) wd_142 (by omega) hRm (by omega) eX6_init_46 ?_
  refine vx_hp (fun ng11 tg11 ag11 bg11 cg11 hng11 htg11 hag11 hbg11 hcg11 => ?_)
  have ug11_k : k < ng11 ∧ tg11 k = (6, _) := ⟨by have := (ug9_k).1; omega, by rw [htg11, xz_n _ _ (by have := (ug9_k).1; omega)]; exact (ug9_k).2⟩
  have ug11_n : n < ng11 ∧ tg11 n = (13, _) := ⟨by have := (ug9_n).1; omega, by rw [htg11, xz_n _ _ (by have := (ug9_n).1; omega)]; exact (ug9_n).2⟩
  have ug11_ng1 : ng1 < ng11 ∧ tg11 ng1 = (18, _) := ⟨by have := (ug9_ng1).1; omega, by rw [htg11, xz_n _ _ (by have := (ug9_ng1).1; omega)]; exact (ug9_ng1).2⟩
  have ug11_ng3 : ng3 < ng11 ∧ tg11 ng3 = (17, _) := ⟨by have := (ug9_ng3).1; omega, by rw [htg11, xz_n _ _ (by have := (ug9_ng3).1; omega)]; exact (ug9_ng3).2⟩
  have ug11_ng5 : ng5 < ng11 ∧ tg11 ng5 = (14, _) := ⟨by have := (ug9_ng5).1; omega, by rw [htg11, xz_n _ _ (by have := (ug9_ng5).1; omega)]; exact (ug9_ng5).2⟩
  have ug11_ng7 : ng7 < ng11 ∧ tg11 ng7 = (14, _) := ⟨by have := (ug9).1; omega, by rw [htg11, xz_n _ _ (by have := (ug9).1; omega)]; exact (ug9).2⟩
  have ug11 : ng9 < ng11 ∧ tg11 ng9 = (14, 6) := ⟨by omega, by rw [htg11, xz_s]⟩
  rw [xz_z hvi] at hag11; rw [xz_z hvl] at hbg11
  have hag11 := hag11.symm; have hbg11 := hbg11.symm; subst hag11; subst hbg11
  refine vx_pr hC 11 ug11_k lp_X6_34 rfl (Or.inr hM.2.2) eX6_init_48 ?_
  refine vx_vr (fun v12 hv12 => ?_)
  refine vx_up (c1 := 0 + 1 + 1 + 1 + 1 + 1 + 1) (s1 := 0 + 100 + 5 + 4 + 4 + 16 + 6) (by omega) (by omega) ?_
  exact vx_vret hC hM eX6_init_51 (⟨rfl, (by omega), (by subst_vars; rfl), rfl, rfl, (by subst_vars; rfl)⟩)
set_option maxHeartbeats 4000000 in
set_option maxRecDepth 100000 in
theorem kX2_init (G : xg_T) (d : Nat) (n : Nat) (tau : Nat → Nat × Nat) (vi vl : Nat → Int → Int) (vr : Nat → Int → Option Nat) (k : Nat) (ht : k < n ∧ tau k = (2, 0)) (hn : n + 10 ≤ 100000) (hvi : vi = fun _ _ => 0) (hvl : vl = fun _ _ => 0) : xm G yX2_init cX2_init 1 none (d + 2) 10 500 [xa_r k] n tau vi vl vr (xp_v (fun n1 t1 a1 b1 c1 => n1 = n + 10 ∧ t1 = i2T tau n ∧ vi = a1 ∧ vl = b1 ∧ c1 = i2C vr k n)) := by
  refine xm.of (lv := [(0, xa_r k)]) (by decide) (Nat.le_of_ble_eq_true rfl) rfl (fun K hC hM hRm => ?_)
  refine vx_aload_n hC 0 rfl eX2_init_0 ?_
  refine vx_objInit hC hRm (by omega) ly_X2_3 (Nat.le_of_ble_eq_true rfl) eX2_init_1 ?_
  refine vx_aload_n hC 0 rfl eX2_init_4 ?_
  refine vx_bipush hC (by decide) eX2_init_5 ?_
  refine vx_newarrJ hC (len := 13) rfl (by omega) wd_191 (by omega) hRm (by omega) eX2_init_7 ?_
  refine vx_hp (fun ng1 tg1 ag1 bg1 cg1 hng1 htg1 hag1 hbg1 hcg1 => ?_)
  have ug1_k : k < ng1 ∧ tg1 k = (2, _) := ⟨by have := (ht).1; omega, by rw [htg1, xz_n _ _ (by have := (ht).1; omega)]; exact (ht).2⟩
  have ug1 : n < ng1 ∧ tg1 n = (15, 13) := ⟨by omega, by rw [htg1, xz_s]⟩
  rw [xz_z hvi] at hag1; rw [xz_z hvl] at hbg1
  have hag1 := hag1.symm; have hbg1 := hbg1.symm; subst hag1; subst hbg1
  refine vx_pr hC 0 ug1_k lp_X2_11 rfl (Or.inr hM.2.2) eX2_init_9 ?_
  refine vx_vr (fun v2 hv2 => ?_)
  refine vx_aload_n hC 0 rfl eX2_init_12 ?_
  refine vx_bipush hC (by decide) eX2_init_13 ?_
  refine vx_newarrJ hC (len := 13) rfl (by omega) wd_191 (by omega) hRm (by omega) eX2_init_15 ?_
  refine vx_hp (fun ng3 tg3 ag3 bg3 cg3 hng3 htg3 hag3 hbg3 hcg3 => ?_)
  have ug3_k : k < ng3 ∧ tg3 k = (2, _) := ⟨by have := (ug1_k).1; omega, by rw [htg3, xz_n _ _ (by have := (ug1_k).1; omega)]; exact (ug1_k).2⟩
  have ug3_n : n < ng3 ∧ tg3 n = (15, _) := ⟨by have := (ug1).1; omega, by rw [htg3, xz_n _ _ (by have := (ug1).1; omega)]; exact (ug1).2⟩
  have ug3 : ng1 < ng3 ∧ tg3 ng1 = (15, 13) := ⟨by omega, by rw [htg3, xz_s]⟩
  rw [xz_z hvi] at hag3; rw [xz_z hvl] at hbg3
  have hag3 := hag3.symm; have hbg3 := hbg3.symm; subst hag3; subst hbg3
  refine vx_pr hC 1 ug3_k lp_X2_15 rfl (Or.inr hM.2.2) eX2_init_17 ?_
  refine vx_vr (fun v4 hv4 => ?_)
  refine vx_aload_n hC 0 rfl eX2_init_20 ?_
  refine vx_bipush hC (by decide) eX2_init_21 ?_
  refine vx_newarrI hC (len := 13) rfl (by omega) wd_142 (by omega) hRm (by omega) eX2_init_23 ?_
  refine vx_hp (fun ng5 tg5 ag5 bg5 cg5 hng5 htg5 hag5 hbg5 hcg5 => ?_)
  have ug5_k : k < ng5 ∧ tg5 k = (2, _) := ⟨by have := (ug3_k).1; omega, by rw [htg5, xz_n _ _ (by have := (ug3_k).1; omega)]; exact (ug3_k).2⟩
  have ug5_n : n < ng5 ∧ tg5 n = (15, _) := ⟨by have := (ug3_n).1; omega, by rw [htg5, xz_n _ _ (by have := (ug3_n).1; omega)]; exact (ug3_n).2⟩
  have ug5_ng1 : ng1 < ng5 ∧ tg5 ng1 = (15, _) := ⟨by have := (ug3).1; omega, by rw [htg5, xz_n _ _ (by have := (ug3).1; omega)]; exact (ug3).2⟩
  have ug5 : ng3 < ng5 ∧ tg5 ng3 = (14, 13) := ⟨by omega, by rw [htg5, xz_s]⟩
  rw [xz_z hvi] at hag5; rw [xz_z hvl] at hbg5
  have hag5 := hag5.symm; have hbg5 := hbg5.symm; subst hag5; subst hbg5
  refine vx_pr hC 4 ug5_k lp_X2_18 rfl (Or.inr hM.2.2) eX2_init_25 ?_
  refine vx_vr (fun v6 hv6 => ?_)
  refine vx_aload_n hC 0 rfl eX2_init_28 ?_
  refine vx_bipush hC (by decide) eX2_init_29 ?_
  refine vx_newarrI hC (len := 13) rfl (by omega) wd_142 (by omega) hRm (by omega) eX2_init_31 ?_
  refine vx_hp (fun ng7 tg7 ag7 bg7 cg7 hng7 htg7 hag7 hbg7 hcg7 => ?_)
  have ug7_k : k < ng7 ∧ tg7 k = (2, _) := ⟨by have := (ug5_k).1; omega, by rw [htg7, xz_n _ _ (by have := (ug5_k).1; omega)]; exact (ug5_k).2⟩
  have ug7_n : n < ng7 ∧ tg7 n = (15, _) := ⟨by have := (ug5_n).1; omega, by rw [htg7, xz_n _ _ (by have := (ug5_n).1; omega)]; exact (ug5_n).2⟩
  have ug7_ng1 : ng1 < ng7 ∧ tg7 ng1 = (15, _) := ⟨by have := (ug5_ng1).1; omega, by rw [htg7, xz_n _ _ (by have := (ug5_ng1).1; omega)]; exact (ug5_ng1).2⟩
  have ug7_ng3 : ng3 < ng7 ∧ tg7 ng3 = (14, _) := ⟨by have := (ug5).1; omega, by rw [htg7, xz_n _ _ (by have := (ug5).1; omega)]; exact (ug5).2⟩
  have ug7 : ng5 < ng7 ∧ tg7 ng5 = (14, 13) := ⟨by omega, by rw [htg7, xz_s]⟩
  rw [xz_z hvi] at hag7; rw [xz_z hvl] at hbg7
  have hag7 := hag7.symm; have hbg7 := hbg7.symm; subst hag7; subst hbg7
  refine vx_pr hC 5 ug7_k lp_X2_22 rfl (Or.inr hM.2.2) eX2_init_33 ?_
  refine vx_vr (fun v8 hv8 => ?_)
  refine vx_aload_n hC 0 rfl eX2_init_36 ?_
  refine vx_bipush hC (by decide) eX2_init_37 ?_
  refine vx_newarrI hC (len := 13) rfl (by omega) wd_142 (by omega) hRm (by omega) eX2_init_39 ?_
  refine vx_hp (fun ng9 tg9 ag9 bg9 cg9 hng9 htg9 hag9 hbg9 hcg9 => ?_)
  have ug9_k : k < ng9 ∧ tg9 k = (2, _) := ⟨by have := (ug7_k).1; omega, by rw [htg9, xz_n _ _ (by have := (ug7_k).1; omega)]; exact (ug7_k).2⟩
  have ug9_n : n < ng9 ∧ tg9 n = (15, _) := ⟨by have := (ug7_n).1; omega, by rw [htg9, xz_n _ _ (by have := (ug7_n).1; omega)]; exact (ug7_n).2⟩
  have ug9_ng1 : ng1 < ng9 ∧ tg9 ng1 = (15, _) := ⟨by have := (ug7_ng1).1; omega, by rw [htg9, xz_n _ _ (by have := (ug7_ng1).1; omega)]; exact (ug7_ng1).2⟩
  have ug9_ng3 : ng3 < ng9 ∧ tg9 ng3 = (14, _) := ⟨by have := (ug7_ng3).1; omega, by rw [htg9, xz_n _ _ (by have := (ug7_ng3).1; omega)]; exact (ug7_ng3).2⟩
  have ug9_ng5 : ng5 < ng9 ∧ tg9 ng5 = (14, _) := ⟨by have := (ug7).1; omega, by rw [htg9, xz_n _ _ (by have := (ug7).1; omega)]; exact (ug7).2⟩
  have ug9 : ng7 < ng9 ∧ tg9 ng7 = (14, 13) := ⟨by omega, by rw [htg9, xz_s]⟩
  rw [xz_z hvi] at hag9; rw [xz_z hvl] at hbg9
  have hag9 := hag9.symm; have hbg9 := hbg9.symm; subst hag9; subst hbg9
  refine vx_pr hC 6 ug9_k lp_X2_25 rfl (Or.inr hM.2.2) eX2_init_41 ?_
  refine vx_vr (fun v10 hv10 => ?_)
  refine vx_aload_n hC 0 rfl eX2_init_44 ?_
  refine vx_bipush hC (by decide) eX2_init_45 ?_
  refine vx_newarrI hC (len := 91) rfl (by omega) wd_142 (by omega) hRm (by omega) eX2_init_47 ?_
  refine vx_hp (fun ng11 tg11 ag11 bg11 cg11 hng11 htg11 hag11 hbg11 hcg11 => ?_)
  have ug11_k : k < ng11 ∧ tg11 k = (2, _) := ⟨by have := (ug9_k).1; omega, by rw [htg11, xz_n _ _ (by have := (ug9_k).1; omega)]; exact (ug9_k).2⟩
  have ug11_n : n < ng11 ∧ tg11 n = (15, _) := ⟨by have := (ug9_n).1; omega, by rw [htg11, xz_n _ _ (by have := (ug9_n).1; omega)]; exact (ug9_n).2⟩
  have ug11_ng1 : ng1 < ng11 ∧ tg11 ng1 = (15, _) := ⟨by have := (ug9_ng1).1; omega, by rw [htg11, xz_n _ _ (by have := (ug9_ng1).1; omega)]; exact (ug9_ng1).2⟩
  have ug11_ng3 : ng3 < ng11 ∧ tg11 ng3 = (14, _) := ⟨by have := (ug9_ng3).1; omega, by rw [htg11, xz_n _ _ (by have := (ug9_ng3).1; omega)]; exact (ug9_ng3).2⟩
  have ug11_ng5 : ng5 < ng11 ∧ tg11 ng5 = (14, _) := ⟨by have := (ug9_ng5).1; omega, by rw [htg11, xz_n _ _ (by have := (ug9_ng5).1; omega)]; exact (ug9_ng5).2⟩
  have ug11_ng7 : ng7 < ng11 ∧ tg11 ng7 = (14, _) := ⟨by have := (ug9).1; omega, by rw [htg11, xz_n _ _ (by have := (ug9).1; omega)]; exact (ug9).2⟩
  have ug11 : ng9 < ng11 ∧ tg11 ng9 = (14, 91) := ⟨by omega, by rw [htg11, xz_s]⟩
  rw [xz_z hvi] at hag11; rw [xz_z hvl] at hbg11
  have hag11 := hag11.symm; have hbg11 := hbg11.symm; subst hag11; subst hbg11
  refine vx_pr hC 7 ug11_k lp_X2_28 rfl (Or.inr hM.2.2) eX2_init_49 ?_
  refine vx_vr (fun v12 hv12 => ?_)
  refine vx_aload_n hC 0 rfl eX2_init_52 ?_
  refine vx_sipush hC (by decide) eX2_init_53 ?_
  refine vx_newarrJ hC (len := 169) rfl (by omega) wd_191 (by omega) hRm (by omega) eX2_init_56 ?_
  refine vx_hp (fun ng13 tg13 ag13 bg13 cg13 hng13 htg13 hag13 hbg13 hcg13 => ?_)
  have ug13_k : k < ng13 ∧ tg13 k = (2, _) := ⟨by have := (ug11_k).1; omega, by rw [htg13, xz_n _ _ (by have := (ug11_k).1; omega)]; exact (ug11_k).2⟩
  have ug13_n : n < ng13 ∧ tg13 n = (15, _) := ⟨by have := (ug11_n).1; omega, by rw [htg13, xz_n _ _ (by have := (ug11_n).1; omega)]; exact (ug11_n).2⟩
  have ug13_ng1 : ng1 < ng13 ∧ tg13 ng1 = (15, _) := ⟨by have := (ug11_ng1).1; omega, by rw [htg13, xz_n _ _ (by have := (ug11_ng1).1; omega)]; exact (ug11_ng1).2⟩
  have ug13_ng3 : ng3 < ng13 ∧ tg13 ng3 = (14, _) := ⟨by have := (ug11_ng3).1; omega, by rw [htg13, xz_n _ _ (by have := (ug11_ng3).1; omega)]; exact (ug11_ng3).2⟩
  have ug13_ng5 : ng5 < ng13 ∧ tg13 ng5 = (14, _) := ⟨by have := (ug11_ng5).1; omega, by rw [htg13, xz_n _ _ (by have := (ug11_ng5).1; omega)]; exact (ug11_ng5).2⟩
  have ug13_ng7 : ng7 < ng13 ∧ tg13 ng7 = (14, _) := ⟨by have := (ug11_ng7).1; omega, by rw [htg13, xz_n _ _ (by have := (ug11_ng7).1; omega)]; exact (ug11_ng7).2⟩
  have ug13_ng9 : ng9 < ng13 ∧ tg13 ng9 = (14, _) := ⟨by have := (ug11).1; omega, by rw [htg13, xz_n _ _ (by have := (ug11).1; omega)]; exact (ug11).2⟩
  have ug13 : ng11 < ng13 ∧ tg13 ng11 = (15, 169) := ⟨by omega, by rw [htg13, xz_s]⟩
  rw [xz_z hvi] at hag13; rw [xz_z hvl] at hbg13
  have hag13 := hag13.symm; have hbg13 := hbg13.symm; subst hag13; subst hbg13
  refine vx_pr hC 8 ug13_k lp_X2_31 rfl (Or.inl rfl) eX2_init_58 ?_
  refine vx_vr (fun v14 hv14 => ?_)
  refine vx_aload_n hC 0 rfl eX2_init_61 ?_
  refine vx_sipush hC (by decide) eX2_init_62 ?_
  refine vx_newarrJ hC (len := 169) rfl (by omega) wd_191 (by omega) hRm (by omega) eX2_init_65 ?_
  refine vx_hp (fun ng15 tg15 ag15 bg15 cg15 hng15 htg15 hag15 hbg15 hcg15 => ?_)
  have ug15_k : k < ng15 ∧ tg15 k = (2, _) := ⟨by have := (ug13_k).1; omega, by rw [htg15, xz_n _ _ (by have := (ug13_k).1; omega)]; exact (ug13_k).2⟩
  have ug15_n : n < ng15 ∧ tg15 n = (15, _) := ⟨by have := (ug13_n).1; omega, by rw [htg15, xz_n _ _ (by have := (ug13_n).1; omega)]; exact (ug13_n).2⟩
  have ug15_ng1 : ng1 < ng15 ∧ tg15 ng1 = (15, _) := ⟨by have := (ug13_ng1).1; omega, by rw [htg15, xz_n _ _ (by have := (ug13_ng1).1; omega)]; exact (ug13_ng1).2⟩
  have ug15_ng3 : ng3 < ng15 ∧ tg15 ng3 = (14, _) := ⟨by have := (ug13_ng3).1; omega, by rw [htg15, xz_n _ _ (by have := (ug13_ng3).1; omega)]; exact (ug13_ng3).2⟩
  have ug15_ng5 : ng5 < ng15 ∧ tg15 ng5 = (14, _) := ⟨by have := (ug13_ng5).1; omega, by rw [htg15, xz_n _ _ (by have := (ug13_ng5).1; omega)]; exact (ug13_ng5).2⟩
  have ug15_ng7 : ng7 < ng15 ∧ tg15 ng7 = (14, _) := ⟨by have := (ug13_ng7).1; omega, by rw [htg15, xz_n _ _ (by have := (ug13_ng7).1; omega)]; exact (ug13_ng7).2⟩
  have ug15_ng9 : ng9 < ng15 ∧ tg15 ng9 = (14, _) := ⟨by have := (ug13_ng9).1; omega, by rw [htg15, xz_n _ _ (by have := (ug13_ng9).1; omega)]; exact (ug13_ng9).2⟩
  have ug15_ng11 : ng11 < ng15 ∧ tg15 ng11 = (15, _) := ⟨by have := (ug13).1; omega, by rw [htg15, xz_n _ _ (by have := (ug13).1; omega)]; exact (ug13).2⟩
  have ug15 : ng13 < ng15 ∧ tg15 ng13 = (15, 169) := ⟨by omega, by rw [htg15, xz_s]⟩
  rw [xz_z hvi] at hag15; rw [xz_z hvl] at hbg15
  have hag15 := hag15.symm; have hbg15 := hbg15.symm; subst hag15; subst hbg15
  refine vx_pr hC 9 ug15_k lp_X2_34 rfl (Or.inl rfl) eX2_init_67 ?_
  refine vx_vr (fun v16 hv16 => ?_)
  refine vx_aload_n hC 0 rfl eX2_init_70 ?_
  refine vx_iconst hC eX2_init_71 ?_
  refine vx_newarrI hC (len := 3) rfl (by omega) wd_142 (by omega) hRm (by omega) eX2_init_72 ?_
  refine vx_hp (fun ng17 tg17 ag17 bg17 cg17 hng17 htg17 hag17 hbg17 hcg17 => ?_)
  have ug17_k : k < ng17 ∧ tg17 k = (2, _) := ⟨by have := (ug15_k).1; omega, by rw [htg17, xz_n _ _ (by have := (ug15_k).1; omega)]; exact (ug15_k).2⟩
  have ug17_n : n < ng17 ∧ tg17 n = (15, _) := ⟨by have := (ug15_n).1; omega, by rw [htg17, xz_n _ _ (by have := (ug15_n).1; omega)]; exact (ug15_n).2⟩
  have ug17_ng1 : ng1 < ng17 ∧ tg17 ng1 = (15, _) := ⟨by have := (ug15_ng1).1; omega, by rw [htg17, xz_n _ _ (by have := (ug15_ng1).1; omega)]; exact (ug15_ng1).2⟩
  have ug17_ng3 : ng3 < ng17 ∧ tg17 ng3 = (14, _) := ⟨by have := (ug15_ng3).1; omega, by rw [htg17, xz_n _ _ (by have := (ug15_ng3).1; omega)]; exact (ug15_ng3).2⟩
  have ug17_ng5 : ng5 < ng17 ∧ tg17 ng5 = (14, _) := ⟨by have := (ug15_ng5).1; omega, by rw [htg17, xz_n _ _ (by have := (ug15_ng5).1; omega)]; exact (ug15_ng5).2⟩
  have ug17_ng7 : ng7 < ng17 ∧ tg17 ng7 = (14, _) := ⟨by have := (ug15_ng7).1; omega, by rw [htg17, xz_n _ _ (by have := (ug15_ng7).1; omega)]; exact (ug15_ng7).2⟩
  have ug17_ng9 : ng9 < ng17 ∧ tg17 ng9 = (14, _) := ⟨by have := (ug15_ng9).1; omega, by rw [htg17, xz_n _ _ (by have := (ug15_ng9).1; omega)]; exact (ug15_ng9).2⟩
  have ug17_ng11 : ng11 < ng17 ∧ tg17 ng11 = (15, _) := ⟨by have := (ug15_ng11).1; omega, by rw [htg17, xz_n _ _ (by have := (ug15_ng11).1; omega)]; exact (ug15_ng11).2⟩
  have ug17_ng13 : ng13 < ng17 ∧ tg17 ng13 = (15, _) := ⟨by have := (ug15).1; omega, by rw [htg17, xz_n _ _ (by have := (ug15).1; omega)]; exact (ug15).2⟩
  have ug17 : ng15 < ng17 ∧ tg17 ng15 = (14, 3) := ⟨by omega, by rw [htg17, xz_s]⟩
  rw [xz_z hvi] at hag17; rw [xz_z hvl] at hbg17
  have hag17 := hag17.symm; have hbg17 := hbg17.symm; subst hag17; subst hbg17
  refine vx_pr hC 10 ug17_k lp_X2_37 rfl (Or.inr hM.2.2) eX2_init_74 ?_
  refine vx_vr (fun v18 hv18 => ?_)
  refine vx_aload_n hC 0 rfl eX2_init_77 ?_
  refine vx_iconst hC eX2_init_78 ?_
  refine vx_newarrJ hC (len := 3) rfl (by omega) wd_191 (by omega) hRm (by omega) eX2_init_79 ?_
  refine vx_hp (fun ng19 tg19 ag19 bg19 cg19 hng19 htg19 hag19 hbg19 hcg19 => ?_)
  have ug19_k : k < ng19 ∧ tg19 k = (2, _) := ⟨by have := (ug17_k).1; omega, by rw [htg19, xz_n _ _ (by have := (ug17_k).1; omega)]; exact (ug17_k).2⟩
  have ug19_n : n < ng19 ∧ tg19 n = (15, _) := ⟨by have := (ug17_n).1; omega, by rw [htg19, xz_n _ _ (by have := (ug17_n).1; omega)]; exact (ug17_n).2⟩
  have ug19_ng1 : ng1 < ng19 ∧ tg19 ng1 = (15, _) := ⟨by have := (ug17_ng1).1; omega, by rw [htg19, xz_n _ _ (by have := (ug17_ng1).1; omega)]; exact (ug17_ng1).2⟩
  have ug19_ng3 : ng3 < ng19 ∧ tg19 ng3 = (14, _) := ⟨by have := (ug17_ng3).1; omega, by rw [htg19, xz_n _ _ (by have := (ug17_ng3).1; omega)]; exact (ug17_ng3).2⟩
  have ug19_ng5 : ng5 < ng19 ∧ tg19 ng5 = (14, _) := ⟨by have := (ug17_ng5).1; omega, by rw [htg19, xz_n _ _ (by have := (ug17_ng5).1; omega)]; exact (ug17_ng5).2⟩
  have ug19_ng7 : ng7 < ng19 ∧ tg19 ng7 = (14, _) := ⟨by have := (ug17_ng7).1; omega, by rw [htg19, xz_n _ _ (by have := (ug17_ng7).1; omega)]; exact (ug17_ng7).2⟩
  have ug19_ng9 : ng9 < ng19 ∧ tg19 ng9 = (14, _) := ⟨by have := (ug17_ng9).1; omega, by rw [htg19, xz_n _ _ (by have := (ug17_ng9).1; omega)]; exact (ug17_ng9).2⟩
  have ug19_ng11 : ng11 < ng19 ∧ tg19 ng11 = (15, _) := ⟨by have := (ug17_ng11).1; omega, by rw [htg19, xz_n _ _ (by have := (ug17_ng11).1; omega)]; exact (ug17_ng11).2⟩
  have ug19_ng13 : ng13 < ng19 ∧ tg19 ng13 = (15, _) := ⟨by have := (ug17_ng13).1; omega, by rw [htg19, xz_n _ _ (by have := (ug17_ng13).1; omega)]; exact (ug17_ng13).2⟩
  have ug19_ng15 : ng15 < ng19 ∧ tg19 ng15 = (14, _) := ⟨by have := (ug17).1; omega, by rw [htg19, xz_n _ _ (by have := (ug17).1; omega)]; exact (ug17).2⟩
  have ug19 : ng17 < ng19 ∧ tg19 ng17 = (15, 3) := ⟨by omega, by rw [htg19, xz_s]⟩
  rw [xz_z hvi] at hag19; rw [xz_z hvl] at hbg19
  have hag19 := hag19.symm; have hbg19 := hbg19.symm; subst hag19; subst hbg19
  refine vx_pr hC 11 ug19_k lp_X2_40 rfl (Or.inr hM.2.2) eX2_init_81 ?_
  refine vx_vr (fun v20 hv20 => ?_)
  refine vx_up (c1 := 0 + 1 + 1 + 1 + 1 + 1 + 1 + 1 + 1 + 1 + 1) (s1 := 0 + 13 + 13 + 13 + 13 + 13 + 91 + 169 + 169 + 3 + 3) (by omega) (by omega) ?_
  exact vx_vret hC hM eX2_init_84 (⟨rfl, (by omega), (by subst_vars; rfl), rfl, rfl, (by subst_vars; rfl)⟩)
set_option maxHeartbeats 4000000 in
set_option maxRecDepth 100000 in
theorem kX5_init (G : xg_T) (d : Nat) (n : Nat) (tau : Nat → Nat × Nat) (vi vl : Nat → Int → Int) (vr : Nat → Int → Option Nat) (k : Nat) (ht : k < n ∧ tau k = (5, 0)) (hn : n + 3 ≤ 100000) (hvi : vi = fun _ _ => 0) (hvl : vl = fun _ _ => 0) : xm G yX5_init cX5_init 1 none (d + 2) 3 120 [xa_r k] n tau vi vl vr (xp_v (fun n1 t1 a1 b1 c1 => n1 = n + 3 ∧ t1 = i5T tau n ∧ vi = a1 ∧ vl = b1 ∧ c1 = i5C vr k n)) := by
  refine xm.of (lv := [(0, xa_r k)]) (by decide) (Nat.le_of_ble_eq_true rfl) rfl (fun K hC hM hRm => ?_)
  refine vx_aload_n hC 0 rfl eX5_init_0 ?_
  refine vx_objInit hC hRm (by omega) ly_X5_3 (Nat.le_of_ble_eq_true rfl) eX5_init_1 ?_
  refine vx_aload_n hC 0 rfl eX5_init_4 ?_
  refine vx_bipush hC (by decide) eX5_init_5 ?_
  refine vx_newarrI hC (len := 10) rfl (by omega) wd_142 (by omega) hRm (by omega) eX5_init_7 ?_
  refine vx_hp (fun ng1 tg1 ag1 bg1 cg1 hng1 htg1 hag1 hbg1 hcg1 => ?_)
  have ug1_k : k < ng1 ∧ tg1 k = (5, _) := ⟨by have := (ht).1; omega, by rw [htg1, xz_n _ _ (by have := (ht).1; omega)]; exact (ht).2⟩
  have ug1 : n < ng1 ∧ tg1 n = (14, 10) := ⟨by omega, by rw [htg1, xz_s]⟩
  rw [xz_z hvi] at hag1; rw [xz_z hvl] at hbg1
  have hag1 := hag1.symm; have hbg1 := hbg1.symm; subst hag1; subst hbg1
  refine vx_pr hC 3 ug1_k lp_X5_9 rfl (Or.inr hM.2.2) eX5_init_9 ?_
  refine vx_vr (fun v2 hv2 => ?_)
  refine vx_aload_n hC 0 rfl eX5_init_12 ?_
  refine vx_bipush hC (by decide) eX5_init_13 ?_
  refine vx_newarrI hC (len := 10) rfl (by omega) wd_142 (by omega) hRm (by omega) eX5_init_15 ?_
  refine vx_hp (fun ng3 tg3 ag3 bg3 cg3 hng3 htg3 hag3 hbg3 hcg3 => ?_)
  have ug3_k : k < ng3 ∧ tg3 k = (5, _) := ⟨by have := (ug1_k).1; omega, by rw [htg3, xz_n _ _ (by have := (ug1_k).1; omega)]; exact (ug1_k).2⟩
  have ug3_n : n < ng3 ∧ tg3 n = (14, _) := ⟨by have := (ug1).1; omega, by rw [htg3, xz_n _ _ (by have := (ug1).1; omega)]; exact (ug1).2⟩
  have ug3 : ng1 < ng3 ∧ tg3 ng1 = (14, 10) := ⟨by omega, by rw [htg3, xz_s]⟩
  rw [xz_z hvi] at hag3; rw [xz_z hvl] at hbg3
  have hag3 := hag3.symm; have hbg3 := hbg3.symm; subst hag3; subst hbg3
  refine vx_pr hC 4 ug3_k lp_X5_15 rfl (Or.inr hM.2.2) eX5_init_17 ?_
  refine vx_vr (fun v4 hv4 => ?_)
  refine vx_aload_n hC 0 rfl eX5_init_20 ?_
  refine vx_bipush hC (by decide) eX5_init_21 ?_
  refine vx_newarrI hC (len := 100) rfl (by omega) wd_142 (by omega) hRm (by omega) eX5_init_23 ?_
  refine vx_hp (fun ng5 tg5 ag5 bg5 cg5 hng5 htg5 hag5 hbg5 hcg5 => ?_)
  have ug5_k : k < ng5 ∧ tg5 k = (5, _) := ⟨by have := (ug3_k).1; omega, by rw [htg5, xz_n _ _ (by have := (ug3_k).1; omega)]; exact (ug3_k).2⟩
  have ug5_n : n < ng5 ∧ tg5 n = (14, _) := ⟨by have := (ug3_n).1; omega, by rw [htg5, xz_n _ _ (by have := (ug3_n).1; omega)]; exact (ug3_n).2⟩
  have ug5_ng1 : ng1 < ng5 ∧ tg5 ng1 = (14, _) := ⟨by have := (ug3).1; omega, by rw [htg5, xz_n _ _ (by have := (ug3).1; omega)]; exact (ug3).2⟩
  have ug5 : ng3 < ng5 ∧ tg5 ng3 = (14, 100) := ⟨by omega, by rw [htg5, xz_s]⟩
  rw [xz_z hvi] at hag5; rw [xz_z hvl] at hbg5
  have hag5 := hag5.symm; have hbg5 := hbg5.symm; subst hag5; subst hbg5
  refine vx_pr hC 6 ug5_k lp_X5_18 rfl (Or.inr hM.2.2) eX5_init_25 ?_
  refine vx_vr (fun v6 hv6 => ?_)
  refine vx_up (c1 := 0 + 1 + 1 + 1) (s1 := 0 + 10 + 10 + 100) (by omega) (by omega) ?_
  exact vx_vret hC hM eX5_init_28 (⟨rfl, (by omega), (by subst_vars; rfl), rfl, rfl, (by subst_vars; rfl)⟩)
set_option maxHeartbeats 4000000 in
set_option maxRecDepth 100000 in
theorem kX12_init (G : xg_T) (d : Nat) (n : Nat) (tau : Nat → Nat × Nat) (vi vl : Nat → Int → Int) (vr : Nat → Int → Option Nat) (k : Nat) (ht : k < n ∧ tau k = (12, 0)) (hn : n + 13 ≤ 100000) (hvi : vi = fun _ _ => 0) (hvl : vl = fun _ _ => 0) : xm G yX12_init cX12_init 1 none (d + 2) 13 2246 [xa_r k] n tau vi vl vr (xp_v (fun n1 t1 a1 b1 c1 => n1 = n + 13 ∧ t1 = i12T tau n ∧ a1 = xu vi n 4 (-1) ∧ vl = b1 ∧ c1 = i12C vr k n)) := by
  refine xm.of (lv := [(0, xa_r k)]) (by decide) (Nat.le_of_ble_eq_true rfl) rfl (fun K hC hM hRm => ?_)
  refine vx_aload_n hC 0 rfl eX12_init_0 ?_
  refine vx_objInit hC hRm (by omega) ly_X12_3 (Nat.le_of_ble_eq_true rfl) eX12_init_1 ?_
  refine vx_aload_n hC 0 rfl eX12_init_4 ?_
  refine vx_sipush hC (by decide) eX12_init_5 ?_
  refine vx_newarrI hC (len := 876) rfl (by omega) wd_142 (by omega) hRm (by omega) eX12_init_8 ?_
  refine vx_hp (fun ng1 tg1 ag1 bg1 cg1 hng1 htg1 hag1 hbg1 hcg1 => ?_)
  have ug1_k : k < ng1 ∧ tg1 k = (12, _) := ⟨by have := (ht).1; omega, by rw [htg1, xz_n _ _ (by have := (ht).1; omega)]; exact (ht).2⟩
  have ug1 : n < ng1 ∧ tg1 n = (14, 876) := ⟨by omega, by rw [htg1, xz_s]⟩
  rw [xz_z hvi] at hag1; rw [xz_z hvl] at hbg1
  have hag1 := hag1.symm; have hbg1 := hbg1.symm; subst hag1; subst hbg1
  refine vx_pr hC 1 ug1_k lp_X12_9 rfl (Or.inr hM.2.2) eX12_init_10 ?_
  refine vx_vr (fun v2 hv2 => ?_)
  refine vx_aload_n hC 0 rfl eX12_init_13 ?_
  refine vx_sipush hC (by decide) eX12_init_14 ?_
  refine vx_newarrI hC (len := 876) rfl (by omega) wd_142 (by omega) hRm (by omega) eX12_init_17 ?_
  refine vx_hp (fun ng3 tg3 ag3 bg3 cg3 hng3 htg3 hag3 hbg3 hcg3 => ?_)
  have ug3_k : k < ng3 ∧ tg3 k = (12, _) := ⟨by have := (ug1_k).1; omega, by rw [htg3, xz_n _ _ (by have := (ug1_k).1; omega)]; exact (ug1_k).2⟩
  have ug3_n : n < ng3 ∧ tg3 n = (14, _) := ⟨by have := (ug1).1; omega, by rw [htg3, xz_n _ _ (by have := (ug1).1; omega)]; exact (ug1).2⟩
  have ug3 : ng1 < ng3 ∧ tg3 ng1 = (14, 876) := ⟨by omega, by rw [htg3, xz_s]⟩
  rw [xz_z hvi] at hag3; rw [xz_z hvl] at hbg3
  have hag3 := hag3.symm; have hbg3 := hbg3.symm; subst hag3; subst hbg3
  refine vx_pr hC 2 ug3_k lp_X12_15 rfl (Or.inr hM.2.2) eX12_init_19 ?_
  refine vx_vr (fun v4 hv4 => ?_)
  refine vx_aload_n hC 0 rfl eX12_init_22 ?_
  refine vx_bipush hC (by decide) eX12_init_23 ?_
  refine vx_newarrI hC (len := 6) rfl (by omega) wd_142 (by omega) hRm (by omega) eX12_init_25 ?_
  refine vx_hp (fun ng5 tg5 ag5 bg5 cg5 hng5 htg5 hag5 hbg5 hcg5 => ?_)
  have ug5_k : k < ng5 ∧ tg5 k = (12, _) := ⟨by have := (ug3_k).1; omega, by rw [htg5, xz_n _ _ (by have := (ug3_k).1; omega)]; exact (ug3_k).2⟩
  have ug5_n : n < ng5 ∧ tg5 n = (14, _) := ⟨by have := (ug3_n).1; omega, by rw [htg5, xz_n _ _ (by have := (ug3_n).1; omega)]; exact (ug3_n).2⟩
  have ug5_ng1 : ng1 < ng5 ∧ tg5 ng1 = (14, _) := ⟨by have := (ug3).1; omega, by rw [htg5, xz_n _ _ (by have := (ug3).1; omega)]; exact (ug3).2⟩
  have ug5 : ng3 < ng5 ∧ tg5 ng3 = (14, 6) := ⟨by omega, by rw [htg5, xz_s]⟩
  rw [xz_z hvi] at hag5; rw [xz_z hvl] at hbg5
  have hag5 := hag5.symm; have hbg5 := hbg5.symm; subst hag5; subst hbg5
  refine vx_pr hC 9 ug5_k lp_X12_18 rfl (Or.inr hM.2.2) eX12_init_27 ?_
  refine vx_vr (fun v6 hv6 => ?_)
  refine vx_aload_n hC 0 rfl eX12_init_30 ?_
  refine vx_bipush hC (by decide) eX12_init_31 ?_
  refine vx_newarrZ hC (len := 64) rfl (by omega) wd_1029 (by omega) hRm (by omega) eX12_init_33 ?_
  refine vx_hp (fun ng7 tg7 ag7 bg7 cg7 hng7 htg7 hag7 hbg7 hcg7 => ?_)
  have ug7_k : k < ng7 ∧ tg7 k = (12, _) := ⟨by have := (ug5_k).1; omega, by rw [htg7, xz_n _ _ (by have := (ug5_k).1; omega)]; exact (ug5_k).2⟩
  have ug7_n : n < ng7 ∧ tg7 n = (14, _) := ⟨by have := (ug5_n).1; omega, by rw [htg7, xz_n _ _ (by have := (ug5_n).1; omega)]; exact (ug5_n).2⟩
  have ug7_ng1 : ng1 < ng7 ∧ tg7 ng1 = (14, _) := ⟨by have := (ug5_ng1).1; omega, by rw [htg7, xz_n _ _ (by have := (ug5_ng1).1; omega)]; exact (ug5_ng1).2⟩
  have ug7_ng3 : ng3 < ng7 ∧ tg7 ng3 = (14, _) := ⟨by have := (ug5).1; omega, by rw [htg7, xz_n _ _ (by have := (ug5).1; omega)]; exact (ug5).2⟩
  have ug7 : ng5 < ng7 ∧ tg7 ng5 = (16, 64) := ⟨by omega, by rw [htg7, xz_s]⟩
  rw [xz_z hvi] at hag7; rw [xz_z hvl] at hbg7
  have hag7 := hag7.symm; have hbg7 := hbg7.symm; subst hag7; subst hbg7
  refine vx_pr hC 10 ug7_k lp_X12_21 rfl (Or.inr hM.2.2) eX12_init_35 ?_
  refine vx_vr (fun v8 hv8 => ?_)
  refine vx_aload_n hC 0 rfl eX12_init_38 ?_
  refine vx_bipush hC (by decide) eX12_init_39 ?_
  refine vx_newarrJ hC (len := 13) rfl (by omega) wd_191 (by omega) hRm (by omega) eX12_init_41 ?_
  refine vx_hp (fun ng9 tg9 ag9 bg9 cg9 hng9 htg9 hag9 hbg9 hcg9 => ?_)
  have ug9_k : k < ng9 ∧ tg9 k = (12, _) := ⟨by have := (ug7_k).1; omega, by rw [htg9, xz_n _ _ (by have := (ug7_k).1; omega)]; exact (ug7_k).2⟩
  have ug9_n : n < ng9 ∧ tg9 n = (14, _) := ⟨by have := (ug7_n).1; omega, by rw [htg9, xz_n _ _ (by have := (ug7_n).1; omega)]; exact (ug7_n).2⟩
  have ug9_ng1 : ng1 < ng9 ∧ tg9 ng1 = (14, _) := ⟨by have := (ug7_ng1).1; omega, by rw [htg9, xz_n _ _ (by have := (ug7_ng1).1; omega)]; exact (ug7_ng1).2⟩
  have ug9_ng3 : ng3 < ng9 ∧ tg9 ng3 = (14, _) := ⟨by have := (ug7_ng3).1; omega, by rw [htg9, xz_n _ _ (by have := (ug7_ng3).1; omega)]; exact (ug7_ng3).2⟩
  have ug9_ng5 : ng5 < ng9 ∧ tg9 ng5 = (16, _) := ⟨by have := (ug7).1; omega, by rw [htg9, xz_n _ _ (by have := (ug7).1; omega)]; exact (ug7).2⟩
  have ug9 : ng7 < ng9 ∧ tg9 ng7 = (15, 13) := ⟨by omega, by rw [htg9, xz_s]⟩
  rw [xz_z hvi] at hag9; rw [xz_z hvl] at hbg9
  have hag9 := hag9.symm; have hbg9 := hbg9.symm; subst hag9; subst hbg9
  refine vx_pr hC 11 ug9_k lp_X12_25 rfl (Or.inr hM.2.2) eX12_init_43 ?_
  refine vx_vr (fun v10 hv10 => ?_)
  refine vx_aload_n hC 0 rfl eX12_init_46 ?_
  refine vx_bipush hC (by decide) eX12_init_47 ?_
  refine vx_newarrJ hC (len := 13) rfl (by omega) wd_191 (by omega) hRm (by omega) eX12_init_49 ?_
  refine vx_hp (fun ng11 tg11 ag11 bg11 cg11 hng11 htg11 hag11 hbg11 hcg11 => ?_)
  have ug11_k : k < ng11 ∧ tg11 k = (12, _) := ⟨by have := (ug9_k).1; omega, by rw [htg11, xz_n _ _ (by have := (ug9_k).1; omega)]; exact (ug9_k).2⟩
  have ug11_n : n < ng11 ∧ tg11 n = (14, _) := ⟨by have := (ug9_n).1; omega, by rw [htg11, xz_n _ _ (by have := (ug9_n).1; omega)]; exact (ug9_n).2⟩
  have ug11_ng1 : ng1 < ng11 ∧ tg11 ng1 = (14, _) := ⟨by have := (ug9_ng1).1; omega, by rw [htg11, xz_n _ _ (by have := (ug9_ng1).1; omega)]; exact (ug9_ng1).2⟩
  have ug11_ng3 : ng3 < ng11 ∧ tg11 ng3 = (14, _) := ⟨by have := (ug9_ng3).1; omega, by rw [htg11, xz_n _ _ (by have := (ug9_ng3).1; omega)]; exact (ug9_ng3).2⟩
  have ug11_ng5 : ng5 < ng11 ∧ tg11 ng5 = (16, _) := ⟨by have := (ug9_ng5).1; omega, by rw [htg11, xz_n _ _ (by have := (ug9_ng5).1; omega)]; exact (ug9_ng5).2⟩
  have ug11_ng7 : ng7 < ng11 ∧ tg11 ng7 = (15, _) := ⟨by have := (ug9).1; omega, by rw [htg11, xz_n _ _ (by have := (ug9).1; omega)]; exact (ug9).2⟩
  have ug11 : ng9 < ng11 ∧ tg11 ng9 = (15, 13) := ⟨by omega, by rw [htg11, xz_s]⟩
  rw [xz_z hvi] at hag11; rw [xz_z hvl] at hbg11
  have hag11 := hag11.symm; have hbg11 := hbg11.symm; subst hag11; subst hbg11
  refine vx_pr hC 12 ug11_k lp_X12_29 rfl (Or.inr hM.2.2) eX12_init_51 ?_
  refine vx_vr (fun v12 hv12 => ?_)
  refine vx_aload_n hC 0 rfl eX12_init_54 ?_
  refine vx_bipush hC (by decide) eX12_init_55 ?_
  refine vx_newarrJ hC (len := 13) rfl (by omega) wd_191 (by omega) hRm (by omega) eX12_init_57 ?_
  refine vx_hp (fun ng13 tg13 ag13 bg13 cg13 hng13 htg13 hag13 hbg13 hcg13 => ?_)
  have ug13_k : k < ng13 ∧ tg13 k = (12, _) := ⟨by have := (ug11_k).1; omega, by rw [htg13, xz_n _ _ (by have := (ug11_k).1; omega)]; exact (ug11_k).2⟩
  have ug13_n : n < ng13 ∧ tg13 n = (14, _) := ⟨by have := (ug11_n).1; omega, by rw [htg13, xz_n _ _ (by have := (ug11_n).1; omega)]; exact (ug11_n).2⟩
  have ug13_ng1 : ng1 < ng13 ∧ tg13 ng1 = (14, _) := ⟨by have := (ug11_ng1).1; omega, by rw [htg13, xz_n _ _ (by have := (ug11_ng1).1; omega)]; exact (ug11_ng1).2⟩
  have ug13_ng3 : ng3 < ng13 ∧ tg13 ng3 = (14, _) := ⟨by have := (ug11_ng3).1; omega, by rw [htg13, xz_n _ _ (by have := (ug11_ng3).1; omega)]; exact (ug11_ng3).2⟩
  have ug13_ng5 : ng5 < ng13 ∧ tg13 ng5 = (16, _) := ⟨by have := (ug11_ng5).1; omega, by rw [htg13, xz_n _ _ (by have := (ug11_ng5).1; omega)]; exact (ug11_ng5).2⟩
  have ug13_ng7 : ng7 < ng13 ∧ tg13 ng7 = (15, _) := ⟨by have := (ug11_ng7).1; omega, by rw [htg13, xz_n _ _ (by have := (ug11_ng7).1; omega)]; exact (ug11_ng7).2⟩
  have ug13_ng9 : ng9 < ng13 ∧ tg13 ng9 = (15, _) := ⟨by have := (ug11).1; omega, by rw [htg13, xz_n _ _ (by have := (ug11).1; omega)]; exact (ug11).2⟩
  have ug13 : ng11 < ng13 ∧ tg13 ng11 = (15, 13) := ⟨by omega, by rw [htg13, xz_s]⟩
  rw [xz_z hvi] at hag13; rw [xz_z hvl] at hbg13
  have hag13 := hag13.symm; have hbg13 := hbg13.symm; subst hag13; subst hbg13
  refine vx_pr hC 14 ug13_k lp_X12_32 rfl (Or.inr hM.2.2) eX12_init_59 ?_
  refine vx_vr (fun v14 hv14 => ?_)
  refine vx_aload_n hC 0 rfl eX12_init_62 ?_
  refine vx_bipush hC (by decide) eX12_init_63 ?_
  refine vx_newarrJ hC (len := 13) rfl (by omega) wd_191 (by omega) hRm (by omega) eX12_init_65 ?_
  refine vx_hp (fun ng15 tg15 ag15 bg15 cg15 hng15 htg15 hag15 hbg15 hcg15 => ?_)
  have ug15_k : k < ng15 ∧ tg15 k = (12, _) := ⟨by have := (ug13_k).1; omega, by rw [htg15, xz_n _ _ (by have := (ug13_k).1; omega)]; exact (ug13_k).2⟩
  have ug15_n : n < ng15 ∧ tg15 n = (14, _) := ⟨by have := (ug13_n).1; omega, by rw [htg15, xz_n _ _ (by have := (ug13_n).1; omega)]; exact (ug13_n).2⟩
  have ug15_ng1 : ng1 < ng15 ∧ tg15 ng1 = (14, _) := ⟨by have := (ug13_ng1).1; omega, by rw [htg15, xz_n _ _ (by have := (ug13_ng1).1; omega)]; exact (ug13_ng1).2⟩
  have ug15_ng3 : ng3 < ng15 ∧ tg15 ng3 = (14, _) := ⟨by have := (ug13_ng3).1; omega, by rw [htg15, xz_n _ _ (by have := (ug13_ng3).1; omega)]; exact (ug13_ng3).2⟩
  have ug15_ng5 : ng5 < ng15 ∧ tg15 ng5 = (16, _) := ⟨by have := (ug13_ng5).1; omega, by rw [htg15, xz_n _ _ (by have := (ug13_ng5).1; omega)]; exact (ug13_ng5).2⟩
  have ug15_ng7 : ng7 < ng15 ∧ tg15 ng7 = (15, _) := ⟨by have := (ug13_ng7).1; omega, by rw [htg15, xz_n _ _ (by have := (ug13_ng7).1; omega)]; exact (ug13_ng7).2⟩
  have ug15_ng9 : ng9 < ng15 ∧ tg15 ng9 = (15, _) := ⟨by have := (ug13_ng9).1; omega, by rw [htg15, xz_n _ _ (by have := (ug13_ng9).1; omega)]; exact (ug13_ng9).2⟩
  have ug15_ng11 : ng11 < ng15 ∧ tg15 ng11 = (15, _) := ⟨by have := (ug13).1; omega, by rw [htg15, xz_n _ _ (by have := (ug13).1; omega)]; exact (ug13).2⟩
  have ug15 : ng13 < ng15 ∧ tg15 ng13 = (15, 13) := ⟨by omega, by rw [htg15, xz_s]⟩
  rw [xz_z hvi] at hag15; rw [xz_z hvl] at hbg15
  have hag15 := hag15.symm; have hbg15 := hbg15.symm; subst hag15; subst hbg15
  refine vx_pr hC 15 ug15_k lp_X12_35 rfl (Or.inr hM.2.2) eX12_init_67 ?_
  refine vx_vr (fun v16 hv16 => ?_)
  refine vx_aload_n hC 0 rfl eX12_init_70 ?_
  refine vx_sipush hC (by decide) eX12_init_71 ?_
  refine vx_newarrJ hC (len := 169) rfl (by omega) wd_191 (by omega) hRm (by omega) eX12_init_74 ?_
  refine vx_hp (fun ng17 tg17 ag17 bg17 cg17 hng17 htg17 hag17 hbg17 hcg17 => ?_)
  have ug17_k : k < ng17 ∧ tg17 k = (12, _) := ⟨by have := (ug15_k).1; omega, by rw [htg17, xz_n _ _ (by have := (ug15_k).1; omega)]; exact (ug15_k).2⟩
  have ug17_n : n < ng17 ∧ tg17 n = (14, _) := ⟨by have := (ug15_n).1; omega, by rw [htg17, xz_n _ _ (by have := (ug15_n).1; omega)]; exact (ug15_n).2⟩
  have ug17_ng1 : ng1 < ng17 ∧ tg17 ng1 = (14, _) := ⟨by have := (ug15_ng1).1; omega, by rw [htg17, xz_n _ _ (by have := (ug15_ng1).1; omega)]; exact (ug15_ng1).2⟩
  have ug17_ng3 : ng3 < ng17 ∧ tg17 ng3 = (14, _) := ⟨by have := (ug15_ng3).1; omega, by rw [htg17, xz_n _ _ (by have := (ug15_ng3).1; omega)]; exact (ug15_ng3).2⟩
  have ug17_ng5 : ng5 < ng17 ∧ tg17 ng5 = (16, _) := ⟨by have := (ug15_ng5).1; omega, by rw [htg17, xz_n _ _ (by have := (ug15_ng5).1; omega)]; exact (ug15_ng5).2⟩
  have ug17_ng7 : ng7 < ng17 ∧ tg17 ng7 = (15, _) := ⟨by have := (ug15_ng7).1; omega, by rw [htg17, xz_n _ _ (by have := (ug15_ng7).1; omega)]; exact (ug15_ng7).2⟩
  have ug17_ng9 : ng9 < ng17 ∧ tg17 ng9 = (15, _) := ⟨by have := (ug15_ng9).1; omega, by rw [htg17, xz_n _ _ (by have := (ug15_ng9).1; omega)]; exact (ug15_ng9).2⟩
  have ug17_ng11 : ng11 < ng17 ∧ tg17 ng11 = (15, _) := ⟨by have := (ug15_ng11).1; omega, by rw [htg17, xz_n _ _ (by have := (ug15_ng11).1; omega)]; exact (ug15_ng11).2⟩
  have ug17_ng13 : ng13 < ng17 ∧ tg17 ng13 = (15, _) := ⟨by have := (ug15).1; omega, by rw [htg17, xz_n _ _ (by have := (ug15).1; omega)]; exact (ug15).2⟩
  have ug17 : ng15 < ng17 ∧ tg17 ng15 = (15, 169) := ⟨by omega, by rw [htg17, xz_s]⟩
  rw [xz_z hvi] at hag17; rw [xz_z hvl] at hbg17
  have hag17 := hag17.symm; have hbg17 := hbg17.symm; subst hag17; subst hbg17
  refine vx_pr hC 17 ug17_k lp_X12_38 rfl (Or.inr hM.2.2) eX12_init_76 ?_
  refine vx_vr (fun v18 hv18 => ?_)
  refine vx_aload_n hC 0 rfl eX12_init_79 ?_
  refine vx_sipush hC (by decide) eX12_init_80 ?_
  refine vx_newarrJ hC (len := 169) rfl (by omega) wd_191 (by omega) hRm (by omega) eX12_init_83 ?_
  refine vx_hp (fun ng19 tg19 ag19 bg19 cg19 hng19 htg19 hag19 hbg19 hcg19 => ?_)
  have ug19_k : k < ng19 ∧ tg19 k = (12, _) := ⟨by have := (ug17_k).1; omega, by rw [htg19, xz_n _ _ (by have := (ug17_k).1; omega)]; exact (ug17_k).2⟩
  have ug19_n : n < ng19 ∧ tg19 n = (14, _) := ⟨by have := (ug17_n).1; omega, by rw [htg19, xz_n _ _ (by have := (ug17_n).1; omega)]; exact (ug17_n).2⟩
  have ug19_ng1 : ng1 < ng19 ∧ tg19 ng1 = (14, _) := ⟨by have := (ug17_ng1).1; omega, by rw [htg19, xz_n _ _ (by have := (ug17_ng1).1; omega)]; exact (ug17_ng1).2⟩
  have ug19_ng3 : ng3 < ng19 ∧ tg19 ng3 = (14, _) := ⟨by have := (ug17_ng3).1; omega, by rw [htg19, xz_n _ _ (by have := (ug17_ng3).1; omega)]; exact (ug17_ng3).2⟩
  have ug19_ng5 : ng5 < ng19 ∧ tg19 ng5 = (16, _) := ⟨by have := (ug17_ng5).1; omega, by rw [htg19, xz_n _ _ (by have := (ug17_ng5).1; omega)]; exact (ug17_ng5).2⟩
  have ug19_ng7 : ng7 < ng19 ∧ tg19 ng7 = (15, _) := ⟨by have := (ug17_ng7).1; omega, by rw [htg19, xz_n _ _ (by have := (ug17_ng7).1; omega)]; exact (ug17_ng7).2⟩
  have ug19_ng9 : ng9 < ng19 ∧ tg19 ng9 = (15, _) := ⟨by have := (ug17_ng9).1; omega, by rw [htg19, xz_n _ _ (by have := (ug17_ng9).1; omega)]; exact (ug17_ng9).2⟩
  have ug19_ng11 : ng11 < ng19 ∧ tg19 ng11 = (15, _) := ⟨by have := (ug17_ng11).1; omega, by rw [htg19, xz_n _ _ (by have := (ug17_ng11).1; omega)]; exact (ug17_ng11).2⟩
  have ug19_ng13 : ng13 < ng19 ∧ tg19 ng13 = (15, _) := ⟨by have := (ug17_ng13).1; omega, by rw [htg19, xz_n _ _ (by have := (ug17_ng13).1; omega)]; exact (ug17_ng13).2⟩
  have ug19_ng15 : ng15 < ng19 ∧ tg19 ng15 = (15, _) := ⟨by have := (ug17).1; omega, by rw [htg19, xz_n _ _ (by have := (ug17).1; omega)]; exact (ug17).2⟩
  have ug19 : ng17 < ng19 ∧ tg19 ng17 = (15, 169) := ⟨by omega, by rw [htg19, xz_s]⟩
  rw [xz_z hvi] at hag19; rw [xz_z hvl] at hbg19
  have hag19 := hag19.symm; have hbg19 := hbg19.symm; subst hag19; subst hbg19
  refine vx_pr hC 18 ug19_k lp_X12_41 rfl (Or.inr hM.2.2) eX12_init_85 ?_
  refine vx_vr (fun v20 hv20 => ?_)
  refine vx_aload_n hC 0 rfl eX12_init_88 ?_
  refine vx_bipush hC (by decide) eX12_init_89 ?_
  refine vx_newarrJ hC (len := 7) rfl (by omega) wd_191 (by omega) hRm (by omega) eX12_init_91 ?_
  refine vx_hp (fun ng21 tg21 ag21 bg21 cg21 hng21 htg21 hag21 hbg21 hcg21 => ?_)
  have ug21_k : k < ng21 ∧ tg21 k = (12, _) := ⟨by have := (ug19_k).1; omega, by rw [htg21, xz_n _ _ (by have := (ug19_k).1; omega)]; exact (ug19_k).2⟩
  have ug21_n : n < ng21 ∧ tg21 n = (14, _) := ⟨by have := (ug19_n).1; omega, by rw [htg21, xz_n _ _ (by have := (ug19_n).1; omega)]; exact (ug19_n).2⟩
  have ug21_ng1 : ng1 < ng21 ∧ tg21 ng1 = (14, _) := ⟨by have := (ug19_ng1).1; omega, by rw [htg21, xz_n _ _ (by have := (ug19_ng1).1; omega)]; exact (ug19_ng1).2⟩
  have ug21_ng3 : ng3 < ng21 ∧ tg21 ng3 = (14, _) := ⟨by have := (ug19_ng3).1; omega, by rw [htg21, xz_n _ _ (by have := (ug19_ng3).1; omega)]; exact (ug19_ng3).2⟩
  have ug21_ng5 : ng5 < ng21 ∧ tg21 ng5 = (16, _) := ⟨by have := (ug19_ng5).1; omega, by rw [htg21, xz_n _ _ (by have := (ug19_ng5).1; omega)]; exact (ug19_ng5).2⟩
  have ug21_ng7 : ng7 < ng21 ∧ tg21 ng7 = (15, _) := ⟨by have := (ug19_ng7).1; omega, by rw [htg21, xz_n _ _ (by have := (ug19_ng7).1; omega)]; exact (ug19_ng7).2⟩
  have ug21_ng9 : ng9 < ng21 ∧ tg21 ng9 = (15, _) := ⟨by have := (ug19_ng9).1; omega, by rw [htg21, xz_n _ _ (by have := (ug19_ng9).1; omega)]; exact (ug19_ng9).2⟩
  have ug21_ng11 : ng11 < ng21 ∧ tg21 ng11 = (15, _) := ⟨by have := (ug19_ng11).1; omega, by rw [htg21, xz_n _ _ (by have := (ug19_ng11).1; omega)]; exact (ug19_ng11).2⟩
  have ug21_ng13 : ng13 < ng21 ∧ tg21 ng13 = (15, _) := ⟨by have := (ug19_ng13).1; omega, by rw [htg21, xz_n _ _ (by have := (ug19_ng13).1; omega)]; exact (ug19_ng13).2⟩
  have ug21_ng15 : ng15 < ng21 ∧ tg21 ng15 = (15, _) := ⟨by have := (ug19_ng15).1; omega, by rw [htg21, xz_n _ _ (by have := (ug19_ng15).1; omega)]; exact (ug19_ng15).2⟩
  have ug21_ng17 : ng17 < ng21 ∧ tg21 ng17 = (15, _) := ⟨by have := (ug19).1; omega, by rw [htg21, xz_n _ _ (by have := (ug19).1; omega)]; exact (ug19).2⟩
  have ug21 : ng19 < ng21 ∧ tg21 ng19 = (15, 7) := ⟨by omega, by rw [htg21, xz_s]⟩
  rw [xz_z hvi] at hag21; rw [xz_z hvl] at hbg21
  have hag21 := hag21.symm; have hbg21 := hbg21.symm; subst hag21; subst hbg21
  refine vx_pr hC 19 ug21_k lp_X12_44 rfl (Or.inr hM.2.2) eX12_init_93 ?_
  refine vx_vr (fun v22 hv22 => ?_)
  refine vx_aload_n hC 0 rfl eX12_init_96 ?_
  refine vx_bipush hC (by decide) eX12_init_97 ?_
  refine vx_newarrJ hC (len := 7) rfl (by omega) wd_191 (by omega) hRm (by omega) eX12_init_99 ?_
  refine vx_hp (fun ng23 tg23 ag23 bg23 cg23 hng23 htg23 hag23 hbg23 hcg23 => ?_)
  have ug23_k : k < ng23 ∧ tg23 k = (12, _) := ⟨by have := (ug21_k).1; omega, by rw [htg23, xz_n _ _ (by have := (ug21_k).1; omega)]; exact (ug21_k).2⟩
  have ug23_n : n < ng23 ∧ tg23 n = (14, _) := ⟨by have := (ug21_n).1; omega, by rw [htg23, xz_n _ _ (by have := (ug21_n).1; omega)]; exact (ug21_n).2⟩
  have ug23_ng1 : ng1 < ng23 ∧ tg23 ng1 = (14, _) := ⟨by have := (ug21_ng1).1; omega, by rw [htg23, xz_n _ _ (by have := (ug21_ng1).1; omega)]; exact (ug21_ng1).2⟩
  have ug23_ng3 : ng3 < ng23 ∧ tg23 ng3 = (14, _) := ⟨by have := (ug21_ng3).1; omega, by rw [htg23, xz_n _ _ (by have := (ug21_ng3).1; omega)]; exact (ug21_ng3).2⟩
  have ug23_ng5 : ng5 < ng23 ∧ tg23 ng5 = (16, _) := ⟨by have := (ug21_ng5).1; omega, by rw [htg23, xz_n _ _ (by have := (ug21_ng5).1; omega)]; exact (ug21_ng5).2⟩
  have ug23_ng7 : ng7 < ng23 ∧ tg23 ng7 = (15, _) := ⟨by have := (ug21_ng7).1; omega, by rw [htg23, xz_n _ _ (by have := (ug21_ng7).1; omega)]; exact (ug21_ng7).2⟩
  have ug23_ng9 : ng9 < ng23 ∧ tg23 ng9 = (15, _) := ⟨by have := (ug21_ng9).1; omega, by rw [htg23, xz_n _ _ (by have := (ug21_ng9).1; omega)]; exact (ug21_ng9).2⟩
  have ug23_ng11 : ng11 < ng23 ∧ tg23 ng11 = (15, _) := ⟨by have := (ug21_ng11).1; omega, by rw [htg23, xz_n _ _ (by have := (ug21_ng11).1; omega)]; exact (ug21_ng11).2⟩
  have ug23_ng13 : ng13 < ng23 ∧ tg23 ng13 = (15, _) := ⟨by have := (ug21_ng13).1; omega, by rw [htg23, xz_n _ _ (by have := (ug21_ng13).1; omega)]; exact (ug21_ng13).2⟩
  have ug23_ng15 : ng15 < ng23 ∧ tg23 ng15 = (15, _) := ⟨by have := (ug21_ng15).1; omega, by rw [htg23, xz_n _ _ (by have := (ug21_ng15).1; omega)]; exact (ug21_ng15).2⟩
  have ug23_ng17 : ng17 < ng23 ∧ tg23 ng17 = (15, _) := ⟨by have := (ug21_ng17).1; omega, by rw [htg23, xz_n _ _ (by have := (ug21_ng17).1; omega)]; exact (ug21_ng17).2⟩
  have ug23_ng19 : ng19 < ng23 ∧ tg23 ng19 = (15, _) := ⟨by have := (ug21).1; omega, by rw [htg23, xz_n _ _ (by have := (ug21).1; omega)]; exact (ug21).2⟩
  have ug23 : ng21 < ng23 ∧ tg23 ng21 = (15, 7) := ⟨by omega, by rw [htg23, xz_s]⟩
  rw [xz_z hvi] at hag23; rw [xz_z hvl] at hbg23
  have hag23 := hag23.symm; have hbg23 := hbg23.symm; subst hag23; subst hbg23
  refine vx_pr hC 20 ug23_k lp_X12_47 rfl (Or.inr hM.2.2) eX12_init_101 ?_
  refine vx_vr (fun v24 hv24 => ?_)
  refine vx_aload_n hC 0 rfl eX12_init_104 ?_
  refine vx_bipush hC (by decide) eX12_init_105 ?_
  refine vx_newarrI hC (len := 20) rfl (by omega) wd_142 (by omega) hRm (by omega) eX12_init_107 ?_
  refine vx_hp (fun ng25 tg25 ag25 bg25 cg25 hng25 htg25 hag25 hbg25 hcg25 => ?_)
  have ug25_k : k < ng25 ∧ tg25 k = (12, _) := ⟨by have := (ug23_k).1; omega, by rw [htg25, xz_n _ _ (by have := (ug23_k).1; omega)]; exact (ug23_k).2⟩
  have ug25_n : n < ng25 ∧ tg25 n = (14, _) := ⟨by have := (ug23_n).1; omega, by rw [htg25, xz_n _ _ (by have := (ug23_n).1; omega)]; exact (ug23_n).2⟩
  have ug25_ng1 : ng1 < ng25 ∧ tg25 ng1 = (14, _) := ⟨by have := (ug23_ng1).1; omega, by rw [htg25, xz_n _ _ (by have := (ug23_ng1).1; omega)]; exact (ug23_ng1).2⟩
  have ug25_ng3 : ng3 < ng25 ∧ tg25 ng3 = (14, _) := ⟨by have := (ug23_ng3).1; omega, by rw [htg25, xz_n _ _ (by have := (ug23_ng3).1; omega)]; exact (ug23_ng3).2⟩
  have ug25_ng5 : ng5 < ng25 ∧ tg25 ng5 = (16, _) := ⟨by have := (ug23_ng5).1; omega, by rw [htg25, xz_n _ _ (by have := (ug23_ng5).1; omega)]; exact (ug23_ng5).2⟩
  have ug25_ng7 : ng7 < ng25 ∧ tg25 ng7 = (15, _) := ⟨by have := (ug23_ng7).1; omega, by rw [htg25, xz_n _ _ (by have := (ug23_ng7).1; omega)]; exact (ug23_ng7).2⟩
  have ug25_ng9 : ng9 < ng25 ∧ tg25 ng9 = (15, _) := ⟨by have := (ug23_ng9).1; omega, by rw [htg25, xz_n _ _ (by have := (ug23_ng9).1; omega)]; exact (ug23_ng9).2⟩
  have ug25_ng11 : ng11 < ng25 ∧ tg25 ng11 = (15, _) := ⟨by have := (ug23_ng11).1; omega, by rw [htg25, xz_n _ _ (by have := (ug23_ng11).1; omega)]; exact (ug23_ng11).2⟩
  have ug25_ng13 : ng13 < ng25 ∧ tg25 ng13 = (15, _) := ⟨by have := (ug23_ng13).1; omega, by rw [htg25, xz_n _ _ (by have := (ug23_ng13).1; omega)]; exact (ug23_ng13).2⟩
  have ug25_ng15 : ng15 < ng25 ∧ tg25 ng15 = (15, _) := ⟨by have := (ug23_ng15).1; omega, by rw [htg25, xz_n _ _ (by have := (ug23_ng15).1; omega)]; exact (ug23_ng15).2⟩
  have ug25_ng17 : ng17 < ng25 ∧ tg25 ng17 = (15, _) := ⟨by have := (ug23_ng17).1; omega, by rw [htg25, xz_n _ _ (by have := (ug23_ng17).1; omega)]; exact (ug23_ng17).2⟩
  have ug25_ng19 : ng19 < ng25 ∧ tg25 ng19 = (15, _) := ⟨by have := (ug23_ng19).1; omega, by rw [htg25, xz_n _ _ (by have := (ug23_ng19).1; omega)]; exact (ug23_ng19).2⟩
  have ug25_ng21 : ng21 < ng25 ∧ tg25 ng21 = (15, _) := ⟨by have := (ug23).1; omega, by rw [htg25, xz_n _ _ (by have := (ug23).1; omega)]; exact (ug23).2⟩
  have ug25 : ng23 < ng25 ∧ tg25 ng23 = (14, 20) := ⟨by omega, by rw [htg25, xz_s]⟩
  rw [xz_z hvi] at hag25; rw [xz_z hvl] at hbg25
  have hag25 := hag25.symm; have hbg25 := hbg25.symm; subst hag25; subst hbg25
  refine vx_pr hC 21 ug25_k lp_X12_50 rfl (Or.inr hM.2.2) eX12_init_109 ?_
  refine vx_vr (fun v26 hv26 => ?_)
  have hs1 : v26 k 1 = some n := by rw [hv26, xu_n _ _ _ _ (by omega), hcg25, xz_n _ _ (by omega), hv24, xu_n _ _ _ _ (by omega), hcg23, xz_n _ _ (by omega), hv22, xu_n _ _ _ _ (by omega), hcg21, xz_n _ _ (by omega), hv20, xu_n _ _ _ _ (by omega), hcg19, xz_n _ _ (by omega), hv18, xu_n _ _ _ _ (by omega), hcg17, xz_n _ _ (by omega), hv16, xu_n _ _ _ _ (by omega), hcg15, xz_n _ _ (by omega), hv14, xu_n _ _ _ _ (by omega), hcg13, xz_n _ _ (by omega), hv12, xu_n _ _ _ _ (by omega), hcg11, xz_n _ _ (by omega), hv10, xu_n _ _ _ _ (by omega), hcg9, xz_n _ _ (by omega), hv8, xu_n _ _ _ _ (by omega), hcg7, xz_n _ _ (by omega), hv6, xu_n _ _ _ _ (by omega), hcg5, xz_n _ _ (by omega), hv4, xu_n _ _ _ _ (by omega), hcg3, xz_n _ _ (by omega), hv2, xu_s]
  refine vx_aload_n hC 0 rfl eX12_init_112 ?_
  refine vx_gr hC 1 ug25_k lf_X12_9 rfl hs1 eX12_init_113 ?_
  refine vx_iconst hC eX12_init_116 ?_
  refine vx_iconst hC eX12_init_117 ?_
  refine vx_iastore hC ug25_n (by omega) (by omega) eX12_init_118 ?_
  refine vx_vi (fun v27 hv27 => ?_)
  refine vx_up (c1 := 0 + 1 + 1 + 1 + 1 + 1 + 1 + 1 + 1 + 1 + 1 + 1 + 1 + 1) (s1 := 0 + 876 + 876 + 6 + 64 + 13 + 13 + 13 + 13 + 169 + 169 + 7 + 7 + 20) (by omega) (by omega) ?_
  exact vx_vret hC hM eX12_init_119 (⟨rfl, (by omega), (by subst_vars; rfl), hv27, rfl, (by subst_vars; rfl)⟩)
def i11T (tau : Nat → Nat × Nat) (n : Nat) : Nat → Nat × Nat := (xz (i5T (xz (i2T (xz (i6T (xz (i6T (xz tau n (6, 0)) (n + 1)) (n + 7) (6, 0)) (n + 8)) (n + 14) (2, 0)) (n + 15)) (n + 25) (5, 0)) (n + 26)) (n + 29) (14, 21))
def i11C (vr : Nat → Int → Option Nat) (k n : Nat) : Nat → Int → Option Nat := (xu (xz (xu (i5C (xz (xu (i2C (xz (xu (i6C (xz (xu (i6C (xz vr n (fun _ => none)) n (n + 1)) k 0 (some n)) (n + 7) (fun _ => none)) (n + 7) (n + 8)) k 1 (some (n + 7))) (n + 14) (fun _ => none)) (n + 14) (n + 15)) k 3 (some (n + 14))) (n + 25) (fun _ => none)) (n + 25) (n + 26)) k 4 (some (n + 25))) (n + 29) (fun _ => none)) k 5 (some (n + 29)))
set_option maxHeartbeats 4000000 in
set_option maxRecDepth 100000 in
theorem kX11_init (G : xg_T) (d : Nat) (n : Nat) (tau : Nat → Nat × Nat) (vi vl : Nat → Int → Int) (vr : Nat → Int → Option Nat) (k : Nat) (ht : k < n ∧ tau k = (11, 0)) (hn : n + 30 ≤ 100000) (hvi : vi = fun _ _ => 0) (hvl : vl = fun _ _ => 0) : xm G yX11_init cX11_init 1 none (d + 3) 30 956 [xa_r k] n tau vi vl vr (xp_v (fun n1 t1 a1 b1 c1 => n1 = n + 30 ∧ t1 = i11T tau n ∧ vi = a1 ∧ vl = b1 ∧ c1 = i11C vr k n)) := by
  refine xm.of (lv := [(0, xa_r k)]) (by decide) (Nat.le_of_ble_eq_true rfl) rfl (fun K hC hM hRm => ?_)
  refine vx_aload_n hC 0 rfl eX11_init_0 ?_
  refine vx_objInit hC hRm (by omega) ly_X11_3 (Nat.le_of_ble_eq_true rfl) eX11_init_1 ?_
  refine vx_aload_n hC 0 rfl eX11_init_4 ?_
  refine vx_new hC (ci := 6) rfl ln_X11_9 (by omega) hRm (by omega) eX11_init_5 ?_
  refine vx_hp (fun ng1 tg1 ag1 bg1 cg1 hng1 htg1 hag1 hbg1 hcg1 => ?_)
  have ug1_k : k < ng1 ∧ tg1 k = (11, _) := ⟨by have := (ht).1; omega, by rw [htg1, xz_n _ _ (by have := (ht).1; omega)]; exact (ht).2⟩
  have ug1 : n < ng1 ∧ tg1 n = (6, 0) := ⟨by omega, by rw [htg1, xz_s]⟩
  rw [xz_z hvi] at hag1; rw [xz_z hvl] at hbg1
  have hag1 := hag1.symm; have hbg1 := hbg1.symm; subst hag1; subst hbg1
  refine vx_dup hC rfl eX11_init_8 ?_
  refine vx_callIN_v hC (kX6_init G d _ _ _ _ _ n ug1 (by omega) hvi hvl) ly_X11_11 rfl hRm (by omega) (Nat.le_of_ble_eq_true rfl) rfl eX11_init_9 (fun ng2 tg2 ag2 bg2 cg2 hg2 => ?_)
  obtain ⟨hng2, htg2, rfl, rfl, hcg2⟩ := hg2
  have ug2_k : k < ng2 ∧ tg2 k = (11, 0) := ⟨by have := (ug1_k).1; omega, by rw [htg2, i6T_n (by have := (ug1_k).1; omega)]; exact (ug1_k).2⟩
  refine vx_pr hC 0 ug2_k lp_X11_12 rfl (Or.inr hM.2.2) eX11_init_12 ?_
  refine vx_vr (fun v3 hv3 => ?_)
  refine vx_aload_n hC 0 rfl eX11_init_15 ?_
  refine vx_new hC (ci := 6) rfl ln_X11_9 (by omega) hRm (by omega) eX11_init_16 ?_
  refine vx_hp (fun ng4 tg4 ag4 bg4 cg4 hng4 htg4 hag4 hbg4 hcg4 => ?_)
  have ug4_k : k < ng4 ∧ tg4 k = (11, _) := ⟨by have := (ug2_k).1; omega, by rw [htg4, xz_n _ _ (by have := (ug2_k).1; omega)]; exact (ug2_k).2⟩
  have ug4 : ng2 < ng4 ∧ tg4 ng2 = (6, 0) := ⟨by omega, by rw [htg4, xz_s]⟩
  rw [xz_z hvi] at hag4; rw [xz_z hvl] at hbg4
  have hag4 := hag4.symm; have hbg4 := hbg4.symm; subst hag4; subst hbg4
  refine vx_dup hC rfl eX11_init_19 ?_
  refine vx_callIN_v hC (kX6_init G d _ _ _ _ _ ng2 ug4 (by omega) hvi hvl) ly_X11_11 rfl hRm (by omega) (Nat.le_of_ble_eq_true rfl) rfl eX11_init_20 (fun ng5 tg5 ag5 bg5 cg5 hg5 => ?_)
  obtain ⟨hng5, htg5, rfl, rfl, hcg5⟩ := hg5
  have ug5_k : k < ng5 ∧ tg5 k = (11, 0) := ⟨by have := (ug4_k).1; omega, by rw [htg5, i6T_n (by have := (ug4_k).1; omega)]; exact (ug4_k).2⟩
  refine vx_pr hC 1 ug5_k lp_X11_18 rfl (Or.inr hM.2.2) eX11_init_23 ?_
  refine vx_vr (fun v6 hv6 => ?_)
  refine vx_aload_n hC 0 rfl eX11_init_26 ?_
  refine vx_new hC (ci := 2) rfl ln_X11_21 (by omega) hRm (by omega) eX11_init_27 ?_
  refine vx_hp (fun ng7 tg7 ag7 bg7 cg7 hng7 htg7 hag7 hbg7 hcg7 => ?_)
  have ug7_k : k < ng7 ∧ tg7 k = (11, _) := ⟨by have := (ug5_k).1; omega, by rw [htg7, xz_n _ _ (by have := (ug5_k).1; omega)]; exact (ug5_k).2⟩
  have ug7 : ng5 < ng7 ∧ tg7 ng5 = (2, 0) := ⟨by omega, by rw [htg7, xz_s]⟩
  rw [xz_z hvi] at hag7; rw [xz_z hvl] at hbg7
  have hag7 := hag7.symm; have hbg7 := hbg7.symm; subst hag7; subst hbg7
  refine vx_dup hC rfl eX11_init_30 ?_
  refine vx_callIN_v hC (kX2_init G d _ _ _ _ _ ng5 ug7 (by omega) hvi hvl) ly_X11_23 rfl hRm (by omega) (Nat.le_of_ble_eq_true rfl) rfl eX11_init_31 (fun ng8 tg8 ag8 bg8 cg8 hg8 => ?_)
  obtain ⟨hng8, htg8, rfl, rfl, hcg8⟩ := hg8
  have ug8_k : k < ng8 ∧ tg8 k = (11, 0) := ⟨by have := (ug7_k).1; omega, by rw [htg8, i2T_n (by have := (ug7_k).1; omega)]; exact (ug7_k).2⟩
  refine vx_pr hC 3 ug8_k lp_X11_24 rfl (Or.inr hM.2.2) eX11_init_34 ?_
  refine vx_vr (fun v9 hv9 => ?_)
  refine vx_aload_n hC 0 rfl eX11_init_37 ?_
  refine vx_new hC (ci := 5) rfl ln_X11_28 (by omega) hRm (by omega) eX11_init_38 ?_
  refine vx_hp (fun ng10 tg10 ag10 bg10 cg10 hng10 htg10 hag10 hbg10 hcg10 => ?_)
  have ug10_k : k < ng10 ∧ tg10 k = (11, _) := ⟨by have := (ug8_k).1; omega, by rw [htg10, xz_n _ _ (by have := (ug8_k).1; omega)]; exact (ug8_k).2⟩
  have ug10 : ng8 < ng10 ∧ tg10 ng8 = (5, 0) := ⟨by omega, by rw [htg10, xz_s]⟩
  rw [xz_z hvi] at hag10; rw [xz_z hvl] at hbg10
  have hag10 := hag10.symm; have hbg10 := hbg10.symm; subst hag10; subst hbg10
  refine vx_dup hC rfl eX11_init_41 ?_
  refine vx_callIN_v hC (kX5_init G d _ _ _ _ _ ng8 ug10 (by omega) hvi hvl) ly_X11_30 rfl hRm (by omega) (Nat.le_of_ble_eq_true rfl) rfl eX11_init_42 (fun ng11 tg11 ag11 bg11 cg11 hg11 => ?_)
  obtain ⟨hng11, htg11, rfl, rfl, hcg11⟩ := hg11
  have ug11_k : k < ng11 ∧ tg11 k = (11, 0) := ⟨by have := (ug10_k).1; omega, by rw [htg11, i5T_n (by have := (ug10_k).1; omega)]; exact (ug10_k).2⟩
  refine vx_pr hC 4 ug11_k lp_X11_31 rfl (Or.inr hM.2.2) eX11_init_45 ?_
  refine vx_vr (fun v12 hv12 => ?_)
  refine vx_aload_n hC 0 rfl eX11_init_48 ?_
  refine vx_bipush hC (by decide) eX11_init_49 ?_
  refine vx_newarrI hC (len := 21) rfl (by omega) wd_142 (by omega) hRm (by omega) eX11_init_51 ?_
  refine vx_hp (fun ng13 tg13 ag13 bg13 cg13 hng13 htg13 hag13 hbg13 hcg13 => ?_)
  have ug13_k : k < ng13 ∧ tg13 k = (11, _) := ⟨by have := (ug11_k).1; omega, by rw [htg13, xz_n _ _ (by have := (ug11_k).1; omega)]; exact (ug11_k).2⟩
  have ug13 : ng11 < ng13 ∧ tg13 ng11 = (14, 21) := ⟨by omega, by rw [htg13, xz_s]⟩
  rw [xz_z hvi] at hag13; rw [xz_z hvl] at hbg13
  have hag13 := hag13.symm; have hbg13 := hbg13.symm; subst hag13; subst hbg13
  refine vx_pr hC 5 ug13_k lp_X11_35 rfl (Or.inr hM.2.2) eX11_init_53 ?_
  refine vx_vr (fun v14 hv14 => ?_)
  refine vx_up (c1 := 0 + 1 + 6 + 1 + 6 + 1 + 10 + 1 + 3 + 1) (s1 := 0 + 12 + 135 + 12 + 135 + 12 + 500 + 9 + 120 + 21) (by omega) (by omega) ?_
  exact vx_vret hC hM eX11_init_56 (⟨rfl, (by omega), (by subst_vars; rfl), rfl, rfl, (by subst_vars; rfl)⟩)
