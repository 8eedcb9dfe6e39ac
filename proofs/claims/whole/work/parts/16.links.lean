def xp_K (base ci : Nat) : Prop := match base with
  | 4 => ci = 4 ∨ ci = 0 ∨ ci = 9 ∨ ci = 7 ∨ ci = 3 ∨ ci = 1 ∨ ci = 10
  | 0 => ci = 0 ∨ ci = 3
  | 9 => ci = 9 ∨ ci = 1
  | 7 => ci = 7 ∨ ci = 10
  | 3 => ci = 3
  | 1 => ci = 1
  | 10 => ci = 10
  | _ => False
theorem ly_X0_1 : xy_I RX0 1 yX4_init cX4_init 5 4 := ⟨List.forall_mem_cons.mpr ⟨wd_482, List.forall_mem_cons.mpr ⟨wd_483, List.forall_mem_cons.mpr ⟨wd_66, fun _ h => absurd h List.not_mem_nil⟩⟩⟩, wd_484, rfl, by decide, by decide, by decide +kernel⟩
theorem lf_X0_7 {ci : Nat} (h : xp_K 0 ci) : xf_F RX0 7 ci 3 0 := by
  rcases h with rfl | rfl
  · exact ⟨RX0, TX0, 4, "LastPenny$Bold", rfl, by decide, rfl, wd_503, Or.inr wd_504⟩
  · exact ⟨RX3, TX3, 4, "LastPenny$Bold", rfl, by decide, rfl, wd_503, Or.inr wd_504⟩
theorem ly_X0_13 : ∀ w ∈ ([.methodLink RX0 13 Lib.Math.min.name, .static Lib.Math.min.name, .initialized "java/lang/Math", .code Lib.Math.min.name Lib.Math.min.code 2 (some .int)] : List Cond), w ∈ xw_tbl := List.forall_mem_cons.mpr ⟨wd_599, List.forall_mem_cons.mpr ⟨wd_259, List.forall_mem_cons.mpr ⟨wd_57, List.forall_mem_cons.mpr ⟨wd_260, fun _ h => absurd h List.not_mem_nil⟩⟩⟩⟩
theorem ly_X0_23 : xy_SU RX0 23 yX4_stakesAct cX4_stakesAct 3 (some .int) 2 := ⟨List.forall_mem_cons.mpr ⟨wd_850, List.forall_mem_cons.mpr ⟨wd_842, List.forall_mem_cons.mpr ⟨wd_516, List.forall_mem_cons.mpr ⟨wd_840, List.forall_mem_cons.mpr ⟨wd_66, fun _ h => absurd h List.not_mem_nil⟩⟩⟩⟩⟩, wd_863, by decide, by decide +kernel⟩
theorem ly_X1_1 : xy_I RX1 1 yX9_init cX9_init 5 4 := ⟨List.forall_mem_cons.mpr ⟨wd_555, List.forall_mem_cons.mpr ⟨wd_520, List.forall_mem_cons.mpr ⟨wd_68, fun _ h => absurd h List.not_mem_nil⟩⟩⟩, wd_521, rfl, by decide, by decide, by decide +kernel⟩
theorem ly_X1_7 : xy_SU RX1 7 yX9_wish cX9_wish 3 (some .int) 2 := ⟨List.forall_mem_cons.mpr ⟨wd_603, List.forall_mem_cons.mpr ⟨wd_1312, List.forall_mem_cons.mpr ⟨wd_560, List.forall_mem_cons.mpr ⟨wd_604, List.forall_mem_cons.mpr ⟨wd_68, fun _ h => absurd h List.not_mem_nil⟩⟩⟩⟩⟩, wd_605, by decide, by decide +kernel⟩
theorem ly_X1_11 : ∀ w ∈ ([.methodLink RX1 11 Lib.Math.min.name, .static Lib.Math.min.name, .initialized "java/lang/Math", .code Lib.Math.min.name Lib.Math.min.code 2 (some .int)] : List Cond), w ∈ xw_tbl := List.forall_mem_cons.mpr ⟨wd_606, List.forall_mem_cons.mpr ⟨wd_259, List.forall_mem_cons.mpr ⟨wd_57, List.forall_mem_cons.mpr ⟨wd_260, fun _ h => absurd h List.not_mem_nil⟩⟩⟩⟩
theorem ly_X1_16 : ∀ w ∈ ([.methodLink RX1 16 Lib.Math.max.name, .static Lib.Math.max.name, .initialized "java/lang/Math", .code Lib.Math.max.name Lib.Math.max.code 2 (some .int)] : List Cond), w ∈ xw_tbl := List.forall_mem_cons.mpr ⟨wd_607, List.forall_mem_cons.mpr ⟨wd_353, List.forall_mem_cons.mpr ⟨wd_57, List.forall_mem_cons.mpr ⟨wd_354, fun _ h => absurd h List.not_mem_nil⟩⟩⟩⟩
theorem lf_X1_29 {ci : Nat} (h : xp_K 1 ci) : xf_F RX1 29 ci 1 0 := by
  rcases h with rfl
  · exact ⟨RX1, TX1, 4, "LastPenny$Careful", rfl, by decide, rfl, wd_491, Or.inr wd_492⟩
theorem ly_X2_3 : ∀ w ∈ ([.methodLink RX2 3 objectInit, .instanceMethod objectInit, .code objectInit ⟨#[0xb1]⟩ 1 none] : List Cond), w ∈ xw_tbl := List.forall_mem_cons.mpr ⟨wd_148, List.forall_mem_cons.mpr ⟨wd_80, List.forall_mem_cons.mpr ⟨wd_81, fun _ h => absurd h List.not_mem_nil⟩⟩⟩
theorem lf_X2_11 : xf_F RX2 11 2 0 2 := ⟨RX2, TX2, 12, "LastPenny$Chances", rfl, by decide, rfl, wd_149, Or.inl rfl⟩
theorem lp_X2_11 : xf_P RX2 11 2 0 2 true := xf_P.of lf_X2_11 rfl ⟨rfl, fun _ => rfl⟩
theorem lf_X2_15 : xf_F RX2 15 2 1 2 := ⟨RX2, TX2, 12, "LastPenny$Chances", rfl, by decide, rfl, wd_151, Or.inl rfl⟩
theorem lp_X2_15 : xf_P RX2 15 2 1 2 true := xf_P.of lf_X2_15 rfl ⟨rfl, fun _ => rfl⟩
theorem lf_X2_18 : xf_F RX2 18 2 4 2 := ⟨RX2, TX2, 12, "LastPenny$Chances", rfl, by decide, rfl, wd_156, Or.inl rfl⟩
theorem lp_X2_18 : xf_P RX2 18 2 4 2 true := xf_P.of lf_X2_18 rfl ⟨rfl, fun _ => rfl⟩
theorem lf_X2_22 : xf_F RX2 22 2 5 2 := ⟨RX2, TX2, 12, "LastPenny$Chances", rfl, by decide, rfl, wd_158, Or.inl rfl⟩
theorem lp_X2_22 : xf_P RX2 22 2 5 2 true := xf_P.of lf_X2_22 rfl ⟨rfl, fun _ => rfl⟩
theorem lf_X2_25 : xf_F RX2 25 2 6 2 := ⟨RX2, TX2, 12, "LastPenny$Chances", rfl, by decide, rfl, wd_159, Or.inl rfl⟩
theorem lp_X2_25 : xf_P RX2 25 2 6 2 true := xf_P.of lf_X2_25 rfl ⟨rfl, fun _ => rfl⟩
theorem lf_X2_28 : xf_F RX2 28 2 7 2 := ⟨RX2, TX2, 12, "LastPenny$Chances", rfl, by decide, rfl, wd_160, Or.inl rfl⟩
theorem lp_X2_28 : xf_P RX2 28 2 7 2 true := xf_P.of lf_X2_28 rfl ⟨rfl, fun _ => rfl⟩
theorem lf_X2_31 : xf_F RX2 31 2 8 2 := ⟨RX2, TX2, 12, "LastPenny$Chances", rfl, by decide, rfl, wd_161, Or.inl rfl⟩
theorem lp_X2_31 : xf_P RX2 31 2 8 2 false := xf_P.of lf_X2_31 rfl ⟨rfl, fun h => by cases h⟩
theorem lf_X2_34 : xf_F RX2 34 2 9 2 := ⟨RX2, TX2, 12, "LastPenny$Chances", rfl, by decide, rfl, wd_162, Or.inl rfl⟩
theorem lp_X2_34 : xf_P RX2 34 2 9 2 false := xf_P.of lf_X2_34 rfl ⟨rfl, fun h => by cases h⟩
theorem lf_X2_37 : xf_F RX2 37 2 10 2 := ⟨RX2, TX2, 12, "LastPenny$Chances", rfl, by decide, rfl, wd_163, Or.inl rfl⟩
theorem lp_X2_37 : xf_P RX2 37 2 10 2 true := xf_P.of lf_X2_37 rfl ⟨rfl, fun _ => rfl⟩
theorem lf_X2_40 : xf_F RX2 40 2 11 2 := ⟨RX2, TX2, 12, "LastPenny$Chances", rfl, by decide, rfl, wd_164, Or.inl rfl⟩
theorem lp_X2_40 : xf_P RX2 40 2 11 2 true := xf_P.of lf_X2_40 rfl ⟨rfl, fun _ => rfl⟩
theorem lf_X2_43 {ci : Nat} (h : xp_K 4 ci) : xf_F RX2 43 ci 3 0 := by
  rcases h with rfl | rfl | rfl | rfl | rfl | rfl | rfl
  · exact ⟨RX4, TX4, 4, "LastPenny$Penny", rfl, by decide, rfl, wd_505, Or.inl rfl⟩
  · exact ⟨RX0, TX0, 4, "LastPenny$Penny", rfl, by decide, rfl, wd_505, Or.inl rfl⟩
  · exact ⟨RX9, TX9, 4, "LastPenny$Penny", rfl, by decide, rfl, wd_505, Or.inl rfl⟩
  · exact ⟨RX7, TX7, 4, "LastPenny$Penny", rfl, by decide, rfl, wd_505, Or.inl rfl⟩
  · exact ⟨RX3, TX3, 4, "LastPenny$Penny", rfl, by decide, rfl, wd_505, Or.inl rfl⟩
  · exact ⟨RX1, TX1, 4, "LastPenny$Penny", rfl, by decide, rfl, wd_505, Or.inl rfl⟩
  · exact ⟨RX10, TX10, 4, "LastPenny$Penny", rfl, by decide, rfl, wd_505, Or.inl rfl⟩
theorem ly_X2_49 : xy_V RX2 49 yX6_stake cX6_stake 5 (some .int) 2 := ⟨List.forall_mem_cons.mpr ⟨wd_685, List.forall_mem_cons.mpr ⟨wd_589, List.forall_mem_cons.mpr ⟨wd_590, List.forall_mem_cons.mpr ⟨wd_53, fun _ h => absurd h List.not_mem_nil⟩⟩⟩⟩, wd_591, by decide, by decide, by decide +kernel⟩
theorem ly_X2_55 : xy_V RX2 55 yX6_odds cX6_odds 5 (some .int) 3 := ⟨List.forall_mem_cons.mpr ⟨wd_686, List.forall_mem_cons.mpr ⟨wd_636, List.forall_mem_cons.mpr ⟨wd_637, List.forall_mem_cons.mpr ⟨wd_53, fun _ h => absurd h List.not_mem_nil⟩⟩⟩⟩, wd_638, by decide, by decide, by decide +kernel⟩
theorem ly_X2_58 : xy_S RX2 58 yJ7_fill_d0a16 cJ7_fill_d0a16 5 none 2 := ⟨List.forall_mem_cons.mpr ⟨wd_687, List.forall_mem_cons.mpr ⟨wd_688, List.forall_mem_cons.mpr ⟨wd_64, fun _ h => absurd h List.not_mem_nil⟩⟩⟩, wd_689, by decide, by decide, by decide +kernel⟩
theorem lf_X2_64 : xf_F RX2 64 6 5 2 := ⟨RX6, TX6, 12, "LastPenny$State", rfl, by decide, rfl, wd_103, Or.inl rfl⟩
theorem lf_X2_67 {ci : Nat} (h : xp_K 4 ci) : xf_F RX2 67 ci 1 0 := by
  rcases h with rfl | rfl | rfl | rfl | rfl | rfl | rfl
  · exact ⟨RX4, TX4, 4, "LastPenny$Penny", rfl, by decide, rfl, wd_490, Or.inl rfl⟩
  · exact ⟨RX0, TX0, 4, "LastPenny$Penny", rfl, by decide, rfl, wd_490, Or.inl rfl⟩
  · exact ⟨RX9, TX9, 4, "LastPenny$Penny", rfl, by decide, rfl, wd_490, Or.inl rfl⟩
  · exact ⟨RX7, TX7, 4, "LastPenny$Penny", rfl, by decide, rfl, wd_490, Or.inl rfl⟩
  · exact ⟨RX3, TX3, 4, "LastPenny$Penny", rfl, by decide, rfl, wd_490, Or.inl rfl⟩
  · exact ⟨RX1, TX1, 4, "LastPenny$Penny", rfl, by decide, rfl, wd_490, Or.inl rfl⟩
  · exact ⟨RX10, TX10, 4, "LastPenny$Penny", rfl, by decide, rfl, wd_490, Or.inl rfl⟩
theorem lf_X2_70 : xf_F RX2 70 2 2 1 := ⟨RX2, TX2, 12, "LastPenny$Chances", rfl, by decide, rfl, wd_152, Or.inl rfl⟩
theorem lp_X2_70 : xf_P RX2 70 2 2 1 false := xf_P.of lf_X2_70 rfl ⟨rfl, fun h => by cases h⟩
theorem lf_X2_74 : xf_F RX2 74 2 3 1 := ⟨RX2, TX2, 12, "LastPenny$Chances", rfl, by decide, rfl, wd_154, Or.inl rfl⟩
theorem lp_X2_74 : xf_P RX2 74 2 3 1 false := xf_P.of lf_X2_74 rfl ⟨rfl, fun h => by cases h⟩
theorem ly_X2_77 : xy_V RX2 77 yX2_spreadOnce cX2_spreadOnce 3 none 1 := ⟨List.forall_mem_cons.mpr ⟨wd_690, List.forall_mem_cons.mpr ⟨wd_692, List.forall_mem_cons.mpr ⟨wd_12, List.forall_mem_cons.mpr ⟨wd_54, fun _ h => absurd h List.not_mem_nil⟩⟩⟩⟩, wd_693, by decide, by decide, by decide +kernel⟩
theorem ly_X2_83 : ∀ w ∈ ([.methodLink RX2 83 arraycopyName, .native arraycopyName, .static arraycopyName, .initialized "java/lang/System"] : List Cond), w ∈ xw_tbl := List.forall_mem_cons.mpr ⟨wd_695, List.forall_mem_cons.mpr ⟨wd_432, List.forall_mem_cons.mpr ⟨wd_431, List.forall_mem_cons.mpr ⟨wd_65, fun _ h => absurd h List.not_mem_nil⟩⟩⟩⟩
theorem ly_X2_89 : ∀ w ∈ ([.methodLink RX2 89 Lib.Math.min.name, .static Lib.Math.min.name, .initialized "java/lang/Math", .code Lib.Math.min.name Lib.Math.min.code 2 (some .int)] : List Cond), w ∈ xw_tbl := List.forall_mem_cons.mpr ⟨wd_734, List.forall_mem_cons.mpr ⟨wd_259, List.forall_mem_cons.mpr ⟨wd_57, List.forall_mem_cons.mpr ⟨wd_260, fun _ h => absurd h List.not_mem_nil⟩⟩⟩⟩
theorem ly_X2_95 : xy_S RX2 95 yJ7_fill_53178 cJ7_fill_53178 4 none 2 := ⟨List.forall_mem_cons.mpr ⟨wd_739, List.forall_mem_cons.mpr ⟨wd_740, List.forall_mem_cons.mpr ⟨wd_64, fun _ h => absurd h List.not_mem_nil⟩⟩⟩, wd_741, by decide, by decide, by decide +kernel⟩
theorem ly_X2_98 : xy_V RX2 98 yX2_chooseStake cX2_chooseStake 9 none 2 := ⟨List.forall_mem_cons.mpr ⟨wd_742, List.forall_mem_cons.mpr ⟨wd_744, List.forall_mem_cons.mpr ⟨wd_13, List.forall_mem_cons.mpr ⟨wd_54, fun _ h => absurd h List.not_mem_nil⟩⟩⟩⟩, wd_745, by decide, by decide, by decide +kernel⟩
theorem ly_X2_104 : xy_V RX2 104 yX2_playTrioOnce cX2_playTrioOnce 4 none 1 := ⟨List.forall_mem_cons.mpr ⟨wd_770, List.forall_mem_cons.mpr ⟨wd_772, List.forall_mem_cons.mpr ⟨wd_14, List.forall_mem_cons.mpr ⟨wd_54, fun _ h => absurd h List.not_mem_nil⟩⟩⟩⟩, wd_773, by decide, by decide, by decide +kernel⟩
theorem ly_X2_109 : xy_V RX2 109 yX2_giveAPenny cX2_giveAPenny 8 none 3 := ⟨List.forall_mem_cons.mpr ⟨wd_775, List.forall_mem_cons.mpr ⟨wd_777, List.forall_mem_cons.mpr ⟨wd_15, List.forall_mem_cons.mpr ⟨wd_54, fun _ h => absurd h List.not_mem_nil⟩⟩⟩⟩, wd_778, by decide, by decide, by decide +kernel⟩
theorem ly_X3_1 : xy_I RX3 1 yX0_init cX0_init 5 4 := ⟨List.forall_mem_cons.mpr ⟨wd_544, List.forall_mem_cons.mpr ⟨wd_480, List.forall_mem_cons.mpr ⟨wd_67, fun _ h => absurd h List.not_mem_nil⟩⟩⟩, wd_481, rfl, by decide, by decide, by decide +kernel⟩
theorem ly_X3_7 : xy_SU RX3 7 yX0_wish cX0_wish 3 (some .int) 2 := ⟨List.forall_mem_cons.mpr ⟨wd_611, List.forall_mem_cons.mpr ⟨wd_1313, List.forall_mem_cons.mpr ⟨wd_549, List.forall_mem_cons.mpr ⟨wd_597, List.forall_mem_cons.mpr ⟨wd_67, fun _ h => absurd h List.not_mem_nil⟩⟩⟩⟩⟩, wd_598, by decide, by decide +kernel⟩
theorem ly_X4_3 : ∀ w ∈ ([.methodLink RX4 3 objectInit, .instanceMethod objectInit, .code objectInit ⟨#[0xb1]⟩ 1 none] : List Cond), w ∈ xw_tbl := List.forall_mem_cons.mpr ⟨wd_485, List.forall_mem_cons.mpr ⟨wd_80, List.forall_mem_cons.mpr ⟨wd_81, fun _ h => absurd h List.not_mem_nil⟩⟩⟩
theorem lf_X4_9 {ci : Nat} (h : xp_K 4 ci) : xf_F RX4 9 ci 0 0 := by
  rcases h with rfl | rfl | rfl | rfl | rfl | rfl | rfl
  · exact ⟨RX4, TX4, 4, "LastPenny$Penny", rfl, by decide, rfl, wd_486, Or.inl rfl⟩
  · exact ⟨RX0, TX0, 4, "LastPenny$Penny", rfl, by decide, rfl, wd_486, Or.inl rfl⟩
  · exact ⟨RX9, TX9, 4, "LastPenny$Penny", rfl, by decide, rfl, wd_486, Or.inl rfl⟩
  · exact ⟨RX7, TX7, 4, "LastPenny$Penny", rfl, by decide, rfl, wd_486, Or.inl rfl⟩
  · exact ⟨RX3, TX3, 4, "LastPenny$Penny", rfl, by decide, rfl, wd_486, Or.inl rfl⟩
  · exact ⟨RX1, TX1, 4, "LastPenny$Penny", rfl, by decide, rfl, wd_486, Or.inl rfl⟩
  · exact ⟨RX10, TX10, 4, "LastPenny$Penny", rfl, by decide, rfl, wd_486, Or.inl rfl⟩
theorem lp_X4_9 {ci : Nat} (h : xp_K 4 ci) : xf_P RX4 9 ci 0 0 true := by
  refine ⟨lf_X4_9 h, ?_⟩
  rcases h with rfl | rfl | rfl | rfl | rfl | rfl | rfl
  · intro C T N hc; cases hc; exact ⟨rfl, fun _ => rfl⟩
  · intro C T N hc; cases hc; exact ⟨rfl, fun _ => rfl⟩
  · intro C T N hc; cases hc; exact ⟨rfl, fun _ => rfl⟩
  · intro C T N hc; cases hc; exact ⟨rfl, fun _ => rfl⟩
  · intro C T N hc; cases hc; exact ⟨rfl, fun _ => rfl⟩
  · intro C T N hc; cases hc; exact ⟨rfl, fun _ => rfl⟩
  · intro C T N hc; cases hc; exact ⟨rfl, fun _ => rfl⟩
theorem lf_X4_15 {ci : Nat} (h : xp_K 4 ci) : xf_F RX4 15 ci 1 0 := by
  rcases h with rfl | rfl | rfl | rfl | rfl | rfl | rfl
  · exact ⟨RX4, TX4, 4, "LastPenny$Penny", rfl, by decide, rfl, wd_489, Or.inl rfl⟩
  · exact ⟨RX0, TX0, 4, "LastPenny$Penny", rfl, by decide, rfl, wd_489, Or.inl rfl⟩
  · exact ⟨RX9, TX9, 4, "LastPenny$Penny", rfl, by decide, rfl, wd_489, Or.inl rfl⟩
  · exact ⟨RX7, TX7, 4, "LastPenny$Penny", rfl, by decide, rfl, wd_489, Or.inl rfl⟩
  · exact ⟨RX3, TX3, 4, "LastPenny$Penny", rfl, by decide, rfl, wd_489, Or.inl rfl⟩
  · exact ⟨RX1, TX1, 4, "LastPenny$Penny", rfl, by decide, rfl, wd_489, Or.inl rfl⟩
  · exact ⟨RX10, TX10, 4, "LastPenny$Penny", rfl, by decide, rfl, wd_489, Or.inl rfl⟩
theorem lp_X4_15 {ci : Nat} (h : xp_K 4 ci) : xf_P RX4 15 ci 1 0 true := by
  refine ⟨lf_X4_15 h, ?_⟩
  rcases h with rfl | rfl | rfl | rfl | rfl | rfl | rfl
  · intro C T N hc; cases hc; exact ⟨rfl, fun _ => rfl⟩
  · intro C T N hc; cases hc; exact ⟨rfl, fun _ => rfl⟩
  · intro C T N hc; cases hc; exact ⟨rfl, fun _ => rfl⟩
  · intro C T N hc; cases hc; exact ⟨rfl, fun _ => rfl⟩
  · intro C T N hc; cases hc; exact ⟨rfl, fun _ => rfl⟩
  · intro C T N hc; cases hc; exact ⟨rfl, fun _ => rfl⟩
  · intro C T N hc; cases hc; exact ⟨rfl, fun _ => rfl⟩
theorem lf_X4_18 {ci : Nat} (h : xp_K 4 ci) : xf_F RX4 18 ci 2 0 := by
  rcases h with rfl | rfl | rfl | rfl | rfl | rfl | rfl
  · exact ⟨RX4, TX4, 4, "LastPenny$Penny", rfl, by decide, rfl, wd_494, Or.inl rfl⟩
  · exact ⟨RX0, TX0, 4, "LastPenny$Penny", rfl, by decide, rfl, wd_494, Or.inl rfl⟩
  · exact ⟨RX9, TX9, 4, "LastPenny$Penny", rfl, by decide, rfl, wd_494, Or.inl rfl⟩
  · exact ⟨RX7, TX7, 4, "LastPenny$Penny", rfl, by decide, rfl, wd_494, Or.inl rfl⟩
  · exact ⟨RX3, TX3, 4, "LastPenny$Penny", rfl, by decide, rfl, wd_494, Or.inl rfl⟩
  · exact ⟨RX1, TX1, 4, "LastPenny$Penny", rfl, by decide, rfl, wd_494, Or.inl rfl⟩
  · exact ⟨RX10, TX10, 4, "LastPenny$Penny", rfl, by decide, rfl, wd_494, Or.inl rfl⟩
theorem lp_X4_18 {ci : Nat} (h : xp_K 4 ci) : xf_P RX4 18 ci 2 0 true := by
  refine ⟨lf_X4_18 h, ?_⟩
  rcases h with rfl | rfl | rfl | rfl | rfl | rfl | rfl
  · intro C T N hc; cases hc; exact ⟨rfl, fun _ => rfl⟩
  · intro C T N hc; cases hc; exact ⟨rfl, fun _ => rfl⟩
  · intro C T N hc; cases hc; exact ⟨rfl, fun _ => rfl⟩
  · intro C T N hc; cases hc; exact ⟨rfl, fun _ => rfl⟩
  · intro C T N hc; cases hc; exact ⟨rfl, fun _ => rfl⟩
  · intro C T N hc; cases hc; exact ⟨rfl, fun _ => rfl⟩
  · intro C T N hc; cases hc; exact ⟨rfl, fun _ => rfl⟩
theorem lf_X4_21 {ci : Nat} (h : xp_K 4 ci) : xf_F RX4 21 ci 3 0 := by
  rcases h with rfl | rfl | rfl | rfl | rfl | rfl | rfl
  · exact ⟨RX4, TX4, 4, "LastPenny$Penny", rfl, by decide, rfl, wd_502, Or.inl rfl⟩
  · exact ⟨RX0, TX0, 4, "LastPenny$Penny", rfl, by decide, rfl, wd_502, Or.inl rfl⟩
  · exact ⟨RX9, TX9, 4, "LastPenny$Penny", rfl, by decide, rfl, wd_502, Or.inl rfl⟩
  · exact ⟨RX7, TX7, 4, "LastPenny$Penny", rfl, by decide, rfl, wd_502, Or.inl rfl⟩
  · exact ⟨RX3, TX3, 4, "LastPenny$Penny", rfl, by decide, rfl, wd_502, Or.inl rfl⟩
  · exact ⟨RX1, TX1, 4, "LastPenny$Penny", rfl, by decide, rfl, wd_502, Or.inl rfl⟩
  · exact ⟨RX10, TX10, 4, "LastPenny$Penny", rfl, by decide, rfl, wd_502, Or.inl rfl⟩
theorem lp_X4_21 {ci : Nat} (h : xp_K 4 ci) : xf_P RX4 21 ci 3 0 true := by
  refine ⟨lf_X4_21 h, ?_⟩
  rcases h with rfl | rfl | rfl | rfl | rfl | rfl | rfl
  · intro C T N hc; cases hc; exact ⟨rfl, fun _ => rfl⟩
  · intro C T N hc; cases hc; exact ⟨rfl, fun _ => rfl⟩
  · intro C T N hc; cases hc; exact ⟨rfl, fun _ => rfl⟩
  · intro C T N hc; cases hc; exact ⟨rfl, fun _ => rfl⟩
  · intro C T N hc; cases hc; exact ⟨rfl, fun _ => rfl⟩
  · intro C T N hc; cases hc; exact ⟨rfl, fun _ => rfl⟩
  · intro C T N hc; cases hc; exact ⟨rfl, fun _ => rfl⟩
theorem ly_X4_24 : xy_S RX4 24 yX4_began cX4_began 2 none 2 := ⟨List.forall_mem_cons.mpr ⟨wd_864, List.forall_mem_cons.mpr ⟨wd_848, List.forall_mem_cons.mpr ⟨wd_66, fun _ h => absurd h List.not_mem_nil⟩⟩⟩, wd_849, by decide, by decide, by decide +kernel⟩
theorem ly_X5_3 : ∀ w ∈ ([.methodLink RX5 3 objectInit, .instanceMethod objectInit, .code objectInit ⟨#[0xb1]⟩ 1 none] : List Cond), w ∈ xw_tbl := List.forall_mem_cons.mpr ⟨wd_197, List.forall_mem_cons.mpr ⟨wd_80, List.forall_mem_cons.mpr ⟨wd_81, fun _ h => absurd h List.not_mem_nil⟩⟩⟩
theorem lf_X5_9 : xf_F RX5 9 5 3 2 := ⟨RX5, TX5, 9, "LastPenny$Reader", rfl, by decide, rfl, wd_202, Or.inl rfl⟩
theorem lp_X5_9 : xf_P RX5 9 5 3 2 true := xf_P.of lf_X5_9 rfl ⟨rfl, fun _ => rfl⟩
theorem lf_X5_15 : xf_F RX5 15 5 4 2 := ⟨RX5, TX5, 9, "LastPenny$Reader", rfl, by decide, rfl, wd_203, Or.inl rfl⟩
theorem lp_X5_15 : xf_P RX5 15 5 4 2 true := xf_P.of lf_X5_15 rfl ⟨rfl, fun _ => rfl⟩
theorem lf_X5_18 : xf_F RX5 18 5 6 2 := ⟨RX5, TX5, 9, "LastPenny$Reader", rfl, by decide, rfl, wd_205, Or.inl rfl⟩
theorem lp_X5_18 : xf_P RX5 18 5 6 2 true := xf_P.of lf_X5_18 rfl ⟨rfl, fun _ => rfl⟩
theorem lf_X5_21 : xf_F RX5 21 5 0 2 := ⟨RX5, TX5, 9, "LastPenny$Reader", rfl, by decide, rfl, wd_198, Or.inl rfl⟩
theorem lp_X5_21 : xf_P RX5 21 5 0 2 false := xf_P.of lf_X5_21 rfl ⟨rfl, fun h => by cases h⟩
theorem ly_X5_25 : ∀ w ∈ ([.methodLink RX5 25 Lib.Math.min.name, .static Lib.Math.min.name, .initialized "java/lang/Math", .code Lib.Math.min.name Lib.Math.min.code 2 (some .int)] : List Cond), w ∈ xw_tbl := List.forall_mem_cons.mpr ⟨wd_258, List.forall_mem_cons.mpr ⟨wd_259, List.forall_mem_cons.mpr ⟨wd_57, List.forall_mem_cons.mpr ⟨wd_260, fun _ h => absurd h List.not_mem_nil⟩⟩⟩⟩
theorem lf_X5_31 : xf_F RX5 31 5 1 0 := ⟨RX5, TX5, 9, "LastPenny$Reader", rfl, by decide, rfl, wd_199, Or.inl rfl⟩
theorem lp_X5_31 : xf_P RX5 31 5 1 0 false := xf_P.of lf_X5_31 rfl ⟨rfl, fun h => by cases h⟩
theorem lf_X5_35 : xf_F RX5 35 5 2 0 := ⟨RX5, TX5, 9, "LastPenny$Reader", rfl, by decide, rfl, wd_200, Or.inl rfl⟩
theorem lp_X5_35 : xf_P RX5 35 5 2 0 false := xf_P.of lf_X5_35 rfl ⟨rfl, fun h => by cases h⟩
theorem lf_X5_38 : xf_F RX5 38 5 5 0 := ⟨RX5, TX5, 9, "LastPenny$Reader", rfl, by decide, rfl, wd_204, Or.inl rfl⟩
theorem lp_X5_38 : xf_P RX5 38 5 5 0 false := xf_P.of lf_X5_38 rfl ⟨rfl, fun h => by cases h⟩
theorem lf_X5_41 : xf_F RX5 41 5 7 0 := ⟨RX5, TX5, 9, "LastPenny$Reader", rfl, by decide, rfl, wd_206, Or.inl rfl⟩
theorem lp_X5_41 : xf_P RX5 41 5 7 0 false := xf_P.of lf_X5_41 rfl ⟨rfl, fun h => by cases h⟩
theorem lf_X5_44 : xf_F RX5 44 5 8 0 := ⟨RX5, TX5, 9, "LastPenny$Reader", rfl, by decide, rfl, wd_207, Or.inl rfl⟩
theorem lp_X5_44 : xf_P RX5 44 5 8 0 false := xf_P.of lf_X5_44 rfl ⟨rfl, fun h => by cases h⟩
theorem ly_X5_47 : xy_V RX5 47 yX5_readClause cX5_readClause 3 (some .boolean) 0 := ⟨List.forall_mem_cons.mpr ⟨wd_261, List.forall_mem_cons.mpr ⟨wd_263, List.forall_mem_cons.mpr ⟨wd_0, List.forall_mem_cons.mpr ⟨wd_55, fun _ h => absurd h List.not_mem_nil⟩⟩⟩⟩, wd_264, by decide, by decide, by decide +kernel⟩
theorem ly_X5_51 : xy_V RX5 51 yX5_take cX5_take 2 (some .boolean) 1 := ⟨List.forall_mem_cons.mpr ⟨wd_269, List.forall_mem_cons.mpr ⟨wd_271, List.forall_mem_cons.mpr ⟨wd_2, List.forall_mem_cons.mpr ⟨wd_55, fun _ h => absurd h List.not_mem_nil⟩⟩⟩⟩, wd_272, by decide, by decide, by decide +kernel⟩
theorem ln_X5_55 : ∀ w ∈ ([.classLink RX5 55 RX8, .instantiable RX8 4, .initialized RX8] : List Cond), w ∈ xw_tbl := List.forall_mem_cons.mpr ⟨wd_417, List.forall_mem_cons.mpr ⟨wd_418, List.forall_mem_cons.mpr ⟨wd_63, fun _ h => absurd h List.not_mem_nil⟩⟩⟩
theorem ly_X5_57 : xy_S RX5 57 yJ7_copyOf_59c91 cJ7_copyOf_59c91 3 (some (.array .int)) 2 := ⟨List.forall_mem_cons.mpr ⟨wd_419, List.forall_mem_cons.mpr ⟨wd_420, List.forall_mem_cons.mpr ⟨wd_64, fun _ h => absurd h List.not_mem_nil⟩⟩⟩, wd_421, by decide, by decide, by decide +kernel⟩
theorem ly_X5_63 : xy_I RX5 63 yX8_init cX8_init 5 4 := ⟨List.forall_mem_cons.mpr ⟨wd_433, List.forall_mem_cons.mpr ⟨wd_434, List.forall_mem_cons.mpr ⟨wd_63, fun _ h => absurd h List.not_mem_nil⟩⟩⟩, wd_435, rfl, by decide, by decide, by decide +kernel⟩
theorem ly_X5_66 : xy_V RX5 66 yJ0_length_8abf5 cJ0_length_8abf5 1 (some .int) 0 := ⟨List.forall_mem_cons.mpr ⟨wd_278, List.forall_mem_cons.mpr ⟨wd_279, List.forall_mem_cons.mpr ⟨wd_280, List.forall_mem_cons.mpr ⟨wd_58, fun _ h => absurd h List.not_mem_nil⟩⟩⟩⟩, wd_281, by decide, by decide, by decide +kernel⟩
theorem ly_X5_72 : xy_V RX5 72 yJ0_charAt_5068e cJ0_charAt_5068e 2 (some .char) 1 := ⟨List.forall_mem_cons.mpr ⟨wd_288, List.forall_mem_cons.mpr ⟨wd_289, List.forall_mem_cons.mpr ⟨wd_290, List.forall_mem_cons.mpr ⟨wd_58, fun _ h => absurd h List.not_mem_nil⟩⟩⟩⟩, wd_291, by decide, by decide, by decide +kernel⟩
theorem ly_X5_76 : xy_V RX5 76 yJ0_indexOf_0f7a4 cJ0_indexOf_0f7a4 2 (some .int) 1 := ⟨List.forall_mem_cons.mpr ⟨wd_337, List.forall_mem_cons.mpr ⟨wd_338, List.forall_mem_cons.mpr ⟨wd_339, List.forall_mem_cons.mpr ⟨wd_58, fun _ h => absurd h List.not_mem_nil⟩⟩⟩⟩, wd_340, by decide, by decide, by decide +kernel⟩
theorem ly_X5_82 : xy_V RX5 82 yX5_takeOneOf cX5_takeOneOf 3 (some .int) 1 := ⟨List.forall_mem_cons.mpr ⟨wd_333, List.forall_mem_cons.mpr ⟨wd_335, List.forall_mem_cons.mpr ⟨wd_5, List.forall_mem_cons.mpr ⟨wd_55, fun _ h => absurd h List.not_mem_nil⟩⟩⟩⟩, wd_336, by decide, by decide, by decide +kernel⟩
theorem ly_X5_86 : xy_V RX5 86 yX5_readWord cX5_readWord 1 (some .int) 0 := ⟨List.forall_mem_cons.mpr ⟨wd_265, List.forall_mem_cons.mpr ⟨wd_267, List.forall_mem_cons.mpr ⟨wd_1, List.forall_mem_cons.mpr ⟨wd_55, fun _ h => absurd h List.not_mem_nil⟩⟩⟩⟩, wd_268, by decide, by decide, by decide +kernel⟩
theorem ly_X5_89 : xy_V RX5 89 yX5_readNumber cX5_readNumber 3 (some .int) 0 := ⟨List.forall_mem_cons.mpr ⟨wd_328, List.forall_mem_cons.mpr ⟨wd_330, List.forall_mem_cons.mpr ⟨wd_4, List.forall_mem_cons.mpr ⟨wd_55, fun _ h => absurd h List.not_mem_nil⟩⟩⟩⟩, wd_331, by decide, by decide, by decide +kernel⟩
theorem ly_X5_92 : ∀ w ∈ ([.methodLink RX5 92 Lib.Math.max.name, .static Lib.Math.max.name, .initialized "java/lang/Math", .code Lib.Math.max.name Lib.Math.max.code 2 (some .int)] : List Cond), w ∈ xw_tbl := List.forall_mem_cons.mpr ⟨wd_394, List.forall_mem_cons.mpr ⟨wd_353, List.forall_mem_cons.mpr ⟨wd_57, List.forall_mem_cons.mpr ⟨wd_354, fun _ h => absurd h List.not_mem_nil⟩⟩⟩⟩
theorem ly_X5_95 : xy_V RX5 95 yX5_readEither cX5_readEither 4 (some .boolean) 1 := ⟨List.forall_mem_cons.mpr ⟨wd_395, List.forall_mem_cons.mpr ⟨wd_397, List.forall_mem_cons.mpr ⟨wd_6, List.forall_mem_cons.mpr ⟨wd_55, fun _ h => absurd h List.not_mem_nil⟩⟩⟩⟩, wd_398, by decide, by decide, by decide +kernel⟩
theorem ly_X5_101 : xy_V RX5 101 yX5_takeAll cX5_takeAll 3 (some .boolean) 1 := ⟨List.forall_mem_cons.mpr ⟨wd_274, List.forall_mem_cons.mpr ⟨wd_276, List.forall_mem_cons.mpr ⟨wd_3, List.forall_mem_cons.mpr ⟨wd_55, fun _ h => absurd h List.not_mem_nil⟩⟩⟩⟩, wd_277, by decide, by decide, by decide +kernel⟩
theorem ly_X5_109 : xy_V RX5 109 yX5_readSingle cX5_readSingle 2 (some .boolean) 1 := ⟨List.forall_mem_cons.mpr ⟨wd_399, List.forall_mem_cons.mpr ⟨wd_401, List.forall_mem_cons.mpr ⟨wd_7, List.forall_mem_cons.mpr ⟨wd_55, fun _ h => absurd h List.not_mem_nil⟩⟩⟩⟩, wd_402, by decide, by decide, by decide +kernel⟩
theorem ly_X5_112 : xy_V RX5 112 yX5_put cX5_put 2 none 1 := ⟨List.forall_mem_cons.mpr ⟨wd_409, List.forall_mem_cons.mpr ⟨wd_411, List.forall_mem_cons.mpr ⟨wd_9, List.forall_mem_cons.mpr ⟨wd_55, fun _ h => absurd h List.not_mem_nil⟩⟩⟩⟩, wd_412, by decide, by decide, by decide +kernel⟩
theorem ly_X5_116 : xy_V RX5 116 yX5_readTest cX5_readTest 4 (some .boolean) 0 := ⟨List.forall_mem_cons.mpr ⟨wd_403, List.forall_mem_cons.mpr ⟨wd_405, List.forall_mem_cons.mpr ⟨wd_8, List.forall_mem_cons.mpr ⟨wd_55, fun _ h => absurd h List.not_mem_nil⟩⟩⟩⟩, wd_406, by decide, by decide, by decide +kernel⟩
theorem ly_X6_3 : ∀ w ∈ ([.methodLink RX6 3 objectInit, .instanceMethod objectInit, .code objectInit ⟨#[0xb1]⟩ 1 none] : List Cond), w ∈ xw_tbl := List.forall_mem_cons.mpr ⟨wd_87, List.forall_mem_cons.mpr ⟨wd_80, List.forall_mem_cons.mpr ⟨wd_81, fun _ h => absurd h List.not_mem_nil⟩⟩⟩
theorem lf_X6_9 : xf_F RX6 9 6 0 2 := ⟨RX6, TX6, 12, "LastPenny$State", rfl, by decide, rfl, wd_92, Or.inl rfl⟩
theorem lp_X6_9 : xf_P RX6 9 6 0 2 true := xf_P.of lf_X6_9 rfl ⟨rfl, fun _ => rfl⟩
theorem lf_X6_17 : xf_F RX6 17 6 2 2 := ⟨RX6, TX6, 12, "LastPenny$State", rfl, by decide, rfl, wd_96, Or.inl rfl⟩
theorem lp_X6_17 : xf_P RX6 17 6 2 2 true := xf_P.of lf_X6_17 rfl ⟨rfl, fun _ => rfl⟩
theorem lf_X6_23 : xf_F RX6 23 6 4 2 := ⟨RX6, TX6, 12, "LastPenny$State", rfl, by decide, rfl, wd_100, Or.inl rfl⟩
theorem lp_X6_23 : xf_P RX6 23 6 4 2 true := xf_P.of lf_X6_23 rfl ⟨rfl, fun _ => rfl⟩
theorem lf_X6_27 : xf_F RX6 27 6 5 2 := ⟨RX6, TX6, 12, "LastPenny$State", rfl, by decide, rfl, wd_102, Or.inl rfl⟩
theorem lp_X6_27 : xf_P RX6 27 6 5 2 true := xf_P.of lf_X6_27 rfl ⟨rfl, fun _ => rfl⟩
theorem lf_X6_31 : xf_F RX6 31 6 6 2 := ⟨RX6, TX6, 12, "LastPenny$State", rfl, by decide, rfl, wd_105, Or.inl rfl⟩
theorem lp_X6_31 : xf_P RX6 31 6 6 2 true := xf_P.of lf_X6_31 rfl ⟨rfl, fun _ => rfl⟩
theorem lf_X6_34 : xf_F RX6 34 6 11 2 := ⟨RX6, TX6, 12, "LastPenny$State", rfl, by decide, rfl, wd_115, Or.inl rfl⟩
theorem lp_X6_34 : xf_P RX6 34 6 11 2 true := xf_P.of lf_X6_34 rfl ⟨rfl, fun _ => rfl⟩
theorem ly_X6_37 : ∀ w ∈ ([.methodLink RX6 37 arraycopyName, .native arraycopyName, .static arraycopyName, .initialized "java/lang/System"] : List Cond), w ∈ xw_tbl := List.forall_mem_cons.mpr ⟨wd_936, List.forall_mem_cons.mpr ⟨wd_432, List.forall_mem_cons.mpr ⟨wd_431, List.forall_mem_cons.mpr ⟨wd_65, fun _ h => absurd h List.not_mem_nil⟩⟩⟩⟩
theorem lf_X6_43 : xf_F RX6 43 6 1 0 := ⟨RX6, TX6, 12, "LastPenny$State", rfl, by decide, rfl, wd_95, Or.inl rfl⟩
theorem lp_X6_43 : xf_P RX6 43 6 1 0 false := xf_P.of lf_X6_43 rfl ⟨rfl, fun h => by cases h⟩
theorem lf_X6_47 : xf_F RX6 47 6 3 0 := ⟨RX6, TX6, 12, "LastPenny$State", rfl, by decide, rfl, wd_98, Or.inl rfl⟩
theorem lp_X6_47 : xf_P RX6 47 6 3 0 false := xf_P.of lf_X6_47 rfl ⟨rfl, fun h => by cases h⟩
theorem lf_X6_50 : xf_F RX6 50 6 7 0 := ⟨RX6, TX6, 12, "LastPenny$State", rfl, by decide, rfl, wd_107, Or.inl rfl⟩
theorem lp_X6_50 : xf_P RX6 50 6 7 0 false := xf_P.of lf_X6_50 rfl ⟨rfl, fun h => by cases h⟩
theorem lf_X6_53 : xf_F RX6 53 6 8 0 := ⟨RX6, TX6, 12, "LastPenny$State", rfl, by decide, rfl, wd_109, Or.inl rfl⟩
theorem lp_X6_53 : xf_P RX6 53 6 8 0 false := xf_P.of lf_X6_53 rfl ⟨rfl, fun h => by cases h⟩
theorem lf_X6_56 : xf_F RX6 56 6 9 0 := ⟨RX6, TX6, 12, "LastPenny$State", rfl, by decide, rfl, wd_111, Or.inl rfl⟩
theorem lp_X6_56 : xf_P RX6 56 6 9 0 false := xf_P.of lf_X6_56 rfl ⟨rfl, fun h => by cases h⟩
theorem lf_X6_59 : xf_F RX6 59 6 10 0 := ⟨RX6, TX6, 12, "LastPenny$State", rfl, by decide, rfl, wd_113, Or.inl rfl⟩
theorem lp_X6_59 : xf_P RX6 59 6 10 0 false := xf_P.of lf_X6_59 rfl ⟨rfl, fun h => by cases h⟩
theorem ly_X6_62 : xy_V RX6 62 yX6_holding cX6_holding 2 (some (.object "LastPenny$Table")) 0 := ⟨List.forall_mem_cons.mpr ⟨wd_466, List.forall_mem_cons.mpr ⟨wd_468, List.forall_mem_cons.mpr ⟨wd_10, List.forall_mem_cons.mpr ⟨wd_53, fun _ h => absurd h List.not_mem_nil⟩⟩⟩⟩, wd_469, by decide, by decide, by decide +kernel⟩
theorem lf_X6_66 : xf_F RX6 66 8 3 0 := ⟨RX8, TX8, 4, "LastPenny$Table", rfl, by decide, rfl, wd_441, Or.inl rfl⟩
theorem lf_X6_69 {ci : Nat} (h : xp_K 4 ci) : xf_F RX6 69 ci 1 0 := by
  rcases h with rfl | rfl | rfl | rfl | rfl | rfl | rfl
  · exact ⟨RX4, TX4, 4, "LastPenny$Penny", rfl, by decide, rfl, wd_493, Or.inl rfl⟩
  · exact ⟨RX0, TX0, 4, "LastPenny$Penny", rfl, by decide, rfl, wd_493, Or.inl rfl⟩
  · exact ⟨RX9, TX9, 4, "LastPenny$Penny", rfl, by decide, rfl, wd_493, Or.inl rfl⟩
  · exact ⟨RX7, TX7, 4, "LastPenny$Penny", rfl, by decide, rfl, wd_493, Or.inl rfl⟩
  · exact ⟨RX3, TX3, 4, "LastPenny$Penny", rfl, by decide, rfl, wd_493, Or.inl rfl⟩
  · exact ⟨RX1, TX1, 4, "LastPenny$Penny", rfl, by decide, rfl, wd_493, Or.inl rfl⟩
  · exact ⟨RX10, TX10, 4, "LastPenny$Penny", rfl, by decide, rfl, wd_493, Or.inl rfl⟩
theorem lf_X6_76 {ci : Nat} (h : xp_K 4 ci) : xf_F RX6 76 ci 3 0 := by
  rcases h with rfl | rfl | rfl | rfl | rfl | rfl | rfl
  · exact ⟨RX4, TX4, 4, "LastPenny$Penny", rfl, by decide, rfl, wd_506, Or.inl rfl⟩
  · exact ⟨RX0, TX0, 4, "LastPenny$Penny", rfl, by decide, rfl, wd_506, Or.inl rfl⟩
  · exact ⟨RX9, TX9, 4, "LastPenny$Penny", rfl, by decide, rfl, wd_506, Or.inl rfl⟩
  · exact ⟨RX7, TX7, 4, "LastPenny$Penny", rfl, by decide, rfl, wd_506, Or.inl rfl⟩
  · exact ⟨RX3, TX3, 4, "LastPenny$Penny", rfl, by decide, rfl, wd_506, Or.inl rfl⟩
  · exact ⟨RX1, TX1, 4, "LastPenny$Penny", rfl, by decide, rfl, wd_506, Or.inl rfl⟩
  · exact ⟨RX10, TX10, 4, "LastPenny$Penny", rfl, by decide, rfl, wd_506, Or.inl rfl⟩
theorem ly_X6_79 : ∀ w ∈ ([.methodLink RX6 79 Lib.Math.min.name, .static Lib.Math.min.name, .initialized "java/lang/Math", .code Lib.Math.min.name Lib.Math.min.code 2 (some .int)] : List Cond), w ∈ xw_tbl := List.forall_mem_cons.mpr ⟨wd_622, List.forall_mem_cons.mpr ⟨wd_259, List.forall_mem_cons.mpr ⟨wd_57, List.forall_mem_cons.mpr ⟨wd_260, fun _ h => absurd h List.not_mem_nil⟩⟩⟩⟩
theorem ly_X6_84 : xy_V RX6 84 yX6_limit cX6_limit 2 (some .int) 0 := ⟨List.forall_mem_cons.mpr ⟨wd_623, List.forall_mem_cons.mpr ⟨wd_463, List.forall_mem_cons.mpr ⟨wd_464, List.forall_mem_cons.mpr ⟨wd_53, fun _ h => absurd h List.not_mem_nil⟩⟩⟩⟩, wd_465, by decide, by decide, by decide +kernel⟩
theorem lf_X6_87 {ci : Nat} (h : xp_K 4 ci) : xf_F RX6 87 ci 0 0 := by
  rcases h with rfl | rfl | rfl | rfl | rfl | rfl | rfl
  · exact ⟨RX4, TX4, 4, "LastPenny$Penny", rfl, by decide, rfl, wd_487, Or.inl rfl⟩
  · exact ⟨RX0, TX0, 4, "LastPenny$Penny", rfl, by decide, rfl, wd_487, Or.inl rfl⟩
  · exact ⟨RX9, TX9, 4, "LastPenny$Penny", rfl, by decide, rfl, wd_487, Or.inl rfl⟩
  · exact ⟨RX7, TX7, 4, "LastPenny$Penny", rfl, by decide, rfl, wd_487, Or.inl rfl⟩
  · exact ⟨RX3, TX3, 4, "LastPenny$Penny", rfl, by decide, rfl, wd_487, Or.inl rfl⟩
  · exact ⟨RX1, TX1, 4, "LastPenny$Penny", rfl, by decide, rfl, wd_487, Or.inl rfl⟩
  · exact ⟨RX10, TX10, 4, "LastPenny$Penny", rfl, by decide, rfl, wd_487, Or.inl rfl⟩
theorem ly_X6_90 : xy_V RX6 90 yX8_leaning cX8_leaning 5 (some .int) 1 := ⟨List.forall_mem_cons.mpr ⟨wd_639, List.forall_mem_cons.mpr ⟨wd_640, List.forall_mem_cons.mpr ⟨wd_641, List.forall_mem_cons.mpr ⟨wd_63, fun _ h => absurd h List.not_mem_nil⟩⟩⟩⟩, wd_642, by decide, by decide, by decide +kernel⟩
theorem ly_X6_94 : ∀ w ∈ ([.methodLink RX6 94 Lib.Math.max.name, .static Lib.Math.max.name, .initialized "java/lang/Math", .code Lib.Math.max.name Lib.Math.max.code 2 (some .int)] : List Cond), w ∈ xw_tbl := List.forall_mem_cons.mpr ⟨wd_652, List.forall_mem_cons.mpr ⟨wd_353, List.forall_mem_cons.mpr ⟨wd_57, List.forall_mem_cons.mpr ⟨wd_354, fun _ h => absurd h List.not_mem_nil⟩⟩⟩⟩
theorem ly_X6_97 : xy_V RX6 97 yX6_stake cX6_stake 5 (some .int) 2 := ⟨List.forall_mem_cons.mpr ⟨wd_669, List.forall_mem_cons.mpr ⟨wd_589, List.forall_mem_cons.mpr ⟨wd_590, List.forall_mem_cons.mpr ⟨wd_53, fun _ h => absurd h List.not_mem_nil⟩⟩⟩⟩, wd_591, by decide, by decide, by decide +kernel⟩
theorem ly_X6_101 : xy_S RX6 101 yJ6_bitCount_0f7a4 cJ6_bitCount_0f7a4 1 (some .int) 1 := ⟨List.forall_mem_cons.mpr ⟨wd_821, List.forall_mem_cons.mpr ⟨wd_822, List.forall_mem_cons.mpr ⟨wd_73, fun _ h => absurd h List.not_mem_nil⟩⟩⟩, wd_823, by decide, by decide, by decide +kernel⟩
theorem ly_X6_107 : ∀ w ∈ ([.methodLink RX6 107 Lib.Math.abs.name, .static Lib.Math.abs.name, .initialized "java/lang/Math", .code Lib.Math.abs.name Lib.Math.abs.code 1 (some .int)] : List Cond), w ∈ xw_tbl := List.forall_mem_cons.mpr ⟨wd_827, List.forall_mem_cons.mpr ⟨wd_828, List.forall_mem_cons.mpr ⟨wd_57, List.forall_mem_cons.mpr ⟨wd_829, fun _ h => absurd h List.not_mem_nil⟩⟩⟩⟩
theorem ly_X6_110 : xy_V RX6 110 yX6_isWon cX6_isWon 2 (some .boolean) 1 := ⟨List.forall_mem_cons.mpr ⟨wd_834, List.forall_mem_cons.mpr ⟨wd_808, List.forall_mem_cons.mpr ⟨wd_809, List.forall_mem_cons.mpr ⟨wd_53, fun _ h => absurd h List.not_mem_nil⟩⟩⟩⟩, wd_810, by decide, by decide, by decide +kernel⟩
theorem ly_X7_1 : xy_I RX7 1 yX4_init cX4_init 5 4 := ⟨List.forall_mem_cons.mpr ⟨wd_533, List.forall_mem_cons.mpr ⟨wd_483, List.forall_mem_cons.mpr ⟨wd_66, fun _ h => absurd h List.not_mem_nil⟩⟩⟩, wd_484, rfl, by decide, by decide, by decide +kernel⟩
theorem lf_X7_7 {ci : Nat} (h : xp_K 7 ci) : xf_F RX7 7 ci 2 0 := by
  rcases h with rfl | rfl
  · exact ⟨RX7, TX7, 4, "LastPenny$Systematic", rfl, by decide, rfl, wd_497, Or.inr wd_498⟩
  · exact ⟨RX10, TX10, 4, "LastPenny$Systematic", rfl, by decide, rfl, wd_497, Or.inr wd_498⟩
theorem ly_X7_13 : ∀ w ∈ ([.methodLink RX7 13 Lib.Math.max.name, .static Lib.Math.max.name, .initialized "java/lang/Math", .code Lib.Math.max.name Lib.Math.max.code 2 (some .int)] : List Cond), w ∈ xw_tbl := List.forall_mem_cons.mpr ⟨wd_615, List.forall_mem_cons.mpr ⟨wd_353, List.forall_mem_cons.mpr ⟨wd_57, List.forall_mem_cons.mpr ⟨wd_354, fun _ h => absurd h List.not_mem_nil⟩⟩⟩⟩
theorem ly_X7_23 : xy_SU RX7 23 yX4_countsAct cX4_countsAct 3 (some .int) 2 := ⟨List.forall_mem_cons.mpr ⟨wd_912, List.forall_mem_cons.mpr ⟨wd_892, List.forall_mem_cons.mpr ⟨wd_538, List.forall_mem_cons.mpr ⟨wd_890, List.forall_mem_cons.mpr ⟨wd_66, fun _ h => absurd h List.not_mem_nil⟩⟩⟩⟩⟩, wd_915, by decide, by decide +kernel⟩
theorem ly_X8_1 : ∀ w ∈ ([.methodLink RX8 1 objectInit, .instanceMethod objectInit, .code objectInit ⟨#[0xb1]⟩ 1 none] : List Cond), w ∈ xw_tbl := List.forall_mem_cons.mpr ⟨wd_436, List.forall_mem_cons.mpr ⟨wd_80, List.forall_mem_cons.mpr ⟨wd_81, fun _ h => absurd h List.not_mem_nil⟩⟩⟩
theorem lf_X8_7 : xf_F RX8 7 8 0 2 := ⟨RX8, TX8, 4, "LastPenny$Table", rfl, by decide, rfl, wd_437, Or.inl rfl⟩
theorem lp_X8_7 : xf_P RX8 7 8 0 2 true := xf_P.of lf_X8_7 rfl ⟨rfl, fun _ => rfl⟩
theorem lf_X8_13 : xf_F RX8 13 8 1 2 := ⟨RX8, TX8, 4, "LastPenny$Table", rfl, by decide, rfl, wd_438, Or.inl rfl⟩
theorem lp_X8_13 : xf_P RX8 13 8 1 2 true := xf_P.of lf_X8_13 rfl ⟨rfl, fun _ => rfl⟩
theorem lf_X8_16 : xf_F RX8 16 8 2 2 := ⟨RX8, TX8, 4, "LastPenny$Table", rfl, by decide, rfl, wd_439, Or.inl rfl⟩
theorem lp_X8_16 : xf_P RX8 16 8 2 2 true := xf_P.of lf_X8_16 rfl ⟨rfl, fun _ => rfl⟩
theorem lf_X8_19 : xf_F RX8 19 8 3 0 := ⟨RX8, TX8, 4, "LastPenny$Table", rfl, by decide, rfl, wd_440, Or.inl rfl⟩
theorem lp_X8_19 : xf_P RX8 19 8 3 0 true := xf_P.of lf_X8_19 rfl ⟨rfl, fun _ => rfl⟩
theorem ly_X8_23 : xy_V RX8 23 yX8_holds cX8_holds 9 (some .boolean) 3 := ⟨List.forall_mem_cons.mpr ⟨wd_643, List.forall_mem_cons.mpr ⟨wd_645, List.forall_mem_cons.mpr ⟨wd_11, List.forall_mem_cons.mpr ⟨wd_63, fun _ h => absurd h List.not_mem_nil⟩⟩⟩⟩, wd_646, by decide, by decide, by decide +kernel⟩
theorem ly_X8_27 : ∀ w ∈ ([.methodLink RX8 27 Lib.Math.max.name, .static Lib.Math.max.name, .initialized "java/lang/Math", .code Lib.Math.max.name Lib.Math.max.code 2 (some .int)] : List Cond), w ∈ xw_tbl := List.forall_mem_cons.mpr ⟨wd_647, List.forall_mem_cons.mpr ⟨wd_353, List.forall_mem_cons.mpr ⟨wd_57, List.forall_mem_cons.mpr ⟨wd_354, fun _ h => absurd h List.not_mem_nil⟩⟩⟩⟩
theorem ly_X8_35 : xy_S RX8 35 yX8_passes cX8_passes 5 (some .boolean) 2 := ⟨List.forall_mem_cons.mpr ⟨wd_649, List.forall_mem_cons.mpr ⟨wd_650, List.forall_mem_cons.mpr ⟨wd_63, fun _ h => absurd h List.not_mem_nil⟩⟩⟩, wd_651, by decide, by decide, by decide +kernel⟩
theorem ly_X9_1 : xy_I RX9 1 yX4_init cX4_init 5 4 := ⟨List.forall_mem_cons.mpr ⟨wd_522, List.forall_mem_cons.mpr ⟨wd_483, List.forall_mem_cons.mpr ⟨wd_66, fun _ h => absurd h List.not_mem_nil⟩⟩⟩, wd_484, rfl, by decide, by decide, by decide +kernel⟩
theorem lf_X9_7 {ci : Nat} (h : xp_K 9 ci) : xf_F RX9 7 ci 2 0 := by
  rcases h with rfl | rfl
  · exact ⟨RX9, TX9, 4, "LastPenny$Timid", rfl, by decide, rfl, wd_495, Or.inr wd_496⟩
  · exact ⟨RX1, TX1, 4, "LastPenny$Timid", rfl, by decide, rfl, wd_495, Or.inr wd_496⟩
theorem ly_X9_17 : xy_SU RX9 17 yX4_throwsAct cX4_throwsAct 3 (some .int) 2 := ⟨List.forall_mem_cons.mpr ⟨wd_875, List.forall_mem_cons.mpr ⟨wd_868, List.forall_mem_cons.mpr ⟨wd_527, List.forall_mem_cons.mpr ⟨wd_866, List.forall_mem_cons.mpr ⟨wd_66, fun _ h => absurd h List.not_mem_nil⟩⟩⟩⟩⟩, wd_887, by decide, by decide +kernel⟩
theorem ly_X10_1 : xy_I RX10 1 yX7_init cX7_init 5 4 := ⟨List.forall_mem_cons.mpr ⟨wd_566, List.forall_mem_cons.mpr ⟨wd_531, List.forall_mem_cons.mpr ⟨wd_69, fun _ h => absurd h List.not_mem_nil⟩⟩⟩, wd_532, rfl, by decide, by decide, by decide +kernel⟩
theorem ly_X10_7 : xy_SU RX10 7 yX7_wish cX7_wish 4 (some .int) 2 := ⟨List.forall_mem_cons.mpr ⟨wd_620, List.forall_mem_cons.mpr ⟨wd_1314, List.forall_mem_cons.mpr ⟨wd_571, List.forall_mem_cons.mpr ⟨wd_613, List.forall_mem_cons.mpr ⟨wd_69, fun _ h => absurd h List.not_mem_nil⟩⟩⟩⟩⟩, wd_614, by decide, by decide +kernel⟩
theorem lf_X10_21 {ci : Nat} (h : xp_K 10 ci) : xf_F RX10 21 ci 2 0 := by
  rcases h with rfl
  · exact ⟨RX10, TX10, 4, "LastPenny$Told", rfl, by decide, rfl, wd_499, Or.inr wd_500⟩
theorem ly_X11_3 : ∀ w ∈ ([.methodLink RX11 3 objectInit, .instanceMethod objectInit, .code objectInit ⟨#[0xb1]⟩ 1 none] : List Cond), w ∈ xw_tbl := List.forall_mem_cons.mpr ⟨wd_79, List.forall_mem_cons.mpr ⟨wd_80, List.forall_mem_cons.mpr ⟨wd_81, fun _ h => absurd h List.not_mem_nil⟩⟩⟩
theorem ln_X11_9 : ∀ w ∈ ([.classLink RX11 9 RX6, .instantiable RX6 12, .initialized RX6] : List Cond), w ∈ xw_tbl := List.forall_mem_cons.mpr ⟨wd_82, List.forall_mem_cons.mpr ⟨wd_83, List.forall_mem_cons.mpr ⟨wd_53, fun _ h => absurd h List.not_mem_nil⟩⟩⟩
theorem ly_X11_11 : xy_IN RX11 11 yX6_init RX11 cX6_init 1 0 := ⟨List.forall_mem_cons.mpr ⟨wd_85, List.forall_mem_cons.mpr ⟨wd_53, fun _ h => absurd h List.not_mem_nil⟩⟩, by decide +kernel, wd_86, rfl, by decide, by decide, by decide +kernel⟩
theorem lf_X11_12 : xf_F RX11 12 11 0 2 := ⟨RX11, TX11, 6, "LastPenny", rfl, by decide, rfl, wd_227, Or.inl rfl⟩
theorem lp_X11_12 : xf_P RX11 12 11 0 2 true := xf_P.of lf_X11_12 rfl ⟨rfl, fun _ => rfl⟩
theorem lf_X11_18 : xf_F RX11 18 11 1 2 := ⟨RX11, TX11, 6, "LastPenny", rfl, by decide, rfl, wd_228, Or.inl rfl⟩
theorem lp_X11_18 : xf_P RX11 18 11 1 2 true := xf_P.of lf_X11_18 rfl ⟨rfl, fun _ => rfl⟩
theorem ln_X11_21 : ∀ w ∈ ([.classLink RX11 21 RX2, .instantiable RX2 12, .initialized RX2] : List Cond), w ∈ xw_tbl := List.forall_mem_cons.mpr ⟨wd_143, List.forall_mem_cons.mpr ⟨wd_144, List.forall_mem_cons.mpr ⟨wd_54, fun _ h => absurd h List.not_mem_nil⟩⟩⟩
theorem ly_X11_23 : xy_IN RX11 23 yX2_init RX11 cX2_init 1 0 := ⟨List.forall_mem_cons.mpr ⟨wd_146, List.forall_mem_cons.mpr ⟨wd_54, fun _ h => absurd h List.not_mem_nil⟩⟩, by decide +kernel, wd_147, rfl, by decide, by decide, by decide +kernel⟩
theorem lf_X11_24 : xf_F RX11 24 11 3 2 := ⟨RX11, TX11, 6, "LastPenny", rfl, by decide, rfl, wd_230, Or.inl rfl⟩
theorem lp_X11_24 : xf_P RX11 24 11 3 2 true := xf_P.of lf_X11_24 rfl ⟨rfl, fun _ => rfl⟩
theorem ln_X11_28 : ∀ w ∈ ([.classLink RX11 28 RX5, .instantiable RX5 9, .initialized RX5] : List Cond), w ∈ xw_tbl := List.forall_mem_cons.mpr ⟨wd_192, List.forall_mem_cons.mpr ⟨wd_193, List.forall_mem_cons.mpr ⟨wd_55, fun _ h => absurd h List.not_mem_nil⟩⟩⟩
theorem ly_X11_30 : xy_IN RX11 30 yX5_init RX11 cX5_init 1 0 := ⟨List.forall_mem_cons.mpr ⟨wd_195, List.forall_mem_cons.mpr ⟨wd_55, fun _ h => absurd h List.not_mem_nil⟩⟩, by decide +kernel, wd_196, rfl, by decide, by decide, by decide +kernel⟩
theorem lf_X11_31 : xf_F RX11 31 11 4 2 := ⟨RX11, TX11, 6, "LastPenny", rfl, by decide, rfl, wd_231, Or.inl rfl⟩
theorem lp_X11_31 : xf_P RX11 31 11 4 2 true := xf_P.of lf_X11_31 rfl ⟨rfl, fun _ => rfl⟩
theorem lf_X11_35 : xf_F RX11 35 11 5 2 := ⟨RX11, TX11, 6, "LastPenny", rfl, by decide, rfl, wd_232, Or.inl rfl⟩
theorem lp_X11_35 : xf_P RX11 35 11 5 2 true := xf_P.of lf_X11_35 rfl ⟨rfl, fun _ => rfl⟩
theorem lf_X11_39 : xf_F RX11 39 6 1 0 := ⟨RX6, TX6, 12, "LastPenny$State", rfl, by decide, rfl, wd_94, Or.inl rfl⟩
theorem lf_X11_43 : xf_F RX11 43 6 0 2 := ⟨RX6, TX6, 12, "LastPenny$State", rfl, by decide, rfl, wd_93, Or.inl rfl⟩
theorem lp_X11_39 : xf_P RX11 39 6 1 0 false := xf_P.of lf_X11_39 rfl ⟨rfl, fun h => by cases h⟩
theorem lf_X11_47 : xf_F RX11 47 6 3 0 := ⟨RX6, TX6, 12, "LastPenny$State", rfl, by decide, rfl, wd_99, Or.inl rfl⟩
theorem ly_X11_50 : xy_V RX11 50 yX5_read cX5_read 4 (some .boolean) 2 := ⟨List.forall_mem_cons.mpr ⟨wd_254, List.forall_mem_cons.mpr ⟨wd_255, List.forall_mem_cons.mpr ⟨wd_256, List.forall_mem_cons.mpr ⟨wd_55, fun _ h => absurd h List.not_mem_nil⟩⟩⟩⟩, wd_257, by decide, by decide, by decide +kernel⟩
theorem lf_X11_54 : xf_F RX11 54 5 2 0 := ⟨RX5, TX5, 9, "LastPenny$Reader", rfl, by decide, rfl, wd_201, Or.inl rfl⟩
theorem lf_X11_57 : xf_F RX11 57 6 2 2 := ⟨RX6, TX6, 12, "LastPenny$State", rfl, by decide, rfl, wd_97, Or.inl rfl⟩
theorem ly_X11_61 : xy_V RX11 61 yX5_made cX5_made 1 (some (.object "LastPenny$Table")) 0 := ⟨List.forall_mem_cons.mpr ⟨wd_413, List.forall_mem_cons.mpr ⟨wd_414, List.forall_mem_cons.mpr ⟨wd_415, List.forall_mem_cons.mpr ⟨wd_55, fun _ h => absurd h List.not_mem_nil⟩⟩⟩⟩, wd_416, by decide, by decide, by decide +kernel⟩
theorem lp_X11_47 : xf_P RX11 47 6 3 0 false := xf_P.of lf_X11_47 rfl ⟨rfl, fun h => by cases h⟩
theorem ly_X11_65 : xy_S RX11 65 yX11_isDigit cX11_isDigit 1 (some .boolean) 1 := ⟨List.forall_mem_cons.mpr ⟨wd_455, List.forall_mem_cons.mpr ⟨wd_456, List.forall_mem_cons.mpr ⟨wd_52, fun _ h => absurd h List.not_mem_nil⟩⟩⟩, wd_457, by decide, by decide, by decide +kernel⟩
theorem lf_X11_69 : xf_F RX11 69 6 8 0 := ⟨RX6, TX6, 12, "LastPenny$State", rfl, by decide, rfl, wd_110, Or.inl rfl⟩
theorem lp_X11_69 : xf_P RX11 69 6 8 0 false := xf_P.of lf_X11_69 rfl ⟨rfl, fun h => by cases h⟩
theorem ly_X11_72 : xy_V RX11 72 yX6_limit cX6_limit 2 (some .int) 0 := ⟨List.forall_mem_cons.mpr ⟨wd_462, List.forall_mem_cons.mpr ⟨wd_463, List.forall_mem_cons.mpr ⟨wd_464, List.forall_mem_cons.mpr ⟨wd_53, fun _ h => absurd h List.not_mem_nil⟩⟩⟩⟩, wd_465, by decide, by decide, by decide +kernel⟩
theorem lf_X11_76 : xf_F RX11 76 6 7 0 := ⟨RX6, TX6, 12, "LastPenny$State", rfl, by decide, rfl, wd_108, Or.inl rfl⟩
theorem lf_X11_79 : xf_F RX11 79 6 4 2 := ⟨RX6, TX6, 12, "LastPenny$State", rfl, by decide, rfl, wd_101, Or.inl rfl⟩
theorem ly_X11_83 : xy_S RX11 83 yX11_newPlayer cX11_newPlayer 4 (some (.object "LastPenny$Penny")) 4 := ⟨List.forall_mem_cons.mpr ⟨wd_474, List.forall_mem_cons.mpr ⟨wd_475, List.forall_mem_cons.mpr ⟨wd_52, fun _ h => absurd h List.not_mem_nil⟩⟩⟩, wd_476, by decide, by decide, by decide +kernel⟩
theorem lf_X11_87 : xf_F RX11 87 6 5 2 := ⟨RX6, TX6, 12, "LastPenny$State", rfl, by decide, rfl, wd_104, Or.inl rfl⟩
theorem lf_X11_90 : xf_F RX11 90 6 6 2 := ⟨RX6, TX6, 12, "LastPenny$State", rfl, by decide, rfl, wd_106, Or.inl rfl⟩
theorem lp_X11_76 : xf_P RX11 76 6 7 0 false := xf_P.of lf_X11_76 rfl ⟨rfl, fun h => by cases h⟩
theorem ly_X11_93 : xy_V RX11 93 yX6_playerAt cX6_playerAt 2 (some (.object "LastPenny$Penny")) 1 := ⟨List.forall_mem_cons.mpr ⟨wd_584, List.forall_mem_cons.mpr ⟨wd_585, List.forall_mem_cons.mpr ⟨wd_586, List.forall_mem_cons.mpr ⟨wd_53, fun _ h => absurd h List.not_mem_nil⟩⟩⟩⟩, wd_587, by decide, by decide, by decide +kernel⟩
theorem lf_X11_97 {ci : Nat} (h : xp_K 4 ci) : xf_F RX11 97 ci 0 0 := by
  rcases h with rfl | rfl | rfl | rfl | rfl | rfl | rfl
  · exact ⟨RX4, TX4, 4, "LastPenny$Penny", rfl, by decide, rfl, wd_488, Or.inl rfl⟩
  · exact ⟨RX0, TX0, 4, "LastPenny$Penny", rfl, by decide, rfl, wd_488, Or.inl rfl⟩
  · exact ⟨RX9, TX9, 4, "LastPenny$Penny", rfl, by decide, rfl, wd_488, Or.inl rfl⟩
  · exact ⟨RX7, TX7, 4, "LastPenny$Penny", rfl, by decide, rfl, wd_488, Or.inl rfl⟩
  · exact ⟨RX3, TX3, 4, "LastPenny$Penny", rfl, by decide, rfl, wd_488, Or.inl rfl⟩
  · exact ⟨RX1, TX1, 4, "LastPenny$Penny", rfl, by decide, rfl, wd_488, Or.inl rfl⟩
  · exact ⟨RX10, TX10, 4, "LastPenny$Penny", rfl, by decide, rfl, wd_488, Or.inl rfl⟩
theorem lf_X11_102 {ci : Nat} (h : xp_K 4 ci) : xf_F RX11 102 ci 2 0 := by
  rcases h with rfl | rfl | rfl | rfl | rfl | rfl | rfl
  · exact ⟨RX4, TX4, 4, "LastPenny$Penny", rfl, by decide, rfl, wd_501, Or.inl rfl⟩
  · exact ⟨RX0, TX0, 4, "LastPenny$Penny", rfl, by decide, rfl, wd_501, Or.inl rfl⟩
  · exact ⟨RX9, TX9, 4, "LastPenny$Penny", rfl, by decide, rfl, wd_501, Or.inl rfl⟩
  · exact ⟨RX7, TX7, 4, "LastPenny$Penny", rfl, by decide, rfl, wd_501, Or.inl rfl⟩
  · exact ⟨RX3, TX3, 4, "LastPenny$Penny", rfl, by decide, rfl, wd_501, Or.inl rfl⟩
  · exact ⟨RX1, TX1, 4, "LastPenny$Penny", rfl, by decide, rfl, wd_501, Or.inl rfl⟩
  · exact ⟨RX10, TX10, 4, "LastPenny$Penny", rfl, by decide, rfl, wd_501, Or.inl rfl⟩
theorem lf_X11_105 {ci : Nat} (h : xp_K 4 ci) : xf_F RX11 105 ci 3 0 := by
  rcases h with rfl | rfl | rfl | rfl | rfl | rfl | rfl
  · exact ⟨RX4, TX4, 4, "LastPenny$Penny", rfl, by decide, rfl, wd_507, Or.inl rfl⟩
  · exact ⟨RX0, TX0, 4, "LastPenny$Penny", rfl, by decide, rfl, wd_507, Or.inl rfl⟩
  · exact ⟨RX9, TX9, 4, "LastPenny$Penny", rfl, by decide, rfl, wd_507, Or.inl rfl⟩
  · exact ⟨RX7, TX7, 4, "LastPenny$Penny", rfl, by decide, rfl, wd_507, Or.inl rfl⟩
  · exact ⟨RX3, TX3, 4, "LastPenny$Penny", rfl, by decide, rfl, wd_507, Or.inl rfl⟩
  · exact ⟨RX1, TX1, 4, "LastPenny$Penny", rfl, by decide, rfl, wd_507, Or.inl rfl⟩
  · exact ⟨RX10, TX10, 4, "LastPenny$Penny", rfl, by decide, rfl, wd_507, Or.inl rfl⟩
theorem ly_X11_108 : xy_V RX11 108 yX6_stake cX6_stake 5 (some .int) 2 := ⟨List.forall_mem_cons.mpr ⟨wd_588, List.forall_mem_cons.mpr ⟨wd_589, List.forall_mem_cons.mpr ⟨wd_590, List.forall_mem_cons.mpr ⟨wd_53, fun _ h => absurd h List.not_mem_nil⟩⟩⟩⟩, wd_591, by decide, by decide, by decide +kernel⟩
theorem ly_X11_115 : xy_V RX11 115 yX6_odds cX6_odds 5 (some .int) 3 := ⟨List.forall_mem_cons.mpr ⟨wd_635, List.forall_mem_cons.mpr ⟨wd_636, List.forall_mem_cons.mpr ⟨wd_637, List.forall_mem_cons.mpr ⟨wd_53, fun _ h => absurd h List.not_mem_nil⟩⟩⟩⟩, wd_638, by decide, by decide, by decide +kernel⟩
theorem ly_X11_121 : xy_V RX11 121 yX6_thrown cX6_thrown 5 (some .int) 3 := ⟨List.forall_mem_cons.mpr ⟨wd_665, List.forall_mem_cons.mpr ⟨wd_666, List.forall_mem_cons.mpr ⟨wd_667, List.forall_mem_cons.mpr ⟨wd_53, fun _ h => absurd h List.not_mem_nil⟩⟩⟩⟩, wd_668, by decide, by decide, by decide +kernel⟩
theorem ly_X11_125 : xy_S RX11 125 yX11_isSpan cX11_isSpan 1 (some .boolean) 1 := ⟨List.forall_mem_cons.mpr ⟨wd_674, List.forall_mem_cons.mpr ⟨wd_675, List.forall_mem_cons.mpr ⟨wd_52, fun _ h => absurd h List.not_mem_nil⟩⟩⟩, wd_676, by decide, by decide, by decide +kernel⟩
theorem ly_X11_128 : xy_S RX11 128 yX11_isPart cX11_isPart 1 (some .boolean) 1 := ⟨List.forall_mem_cons.mpr ⟨wd_677, List.forall_mem_cons.mpr ⟨wd_678, List.forall_mem_cons.mpr ⟨wd_52, fun _ h => absurd h List.not_mem_nil⟩⟩⟩, wd_679, by decide, by decide, by decide +kernel⟩
theorem ly_X11_133 : xy_V RX11 133 yX2_spread cX2_spread 5 none 3 := ⟨List.forall_mem_cons.mpr ⟨wd_681, List.forall_mem_cons.mpr ⟨wd_682, List.forall_mem_cons.mpr ⟨wd_683, List.forall_mem_cons.mpr ⟨wd_54, fun _ h => absurd h List.not_mem_nil⟩⟩⟩⟩, wd_684, by decide, by decide, by decide +kernel⟩
theorem lf_X11_137 : xf_F RX11 137 2 0 2 := ⟨RX2, TX2, 12, "LastPenny$Chances", rfl, by decide, rfl, wd_150, Or.inl rfl⟩
theorem lf_X11_141 : xf_F RX11 141 2 2 1 := ⟨RX2, TX2, 12, "LastPenny$Chances", rfl, by decide, rfl, wd_153, Or.inl rfl⟩
theorem ly_X11_145 : xy_S RX11 145 yX11_lowest cX11_lowest 12 (some .long) 3 := ⟨List.forall_mem_cons.mpr ⟨wd_696, List.forall_mem_cons.mpr ⟨wd_697, List.forall_mem_cons.mpr ⟨wd_52, fun _ h => absurd h List.not_mem_nil⟩⟩⟩, wd_698, by decide, by decide, by decide +kernel⟩
theorem lf_X11_149 : xf_F RX11 149 2 3 1 := ⟨RX2, TX2, 12, "LastPenny$Chances", rfl, by decide, rfl, wd_155, Or.inl rfl⟩
theorem ly_X11_151 : xy_V RX11 151 yX2_pennies cX2_pennies 5 (some .long) 1 := ⟨List.forall_mem_cons.mpr ⟨wd_710, List.forall_mem_cons.mpr ⟨wd_711, List.forall_mem_cons.mpr ⟨wd_712, List.forall_mem_cons.mpr ⟨wd_54, fun _ h => absurd h List.not_mem_nil⟩⟩⟩⟩, wd_713, by decide, by decide, by decide +kernel⟩
theorem ly_X11_155 : xy_V RX11 155 yX2_lookAtPennyOdds cX2_lookAtPennyOdds 4 none 2 := ⟨List.forall_mem_cons.mpr ⟨wd_718, List.forall_mem_cons.mpr ⟨wd_719, List.forall_mem_cons.mpr ⟨wd_720, List.forall_mem_cons.mpr ⟨wd_54, fun _ h => absurd h List.not_mem_nil⟩⟩⟩⟩, wd_721, by decide, by decide, by decide +kernel⟩
theorem ly_X11_159 : xy_V RX11 159 yX2_climbed cX2_climbed 9 (some .long) 2 := ⟨List.forall_mem_cons.mpr ⟨wd_722, List.forall_mem_cons.mpr ⟨wd_723, List.forall_mem_cons.mpr ⟨wd_724, List.forall_mem_cons.mpr ⟨wd_54, fun _ h => absurd h List.not_mem_nil⟩⟩⟩⟩, wd_725, by decide, by decide, by decide +kernel⟩
theorem ly_X11_163 : xy_V RX11 163 yX2_lookAtOdds cX2_lookAtOdds 6 none 2 := ⟨List.forall_mem_cons.mpr ⟨wd_730, List.forall_mem_cons.mpr ⟨wd_731, List.forall_mem_cons.mpr ⟨wd_732, List.forall_mem_cons.mpr ⟨wd_54, fun _ h => absurd h List.not_mem_nil⟩⟩⟩⟩, wd_733, by decide, by decide, by decide +kernel⟩
theorem ly_X11_166 : xy_V RX11 166 yX2_search cX2_search 6 none 3 := ⟨List.forall_mem_cons.mpr ⟨wd_735, List.forall_mem_cons.mpr ⟨wd_736, List.forall_mem_cons.mpr ⟨wd_737, List.forall_mem_cons.mpr ⟨wd_54, fun _ h => absurd h List.not_mem_nil⟩⟩⟩⟩, wd_738, by decide, by decide, by decide +kernel⟩
theorem lf_X11_170 : xf_F RX11 170 2 4 2 := ⟨RX2, TX2, 12, "LastPenny$Chances", rfl, by decide, rfl, wd_157, Or.inl rfl⟩
theorem ly_X11_173 : xy_S RX11 173 yX11_isTrioPurse cX11_isTrioPurse 1 (some .boolean) 1 := ⟨List.forall_mem_cons.mpr ⟨wd_763, List.forall_mem_cons.mpr ⟨wd_764, List.forall_mem_cons.mpr ⟨wd_52, fun _ h => absurd h List.not_mem_nil⟩⟩⟩, wd_765, by decide, by decide, by decide +kernel⟩
theorem ly_X11_176 : xy_V RX11 176 yX2_playTrio cX2_playTrio 6 none 4 := ⟨List.forall_mem_cons.mpr ⟨wd_766, List.forall_mem_cons.mpr ⟨wd_767, List.forall_mem_cons.mpr ⟨wd_768, List.forall_mem_cons.mpr ⟨wd_54, fun _ h => absurd h List.not_mem_nil⟩⟩⟩⟩, wd_769, by decide, by decide, by decide +kernel⟩
theorem lf_X11_180 : xf_F RX11 180 2 11 2 := ⟨RX2, TX2, 12, "LastPenny$Chances", rfl, by decide, rfl, wd_165, Or.inl rfl⟩
theorem ly_X11_183 : xy_V RX11 183 yX2_streaks cX2_streaks 8 (some .long) 3 := ⟨List.forall_mem_cons.mpr ⟨wd_787, List.forall_mem_cons.mpr ⟨wd_788, List.forall_mem_cons.mpr ⟨wd_789, List.forall_mem_cons.mpr ⟨wd_54, fun _ h => absurd h List.not_mem_nil⟩⟩⟩⟩, wd_790, by decide, by decide, by decide +kernel⟩
theorem lf_X11_187 : xf_F RX11 187 6 9 0 := ⟨RX6, TX6, 12, "LastPenny$State", rfl, by decide, rfl, wd_112, Or.inl rfl⟩
theorem ly_X11_190 : xy_V RX11 190 yX6_addToss cX6_addToss 2 none 1 := ⟨List.forall_mem_cons.mpr ⟨wd_795, List.forall_mem_cons.mpr ⟨wd_796, List.forall_mem_cons.mpr ⟨wd_797, List.forall_mem_cons.mpr ⟨wd_53, fun _ h => absurd h List.not_mem_nil⟩⟩⟩⟩, wd_798, by decide, by decide, by decide +kernel⟩
theorem lp_X11_187 : xf_P RX11 187 6 9 0 false := xf_P.of lf_X11_187 rfl ⟨rfl, fun h => by cases h⟩
theorem lf_X11_194 : xf_F RX11 194 6 10 0 := ⟨RX6, TX6, 12, "LastPenny$State", rfl, by decide, rfl, wd_114, Or.inl rfl⟩
theorem lp_X11_194 : xf_P RX11 194 6 10 0 false := xf_P.of lf_X11_194 rfl ⟨rfl, fun h => by cases h⟩
theorem ly_X11_197 : xy_V RX11 197 yX6_isWon cX6_isWon 2 (some .boolean) 1 := ⟨List.forall_mem_cons.mpr ⟨wd_807, List.forall_mem_cons.mpr ⟨wd_808, List.forall_mem_cons.mpr ⟨wd_809, List.forall_mem_cons.mpr ⟨wd_53, fun _ h => absurd h List.not_mem_nil⟩⟩⟩⟩, wd_810, by decide, by decide, by decide +kernel⟩
theorem ly_X11_200 : ∀ w ∈ ([.methodLink RX11 200 Lib.Math.max.name, .static Lib.Math.max.name, .initialized "java/lang/Math", .code Lib.Math.max.name Lib.Math.max.code 2 (some .int)] : List Cond), w ∈ xw_tbl := List.forall_mem_cons.mpr ⟨wd_811, List.forall_mem_cons.mpr ⟨wd_353, List.forall_mem_cons.mpr ⟨wd_57, List.forall_mem_cons.mpr ⟨wd_354, fun _ h => absurd h List.not_mem_nil⟩⟩⟩⟩
theorem ly_X11_206 : ∀ w ∈ ([.methodLink RX11 206 Lib.Math.min.name, .static Lib.Math.min.name, .initialized "java/lang/Math", .code Lib.Math.min.name Lib.Math.min.code 2 (some .int)] : List Cond), w ∈ xw_tbl := List.forall_mem_cons.mpr ⟨wd_812, List.forall_mem_cons.mpr ⟨wd_259, List.forall_mem_cons.mpr ⟨wd_57, List.forall_mem_cons.mpr ⟨wd_260, fun _ h => absurd h List.not_mem_nil⟩⟩⟩⟩
theorem ly_X11_209 : xy_V RX11 209 yX6_seemingOdds cX6_seemingOdds 4 (some .int) 0 := ⟨List.forall_mem_cons.mpr ⟨wd_817, List.forall_mem_cons.mpr ⟨wd_818, List.forall_mem_cons.mpr ⟨wd_819, List.forall_mem_cons.mpr ⟨wd_53, fun _ h => absurd h List.not_mem_nil⟩⟩⟩⟩, wd_820, by decide, by decide, by decide +kernel⟩
theorem ly_X11_212 : xy_V RX11 212 yX6_longestRun cX6_longestRun 4 (some .int) 0 := ⟨List.forall_mem_cons.mpr ⟨wd_830, List.forall_mem_cons.mpr ⟨wd_831, List.forall_mem_cons.mpr ⟨wd_832, List.forall_mem_cons.mpr ⟨wd_53, fun _ h => absurd h List.not_mem_nil⟩⟩⟩⟩, wd_833, by decide, by decide, by decide +kernel⟩
theorem ly_X11_225 : xy_S RX11 225 yX11_isOfKind cX11_isOfKind 2 (some .boolean) 2 := ⟨List.forall_mem_cons.mpr ⟨wd_925, List.forall_mem_cons.mpr ⟨wd_926, List.forall_mem_cons.mpr ⟨wd_52, fun _ h => absurd h List.not_mem_nil⟩⟩⟩, wd_927, by decide, by decide, by decide +kernel⟩
theorem ly_X11_229 : xy_V RX11 229 yX6_become cX6_become 3 none 1 := ⟨List.forall_mem_cons.mpr ⟨wd_932, List.forall_mem_cons.mpr ⟨wd_933, List.forall_mem_cons.mpr ⟨wd_934, List.forall_mem_cons.mpr ⟨wd_53, fun _ h => absurd h List.not_mem_nil⟩⟩⟩⟩, wd_935, by decide, by decide, by decide +kernel⟩
theorem lf_X11_233 : xf_F RX11 233 11 2 0 := ⟨RX11, TX11, 6, "LastPenny", rfl, by decide, rfl, wd_229, Or.inl rfl⟩
theorem lp_X11_233 : xf_P RX11 233 11 2 0 false := xf_P.of lf_X11_233 rfl ⟨rfl, fun h => by cases h⟩
theorem ln_X11_237 : ∀ w ∈ ([.classLink RX11 237 RX0, .instantiable RX0 4, .initialized RX0] : List Cond), w ∈ xw_tbl := List.forall_mem_cons.mpr ⟨wd_477, List.forall_mem_cons.mpr ⟨wd_478, List.forall_mem_cons.mpr ⟨wd_67, fun _ h => absurd h List.not_mem_nil⟩⟩⟩
theorem ly_X11_247 : xy_I RX11 247 yX0_init cX0_init 5 4 := ⟨List.forall_mem_cons.mpr ⟨wd_479, List.forall_mem_cons.mpr ⟨wd_480, List.forall_mem_cons.mpr ⟨wd_67, fun _ h => absurd h List.not_mem_nil⟩⟩⟩, wd_481, rfl, by decide, by decide, by decide +kernel⟩
theorem ln_X11_239 : ∀ w ∈ ([.classLink RX11 239 RX9, .instantiable RX9 4, .initialized RX9] : List Cond), w ∈ xw_tbl := List.forall_mem_cons.mpr ⟨wd_517, List.forall_mem_cons.mpr ⟨wd_518, List.forall_mem_cons.mpr ⟨wd_68, fun _ h => absurd h List.not_mem_nil⟩⟩⟩
theorem ly_X11_249 : xy_I RX11 249 yX9_init cX9_init 5 4 := ⟨List.forall_mem_cons.mpr ⟨wd_519, List.forall_mem_cons.mpr ⟨wd_520, List.forall_mem_cons.mpr ⟨wd_68, fun _ h => absurd h List.not_mem_nil⟩⟩⟩, wd_521, rfl, by decide, by decide, by decide +kernel⟩
theorem ln_X11_241 : ∀ w ∈ ([.classLink RX11 241 RX7, .instantiable RX7 4, .initialized RX7] : List Cond), w ∈ xw_tbl := List.forall_mem_cons.mpr ⟨wd_528, List.forall_mem_cons.mpr ⟨wd_529, List.forall_mem_cons.mpr ⟨wd_69, fun _ h => absurd h List.not_mem_nil⟩⟩⟩
theorem ly_X11_250 : xy_I RX11 250 yX7_init cX7_init 5 4 := ⟨List.forall_mem_cons.mpr ⟨wd_530, List.forall_mem_cons.mpr ⟨wd_531, List.forall_mem_cons.mpr ⟨wd_69, fun _ h => absurd h List.not_mem_nil⟩⟩⟩, wd_532, rfl, by decide, by decide, by decide +kernel⟩
theorem ln_X11_243 : ∀ w ∈ ([.classLink RX11 243 RX3, .instantiable RX3 4, .initialized RX3] : List Cond), w ∈ xw_tbl := List.forall_mem_cons.mpr ⟨wd_539, List.forall_mem_cons.mpr ⟨wd_540, List.forall_mem_cons.mpr ⟨wd_70, fun _ h => absurd h List.not_mem_nil⟩⟩⟩
theorem ly_X11_251 : xy_I RX11 251 yX3_init cX3_init 5 4 := ⟨List.forall_mem_cons.mpr ⟨wd_541, List.forall_mem_cons.mpr ⟨wd_542, List.forall_mem_cons.mpr ⟨wd_70, fun _ h => absurd h List.not_mem_nil⟩⟩⟩, wd_543, rfl, by decide, by decide, by decide +kernel⟩
theorem ln_X11_245 : ∀ w ∈ ([.classLink RX11 245 RX1, .instantiable RX1 4, .initialized RX1] : List Cond), w ∈ xw_tbl := List.forall_mem_cons.mpr ⟨wd_550, List.forall_mem_cons.mpr ⟨wd_551, List.forall_mem_cons.mpr ⟨wd_71, fun _ h => absurd h List.not_mem_nil⟩⟩⟩
theorem ly_X11_252 : xy_I RX11 252 yX1_init cX1_init 5 4 := ⟨List.forall_mem_cons.mpr ⟨wd_552, List.forall_mem_cons.mpr ⟨wd_553, List.forall_mem_cons.mpr ⟨wd_71, fun _ h => absurd h List.not_mem_nil⟩⟩⟩, wd_554, rfl, by decide, by decide, by decide +kernel⟩
theorem ln_X11_119 : ∀ w ∈ ([.classLink RX11 119 RX10, .instantiable RX10 4, .initialized RX10] : List Cond), w ∈ xw_tbl := List.forall_mem_cons.mpr ⟨wd_561, List.forall_mem_cons.mpr ⟨wd_562, List.forall_mem_cons.mpr ⟨wd_72, fun _ h => absurd h List.not_mem_nil⟩⟩⟩
theorem ly_X11_253 : xy_I RX11 253 yX10_init cX10_init 5 4 := ⟨List.forall_mem_cons.mpr ⟨wd_563, List.forall_mem_cons.mpr ⟨wd_564, List.forall_mem_cons.mpr ⟨wd_72, fun _ h => absurd h List.not_mem_nil⟩⟩⟩, wd_565, rfl, by decide, by decide, by decide +kernel⟩
theorem ln_X11_98 : ∀ w ∈ ([.classLink RX11 98 RX4, .instantiable RX4 4, .initialized RX4] : List Cond), w ∈ xw_tbl := List.forall_mem_cons.mpr ⟨wd_572, List.forall_mem_cons.mpr ⟨wd_573, List.forall_mem_cons.mpr ⟨wd_66, fun _ h => absurd h List.not_mem_nil⟩⟩⟩
theorem ly_X11_254 : xy_I RX11 254 yX4_init cX4_init 5 4 := ⟨List.forall_mem_cons.mpr ⟨wd_574, List.forall_mem_cons.mpr ⟨wd_483, List.forall_mem_cons.mpr ⟨wd_66, fun _ h => absurd h List.not_mem_nil⟩⟩⟩, wd_484, rfl, by decide, by decide, by decide +kernel⟩
theorem ly_X11_255 : xy_S RX11 255 yJ9_max_f86c9 cJ9_max_f86c9 4 (some .long) 2 := ⟨List.forall_mem_cons.mpr ⟨wd_699, List.forall_mem_cons.mpr ⟨wd_700, List.forall_mem_cons.mpr ⟨wd_57, fun _ h => absurd h List.not_mem_nil⟩⟩⟩, wd_701, by decide, by decide, by decide +kernel⟩
theorem ly_X12_3 : ∀ w ∈ ([.methodLink RX12 3 objectInit, .instanceMethod objectInit, .code objectInit ⟨#[0xb1]⟩ 1 none] : List Cond), w ∈ xw_tbl := List.forall_mem_cons.mpr ⟨wd_950, List.forall_mem_cons.mpr ⟨wd_80, List.forall_mem_cons.mpr ⟨wd_81, fun _ h => absurd h List.not_mem_nil⟩⟩⟩
theorem lf_X12_9 : xf_F RX12 9 12 1 2 := ⟨RX12, TX12, 26, "LastPennyModel", rfl, by decide, rfl, wd_951, Or.inl rfl⟩
theorem lp_X12_9 : xf_P RX12 9 12 1 2 true := xf_P.of lf_X12_9 rfl ⟨rfl, fun _ => rfl⟩
theorem lf_X12_15 : xf_F RX12 15 12 2 2 := ⟨RX12, TX12, 26, "LastPennyModel", rfl, by decide, rfl, wd_952, Or.inl rfl⟩
theorem lp_X12_15 : xf_P RX12 15 12 2 2 true := xf_P.of lf_X12_15 rfl ⟨rfl, fun _ => rfl⟩
theorem lf_X12_18 : xf_F RX12 18 12 9 2 := ⟨RX12, TX12, 26, "LastPennyModel", rfl, by decide, rfl, wd_959, Or.inl rfl⟩
theorem lp_X12_18 : xf_P RX12 18 12 9 2 true := xf_P.of lf_X12_18 rfl ⟨rfl, fun _ => rfl⟩
theorem lf_X12_21 : xf_F RX12 21 12 10 2 := ⟨RX12, TX12, 26, "LastPennyModel", rfl, by decide, rfl, wd_960, Or.inl rfl⟩
theorem lp_X12_21 : xf_P RX12 21 12 10 2 true := xf_P.of lf_X12_21 rfl ⟨rfl, fun _ => rfl⟩
theorem lf_X12_25 : xf_F RX12 25 12 11 2 := ⟨RX12, TX12, 26, "LastPennyModel", rfl, by decide, rfl, wd_961, Or.inl rfl⟩
theorem lp_X12_25 : xf_P RX12 25 12 11 2 true := xf_P.of lf_X12_25 rfl ⟨rfl, fun _ => rfl⟩
theorem lf_X12_29 : xf_F RX12 29 12 12 2 := ⟨RX12, TX12, 26, "LastPennyModel", rfl, by decide, rfl, wd_962, Or.inl rfl⟩
theorem lp_X12_29 : xf_P RX12 29 12 12 2 true := xf_P.of lf_X12_29 rfl ⟨rfl, fun _ => rfl⟩
theorem lf_X12_32 : xf_F RX12 32 12 14 2 := ⟨RX12, TX12, 26, "LastPennyModel", rfl, by decide, rfl, wd_964, Or.inl rfl⟩
theorem lp_X12_32 : xf_P RX12 32 12 14 2 true := xf_P.of lf_X12_32 rfl ⟨rfl, fun _ => rfl⟩
theorem lf_X12_35 : xf_F RX12 35 12 15 2 := ⟨RX12, TX12, 26, "LastPennyModel", rfl, by decide, rfl, wd_965, Or.inl rfl⟩
theorem lp_X12_35 : xf_P RX12 35 12 15 2 true := xf_P.of lf_X12_35 rfl ⟨rfl, fun _ => rfl⟩
theorem lf_X12_38 : xf_F RX12 38 12 17 2 := ⟨RX12, TX12, 26, "LastPennyModel", rfl, by decide, rfl, wd_967, Or.inl rfl⟩
theorem lp_X12_38 : xf_P RX12 38 12 17 2 true := xf_P.of lf_X12_38 rfl ⟨rfl, fun _ => rfl⟩
theorem lf_X12_41 : xf_F RX12 41 12 18 2 := ⟨RX12, TX12, 26, "LastPennyModel", rfl, by decide, rfl, wd_968, Or.inl rfl⟩
theorem lp_X12_41 : xf_P RX12 41 12 18 2 true := xf_P.of lf_X12_41 rfl ⟨rfl, fun _ => rfl⟩
theorem lf_X12_44 : xf_F RX12 44 12 19 2 := ⟨RX12, TX12, 26, "LastPennyModel", rfl, by decide, rfl, wd_969, Or.inl rfl⟩
theorem lp_X12_44 : xf_P RX12 44 12 19 2 true := xf_P.of lf_X12_44 rfl ⟨rfl, fun _ => rfl⟩
theorem lf_X12_47 : xf_F RX12 47 12 20 2 := ⟨RX12, TX12, 26, "LastPennyModel", rfl, by decide, rfl, wd_970, Or.inl rfl⟩
theorem lp_X12_47 : xf_P RX12 47 12 20 2 true := xf_P.of lf_X12_47 rfl ⟨rfl, fun _ => rfl⟩
theorem lf_X12_50 : xf_F RX12 50 12 21 2 := ⟨RX12, TX12, 26, "LastPennyModel", rfl, by decide, rfl, wd_971, Or.inl rfl⟩
theorem lp_X12_50 : xf_P RX12 50 12 21 2 true := xf_P.of lf_X12_50 rfl ⟨rfl, fun _ => rfl⟩
theorem ly_X12_57 : xy_S RX12 57 yX12_in cX12_in 3 (some .boolean) 3 := ⟨List.forall_mem_cons.mpr ⟨wd_1034, List.forall_mem_cons.mpr ⟨wd_1035, List.forall_mem_cons.mpr ⟨wd_56, fun _ h => absurd h List.not_mem_nil⟩⟩⟩, wd_1036, by decide, by decide, by decide +kernel⟩
theorem lf_X12_61 : xf_F RX12 61 12 5 0 := ⟨RX12, TX12, 26, "LastPennyModel", rfl, by decide, rfl, wd_955, Or.inl rfl⟩
theorem lf_X12_64 : xf_F RX12 64 12 6 0 := ⟨RX12, TX12, 26, "LastPennyModel", rfl, by decide, rfl, wd_956, Or.inl rfl⟩
theorem lf_X12_67 : xf_F RX12 67 12 7 0 := ⟨RX12, TX12, 26, "LastPennyModel", rfl, by decide, rfl, wd_957, Or.inl rfl⟩
theorem ly_X12_71 : xy_V RX12 71 yX12_here cX12_here 1 (some .int) 0 := ⟨List.forall_mem_cons.mpr ⟨wd_1045, List.forall_mem_cons.mpr ⟨wd_1047, List.forall_mem_cons.mpr ⟨wd_17, List.forall_mem_cons.mpr ⟨wd_56, fun _ h => absurd h List.not_mem_nil⟩⟩⟩⟩, wd_1048, by decide, by decide, by decide +kernel⟩
theorem lp_X12_67 : xf_P RX12 67 12 7 0 false := xf_P.of lf_X12_67 rfl ⟨rfl, fun h => by cases h⟩
theorem lp_X12_61 : xf_P RX12 61 12 5 0 false := xf_P.of lf_X12_61 rfl ⟨rfl, fun h => by cases h⟩
theorem ly_X12_75 : xy_V RX12 75 yJ0_length_8abf5 cJ0_length_8abf5 1 (some .int) 0 := ⟨List.forall_mem_cons.mpr ⟨wd_1066, List.forall_mem_cons.mpr ⟨wd_279, List.forall_mem_cons.mpr ⟨wd_280, List.forall_mem_cons.mpr ⟨wd_58, fun _ h => absurd h List.not_mem_nil⟩⟩⟩⟩, wd_281, by decide, by decide, by decide +kernel⟩
theorem ly_X12_80 : xy_V RX12 80 yJ0_charAt_5068e cJ0_charAt_5068e 2 (some .char) 1 := ⟨List.forall_mem_cons.mpr ⟨wd_1067, List.forall_mem_cons.mpr ⟨wd_289, List.forall_mem_cons.mpr ⟨wd_290, List.forall_mem_cons.mpr ⟨wd_58, fun _ h => absurd h List.not_mem_nil⟩⟩⟩⟩, wd_291, by decide, by decide, by decide +kernel⟩
theorem ly_X12_84 : xy_V RX12 84 yX12_must cX12_must 2 none 1 := ⟨List.forall_mem_cons.mpr ⟨wd_1053, List.forall_mem_cons.mpr ⟨wd_1055, List.forall_mem_cons.mpr ⟨wd_19, List.forall_mem_cons.mpr ⟨wd_56, fun _ h => absurd h List.not_mem_nil⟩⟩⟩⟩, wd_1056, by decide, by decide, by decide +kernel⟩
theorem lf_X12_88 : xf_F RX12 88 12 4 0 := ⟨RX12, TX12, 26, "LastPennyModel", rfl, by decide, rfl, wd_954, Or.inl rfl⟩
theorem lf_X12_91 : xf_F RX12 91 12 8 0 := ⟨RX12, TX12, 26, "LastPennyModel", rfl, by decide, rfl, wd_958, Or.inl rfl⟩
theorem lp_X12_91 : xf_P RX12 91 12 8 0 false := xf_P.of lf_X12_91 rfl ⟨rfl, fun h => by cases h⟩
theorem ly_X12_94 : xy_V RX12 94 yX12_factor cX12_factor 5 none 0 := ⟨List.forall_mem_cons.mpr ⟨wd_1080, List.forall_mem_cons.mpr ⟨wd_1082, List.forall_mem_cons.mpr ⟨wd_25, List.forall_mem_cons.mpr ⟨wd_56, fun _ h => absurd h List.not_mem_nil⟩⟩⟩⟩, wd_1083, by decide, by decide, by decide +kernel⟩
theorem ly_X12_97 : xy_V RX12 97 yX12_emits cX12_emits 2 none 1 := ⟨List.forall_mem_cons.mpr ⟨wd_1084, List.forall_mem_cons.mpr ⟨wd_1086, List.forall_mem_cons.mpr ⟨wd_26, List.forall_mem_cons.mpr ⟨wd_56, fun _ h => absurd h List.not_mem_nil⟩⟩⟩⟩, wd_1087, by decide, by decide, by decide +kernel⟩
theorem ly_X12_100 : xy_V RX12 100 yX12_some cX12_some 1 none 0 := ⟨List.forall_mem_cons.mpr ⟨wd_1072, List.forall_mem_cons.mpr ⟨wd_1074, List.forall_mem_cons.mpr ⟨wd_23, List.forall_mem_cons.mpr ⟨wd_56, fun _ h => absurd h List.not_mem_nil⟩⟩⟩⟩, wd_1075, by decide, by decide, by decide +kernel⟩
theorem ly_X12_105 : xy_V RX12 105 yX12_among cX12_among 3 (some .int) 1 := ⟨List.forall_mem_cons.mpr ⟨wd_1089, List.forall_mem_cons.mpr ⟨wd_1091, List.forall_mem_cons.mpr ⟨wd_27, List.forall_mem_cons.mpr ⟨wd_56, fun _ h => absurd h List.not_mem_nil⟩⟩⟩⟩, wd_1092, by decide, by decide, by decide +kernel⟩
theorem ly_X12_111 : xy_V RX12 111 yX12_figures cX12_figures 3 (some .int) 0 := ⟨List.forall_mem_cons.mpr ⟨wd_1068, List.forall_mem_cons.mpr ⟨wd_1070, List.forall_mem_cons.mpr ⟨wd_22, List.forall_mem_cons.mpr ⟨wd_56, fun _ h => absurd h List.not_mem_nil⟩⟩⟩⟩, wd_1071, by decide, by decide, by decide +kernel⟩
theorem ly_X12_114 : xy_V RX12 114 yX12_every cX12_every 1 none 0 := ⟨List.forall_mem_cons.mpr ⟨wd_1076, List.forall_mem_cons.mpr ⟨wd_1078, List.forall_mem_cons.mpr ⟨wd_24, List.forall_mem_cons.mpr ⟨wd_56, fun _ h => absurd h List.not_mem_nil⟩⟩⟩⟩, wd_1079, by decide, by decide, by decide +kernel⟩
theorem ly_X12_117 : xy_V RX12 117 yX12_spells cX12_spells 3 none 1 := ⟨List.forall_mem_cons.mpr ⟨wd_1062, List.forall_mem_cons.mpr ⟨wd_1064, List.forall_mem_cons.mpr ⟨wd_21, List.forall_mem_cons.mpr ⟨wd_56, fun _ h => absurd h List.not_mem_nil⟩⟩⟩⟩, wd_1065, by decide, by decide, by decide +kernel⟩
theorem ly_X12_123 : xy_V RX12 123 yX12_much cX12_much 4 none 2 := ⟨List.forall_mem_cons.mpr ⟨wd_1058, List.forall_mem_cons.mpr ⟨wd_1060, List.forall_mem_cons.mpr ⟨wd_20, List.forall_mem_cons.mpr ⟨wd_56, fun _ h => absurd h List.not_mem_nil⟩⟩⟩⟩, wd_1061, by decide, by decide, by decide +kernel⟩
theorem ly_X12_129 : xy_V RX12 129 yX12_clauseOfL cX12_clauseOfL 2 none 0 := ⟨List.forall_mem_cons.mpr ⟨wd_1049, List.forall_mem_cons.mpr ⟨wd_1051, List.forall_mem_cons.mpr ⟨wd_18, List.forall_mem_cons.mpr ⟨wd_56, fun _ h => absurd h List.not_mem_nil⟩⟩⟩⟩, wd_1052, by decide, by decide, by decide +kernel⟩
theorem lp_X12_88 : xf_P RX12 88 12 4 0 false := xf_P.of lf_X12_88 rfl ⟨rfl, fun h => by cases h⟩
theorem lp_X12_64 : xf_P RX12 64 12 6 0 false := xf_P.of lf_X12_64 rfl ⟨rfl, fun h => by cases h⟩
theorem ly_X12_134 : xy_V RX12 134 yX12_clauseHere cX12_clauseHere 1 none 0 := ⟨List.forall_mem_cons.mpr ⟨wd_1041, List.forall_mem_cons.mpr ⟨wd_1043, List.forall_mem_cons.mpr ⟨wd_16, List.forall_mem_cons.mpr ⟨wd_56, fun _ h => absurd h List.not_mem_nil⟩⟩⟩⟩, wd_1044, by decide, by decide, by decide +kernel⟩
theorem ly_X12_137 : xy_V RX12 137 yX12_limit cX12_limit 1 (some .int) 0 := ⟨List.forall_mem_cons.mpr ⟨wd_1104, List.forall_mem_cons.mpr ⟨wd_1106, List.forall_mem_cons.mpr ⟨wd_28, List.forall_mem_cons.mpr ⟨wd_56, fun _ h => absurd h List.not_mem_nil⟩⟩⟩⟩, wd_1107, by decide, by decide, by decide +kernel⟩
theorem ly_X12_140 : xy_V RX12 140 yX12_isPlayer cX12_isPlayer 2 (some .boolean) 1 := ⟨List.forall_mem_cons.mpr ⟨wd_1116, List.forall_mem_cons.mpr ⟨wd_1118, List.forall_mem_cons.mpr ⟨wd_29, List.forall_mem_cons.mpr ⟨wd_56, fun _ h => absurd h List.not_mem_nil⟩⟩⟩⟩, wd_1119, by decide, by decide, by decide +kernel⟩
theorem ly_X12_144 : xy_S RX12 144 yX12_lesser cX12_lesser 2 (some .int) 2 := ⟨List.forall_mem_cons.mpr ⟨wd_1140, List.forall_mem_cons.mpr ⟨wd_1141, List.forall_mem_cons.mpr ⟨wd_56, fun _ h => absurd h List.not_mem_nil⟩⟩⟩, wd_1142, by decide, by decide, by decide +kernel⟩
theorem ly_X12_148 : xy_V RX12 148 yX12_wishesFor cX12_wishesFor 8 (some .int) 2 := ⟨List.forall_mem_cons.mpr ⟨wd_1136, List.forall_mem_cons.mpr ⟨wd_1138, List.forall_mem_cons.mpr ⟨wd_32, List.forall_mem_cons.mpr ⟨wd_56, fun _ h => absurd h List.not_mem_nil⟩⟩⟩⟩, wd_1139, by decide, by decide, by decide +kernel⟩
theorem ly_X12_151 : xy_V RX12 151 yX12_mostOf cX12_mostOf 3 (some .int) 2 := ⟨List.forall_mem_cons.mpr ⟨wd_1143, List.forall_mem_cons.mpr ⟨wd_1145, List.forall_mem_cons.mpr ⟨wd_33, List.forall_mem_cons.mpr ⟨wd_56, fun _ h => absurd h List.not_mem_nil⟩⟩⟩⟩, wd_1146, by decide, by decide, by decide +kernel⟩
theorem ly_X12_154 : xy_V RX12 154 yX12_isOver cX12_isOver 2 (some .boolean) 1 := ⟨List.forall_mem_cons.mpr ⟨wd_1128, List.forall_mem_cons.mpr ⟨wd_1130, List.forall_mem_cons.mpr ⟨wd_30, List.forall_mem_cons.mpr ⟨wd_56, fun _ h => absurd h List.not_mem_nil⟩⟩⟩⟩, wd_1131, by decide, by decide, by decide +kernel⟩
theorem ly_X12_157 : xy_V RX12 157 yX12_stakeOf cX12_stakeOf 3 (some .int) 2 := ⟨List.forall_mem_cons.mpr ⟨wd_1132, List.forall_mem_cons.mpr ⟨wd_1134, List.forall_mem_cons.mpr ⟨wd_31, List.forall_mem_cons.mpr ⟨wd_56, fun _ h => absurd h List.not_mem_nil⟩⟩⟩⟩, wd_1135, by decide, by decide, by decide +kernel⟩
theorem ly_X12_160 : xy_V RX12 160 yX12_oddsOf cX12_oddsOf 13 (some .int) 3 := ⟨List.forall_mem_cons.mpr ⟨wd_1147, List.forall_mem_cons.mpr ⟨wd_1149, List.forall_mem_cons.mpr ⟨wd_34, List.forall_mem_cons.mpr ⟨wd_56, fun _ h => absurd h List.not_mem_nil⟩⟩⟩⟩, wd_1150, by decide, by decide, by decide +kernel⟩
theorem ly_X12_164 : xy_V RX12 164 yX12_goes cX12_goes 4 none 2 := ⟨List.forall_mem_cons.mpr ⟨wd_1155, List.forall_mem_cons.mpr ⟨wd_1157, List.forall_mem_cons.mpr ⟨wd_35, List.forall_mem_cons.mpr ⟨wd_56, fun _ h => absurd h List.not_mem_nil⟩⟩⟩⟩, wd_1158, by decide, by decide, by decide +kernel⟩
theorem lf_X12_170 : xf_F RX12 170 12 13 1 := ⟨RX12, TX12, 26, "LastPennyModel", rfl, by decide, rfl, wd_963, Or.inl rfl⟩
theorem lp_X12_170 : xf_P RX12 170 12 13 1 false := xf_P.of lf_X12_170 rfl ⟨rfl, fun h => by cases h⟩
theorem ly_X12_174 : xy_V RX12 174 yX12_isAsked cX12_isAsked 4 (some .boolean) 3 := ⟨List.forall_mem_cons.mpr ⟨wd_1163, List.forall_mem_cons.mpr ⟨wd_1165, List.forall_mem_cons.mpr ⟨wd_36, List.forall_mem_cons.mpr ⟨wd_56, fun _ h => absurd h List.not_mem_nil⟩⟩⟩⟩, wd_1166, by decide, by decide, by decide +kernel⟩
theorem ly_X12_179 : xy_V RX12 179 yX12_throwsOn cX12_throwsOn 7 none 2 := ⟨List.forall_mem_cons.mpr ⟨wd_1168, List.forall_mem_cons.mpr ⟨wd_1170, List.forall_mem_cons.mpr ⟨wd_37, List.forall_mem_cons.mpr ⟨wd_56, fun _ h => absurd h List.not_mem_nil⟩⟩⟩⟩, wd_1171, by decide, by decide, by decide +kernel⟩
theorem ly_X12_183 : xy_S RX12 183 yX12_tens cX12_tens 4 (some .long) 1 := ⟨List.forall_mem_cons.mpr ⟨wd_1173, List.forall_mem_cons.mpr ⟨wd_1174, List.forall_mem_cons.mpr ⟨wd_56, fun _ h => absurd h List.not_mem_nil⟩⟩⟩, wd_1175, by decide, by decide, by decide +kernel⟩
theorem ly_X12_187 : xy_S RX12 187 yX12_lowest cX12_lowest 11 (some .long) 3 := ⟨List.forall_mem_cons.mpr ⟨wd_1176, List.forall_mem_cons.mpr ⟨wd_1177, List.forall_mem_cons.mpr ⟨wd_56, fun _ h => absurd h List.not_mem_nil⟩⟩⟩, wd_1178, by decide, by decide, by decide +kernel⟩
theorem lf_X12_191 : xf_F RX12 191 12 16 0 := ⟨RX12, TX12, 26, "LastPennyModel", rfl, by decide, rfl, wd_966, Or.inl rfl⟩
theorem lp_X12_191 : xf_P RX12 191 12 16 0 false := xf_P.of lf_X12_191 rfl ⟨rfl, fun h => by cases h⟩
theorem ly_X12_196 : xy_V RX12 196 yX12_chanceBy cX12_chanceBy 5 (some .long) 3 := ⟨List.forall_mem_cons.mpr ⟨wd_1200, List.forall_mem_cons.mpr ⟨wd_1202, List.forall_mem_cons.mpr ⟨wd_39, List.forall_mem_cons.mpr ⟨wd_56, fun _ h => absurd h List.not_mem_nil⟩⟩⟩⟩, wd_1203, by decide, by decide, by decide +kernel⟩
theorem ly_X12_200 : xy_V RX12 200 yX12_bestOf cX12_bestOf 11 (some .long) 2 := ⟨List.forall_mem_cons.mpr ⟨wd_1195, List.forall_mem_cons.mpr ⟨wd_1197, List.forall_mem_cons.mpr ⟨wd_38, List.forall_mem_cons.mpr ⟨wd_56, fun _ h => absurd h List.not_mem_nil⟩⟩⟩⟩, wd_1198, by decide, by decide, by decide +kernel⟩
theorem ly_X12_204 : xy_V RX12 204 yX12_gives cX12_gives 5 none 3 := ⟨List.forall_mem_cons.mpr ⟨wd_1225, List.forall_mem_cons.mpr ⟨wd_1227, List.forall_mem_cons.mpr ⟨wd_41, List.forall_mem_cons.mpr ⟨wd_56, fun _ h => absurd h List.not_mem_nil⟩⟩⟩⟩, wd_1228, by decide, by decide, by decide +kernel⟩
theorem ly_X12_210 : xy_V RX12 210 yX12_threesOn cX12_threesOn 10 (some .long) 2 := ⟨List.forall_mem_cons.mpr ⟨wd_1221, List.forall_mem_cons.mpr ⟨wd_1223, List.forall_mem_cons.mpr ⟨wd_40, List.forall_mem_cons.mpr ⟨wd_56, fun _ h => absurd h List.not_mem_nil⟩⟩⟩⟩, wd_1224, by decide, by decide, by decide +kernel⟩
theorem ly_X12_213 : xy_V RX12 213 yX12_seems cX12_seems 7 (some .int) 0 := ⟨List.forall_mem_cons.mpr ⟨wd_1249, List.forall_mem_cons.mpr ⟨wd_1251, List.forall_mem_cons.mpr ⟨wd_42, List.forall_mem_cons.mpr ⟨wd_56, fun _ h => absurd h List.not_mem_nil⟩⟩⟩⟩, wd_1252, by decide, by decide, by decide +kernel⟩
theorem ly_X12_216 : xy_V RX12 216 yX12_longest cX12_longest 4 (some .int) 0 := ⟨List.forall_mem_cons.mpr ⟨wd_1253, List.forall_mem_cons.mpr ⟨wd_1255, List.forall_mem_cons.mpr ⟨wd_43, List.forall_mem_cons.mpr ⟨wd_56, fun _ h => absurd h List.not_mem_nil⟩⟩⟩⟩, wd_1256, by decide, by decide, by decide +kernel⟩
theorem lf_X12_219 : xf_F RX12 219 12 22 0 := ⟨RX12, TX12, 26, "LastPennyModel", rfl, by decide, rfl, wd_972, Or.inl rfl⟩
theorem lp_X12_219 : xf_P RX12 219 12 22 0 false := xf_P.of lf_X12_219 rfl ⟨rfl, fun h => by cases h⟩
theorem ly_X12_222 : xy_V RX12 222 yX12_ranBody cX12_ranBody 2 none 1 := ⟨List.forall_mem_cons.mpr ⟨wd_1268, List.forall_mem_cons.mpr ⟨wd_1270, List.forall_mem_cons.mpr ⟨wd_45, List.forall_mem_cons.mpr ⟨wd_56, fun _ h => absurd h List.not_mem_nil⟩⟩⟩⟩, wd_1271, by decide, by decide, by decide +kernel⟩
theorem lf_X12_225 : xf_F RX12 225 12 24 0 := ⟨RX12, TX12, 26, "LastPennyModel", rfl, by decide, rfl, wd_974, Or.inl rfl⟩
theorem lf_X12_228 : xf_F RX12 228 12 23 0 := ⟨RX12, TX12, 26, "LastPennyModel", rfl, by decide, rfl, wd_973, Or.inl rfl⟩
theorem ly_X12_231 : xy_S RX12 231 yX12_isUnder cX12_isUnder 2 (some .boolean) 2 := ⟨List.forall_mem_cons.mpr ⟨wd_1265, List.forall_mem_cons.mpr ⟨wd_1266, List.forall_mem_cons.mpr ⟨wd_56, fun _ h => absurd h List.not_mem_nil⟩⟩⟩, wd_1267, by decide, by decide, by decide +kernel⟩
theorem ly_X12_235 : xy_V RX12 235 yX12_plainStakes cX12_plainStakes 2 (some .int) 1 := ⟨List.forall_mem_cons.mpr ⟨wd_1272, List.forall_mem_cons.mpr ⟨wd_1274, List.forall_mem_cons.mpr ⟨wd_46, List.forall_mem_cons.mpr ⟨wd_56, fun _ h => absurd h List.not_mem_nil⟩⟩⟩⟩, wd_1275, by decide, by decide, by decide +kernel⟩
theorem ly_X12_239 : xy_V RX12 239 yX12_stakesActs cX12_stakesActs 2 (some .int) 1 := ⟨List.forall_mem_cons.mpr ⟨wd_1261, List.forall_mem_cons.mpr ⟨wd_1263, List.forall_mem_cons.mpr ⟨wd_44, List.forall_mem_cons.mpr ⟨wd_56, fun _ h => absurd h List.not_mem_nil⟩⟩⟩⟩, wd_1264, by decide, by decide, by decide +kernel⟩
theorem lf_X12_242 : xf_F RX12 242 12 25 0 := ⟨RX12, TX12, 26, "LastPennyModel", rfl, by decide, rfl, wd_975, Or.inl rfl⟩
theorem ly_X12_245 : xy_V RX12 245 yX12_plainThrows cX12_plainThrows 2 (some .int) 1 := ⟨List.forall_mem_cons.mpr ⟨wd_1280, List.forall_mem_cons.mpr ⟨wd_1282, List.forall_mem_cons.mpr ⟨wd_48, List.forall_mem_cons.mpr ⟨wd_56, fun _ h => absurd h List.not_mem_nil⟩⟩⟩⟩, wd_1283, by decide, by decide, by decide +kernel⟩
theorem ly_X12_248 : xy_V RX12 248 yX12_throwsActs cX12_throwsActs 2 (some .int) 1 := ⟨List.forall_mem_cons.mpr ⟨wd_1276, List.forall_mem_cons.mpr ⟨wd_1278, List.forall_mem_cons.mpr ⟨wd_47, List.forall_mem_cons.mpr ⟨wd_56, fun _ h => absurd h List.not_mem_nil⟩⟩⟩⟩, wd_1279, by decide, by decide, by decide +kernel⟩
theorem ly_X12_251 : xy_V RX12 251 yX12_plainCounts cX12_plainCounts 2 (some .int) 1 := ⟨List.forall_mem_cons.mpr ⟨wd_1288, List.forall_mem_cons.mpr ⟨wd_1290, List.forall_mem_cons.mpr ⟨wd_50, List.forall_mem_cons.mpr ⟨wd_56, fun _ h => absurd h List.not_mem_nil⟩⟩⟩⟩, wd_1291, by decide, by decide, by decide +kernel⟩
theorem lp_X12_228 : xf_P RX12 228 12 23 0 false := xf_P.of lf_X12_228 rfl ⟨rfl, fun h => by cases h⟩
theorem lp_X12_225 : xf_P RX12 225 12 24 0 false := xf_P.of lf_X12_225 rfl ⟨rfl, fun h => by cases h⟩
theorem lp_X12_242 : xf_P RX12 242 12 25 0 false := xf_P.of lf_X12_242 rfl ⟨rfl, fun h => by cases h⟩
theorem ly_X12_254 : xy_V RX12 254 yX12_countsActs cX12_countsActs 3 (some .int) 1 := ⟨List.forall_mem_cons.mpr ⟨wd_1284, List.forall_mem_cons.mpr ⟨wd_1286, List.forall_mem_cons.mpr ⟨wd_49, List.forall_mem_cons.mpr ⟨wd_56, fun _ h => absurd h List.not_mem_nil⟩⟩⟩⟩, wd_1287, by decide, by decide, by decide +kernel⟩
theorem lf_X12_257 : xf_F RX12 257 12 3 0 := ⟨RX12, TX12, 26, "LastPennyModel", rfl, by decide, rfl, wd_953, Or.inl rfl⟩
theorem lp_X12_257 : xf_P RX12 257 12 3 0 false := xf_P.of lf_X12_257 rfl ⟨rfl, fun h => by cases h⟩
theorem ly_J0_335 : xy_V RJ0 335 yJ0_coder_7d493 cJ0_coder_7d493 1 (some .byte) 0 := ⟨List.forall_mem_cons.mpr ⟨wd_282, List.forall_mem_cons.mpr ⟨wd_283, List.forall_mem_cons.mpr ⟨wd_284, List.forall_mem_cons.mpr ⟨wd_58, fun _ h => absurd h List.not_mem_nil⟩⟩⟩⟩, wd_285, by decide, by decide, by decide +kernel⟩
theorem ly_J0_492 : xy_V RJ0 492 yJ0_isLatin1_aae02 cJ0_isLatin1_aae02 1 (some .boolean) 0 := ⟨List.forall_mem_cons.mpr ⟨wd_292, List.forall_mem_cons.mpr ⟨wd_293, List.forall_mem_cons.mpr ⟨wd_294, List.forall_mem_cons.mpr ⟨wd_58, fun _ h => absurd h List.not_mem_nil⟩⟩⟩⟩, wd_295, by decide, by decide, by decide +kernel⟩
theorem ly_J0_495 : xy_S RJ0 495 yJ1_charAt_3b067 cJ1_charAt_3b067 2 (some .char) 2 := ⟨List.forall_mem_cons.mpr ⟨wd_296, List.forall_mem_cons.mpr ⟨wd_297, List.forall_mem_cons.mpr ⟨wd_59, fun _ h => absurd h List.not_mem_nil⟩⟩⟩, wd_298, by decide, by decide, by decide +kernel⟩
theorem ly_J0_498 : xy_S RJ0 498 yJ2_charAt_3b067 cJ2_charAt_3b067 2 (some .char) 2 := ⟨List.forall_mem_cons.mpr ⟨wd_307, List.forall_mem_cons.mpr ⟨wd_308, List.forall_mem_cons.mpr ⟨wd_61, fun _ h => absurd h List.not_mem_nil⟩⟩⟩, wd_309, by decide, by decide, by decide +kernel⟩
theorem ly_J0_633 : xy_V RJ0 633 yJ0_indexOf_7cf53 cJ0_indexOf_7cf53 3 (some .int) 2 := ⟨List.forall_mem_cons.mpr ⟨wd_341, List.forall_mem_cons.mpr ⟨wd_342, List.forall_mem_cons.mpr ⟨wd_343, List.forall_mem_cons.mpr ⟨wd_58, fun _ h => absurd h List.not_mem_nil⟩⟩⟩⟩, wd_344, by decide, by decide, by decide +kernel⟩
theorem ly_J0_505 : xy_V RJ0 505 yJ0_length_8abf5 cJ0_length_8abf5 1 (some .int) 0 := ⟨List.forall_mem_cons.mpr ⟨wd_345, List.forall_mem_cons.mpr ⟨wd_279, List.forall_mem_cons.mpr ⟨wd_280, List.forall_mem_cons.mpr ⟨wd_58, fun _ h => absurd h List.not_mem_nil⟩⟩⟩⟩, wd_281, by decide, by decide, by decide +kernel⟩
theorem ly_J0_637 : xy_S RJ0 637 yJ1_indexOf_4cfef cJ1_indexOf_4cfef 4 (some .int) 4 := ⟨List.forall_mem_cons.mpr ⟨wd_346, List.forall_mem_cons.mpr ⟨wd_347, List.forall_mem_cons.mpr ⟨wd_59, fun _ h => absurd h List.not_mem_nil⟩⟩⟩, wd_348, by decide, by decide, by decide +kernel⟩
theorem ly_J0_640 : xy_S RJ0 640 yJ2_indexOf_4cfef cJ2_indexOf_4cfef 4 (some .int) 4 := ⟨List.forall_mem_cons.mpr ⟨wd_359, List.forall_mem_cons.mpr ⟨wd_360, List.forall_mem_cons.mpr ⟨wd_61, fun _ h => absurd h List.not_mem_nil⟩⟩⟩, wd_361, by decide, by decide, by decide +kernel⟩
theorem ly_J0_1059 : xy_S RJ0 1059 yJ3_checkIndex_8e157 cJ3_checkIndex_8e157 3 (some .int) 3 := ⟨List.forall_mem_cons.mpr ⟨wd_304, List.forall_mem_cons.mpr ⟨wd_305, List.forall_mem_cons.mpr ⟨wd_60, fun _ h => absurd h List.not_mem_nil⟩⟩⟩, wd_306, by decide, by decide, by decide +kernel⟩
theorem ly_J0_1062 : xy_S RJ0 1062 yJ3_checkFromToIndex_8c36e cJ3_checkFromToIndex_8c36e 4 (some .int) 4 := ⟨List.forall_mem_cons.mpr ⟨wd_374, List.forall_mem_cons.mpr ⟨wd_375, List.forall_mem_cons.mpr ⟨wd_60, fun _ h => absurd h List.not_mem_nil⟩⟩⟩, wd_376, by decide, by decide, by decide +kernel⟩
theorem ly_J1_9 : xy_S RJ1 9 yJ0_checkIndex_df160 cJ0_checkIndex_df160 2 none 2 := ⟨List.forall_mem_cons.mpr ⟨wd_299, List.forall_mem_cons.mpr ⟨wd_300, List.forall_mem_cons.mpr ⟨wd_58, fun _ h => absurd h List.not_mem_nil⟩⟩⟩, wd_301, by decide, by decide, by decide +kernel⟩
theorem ly_J1_88 : xy_S RJ1 88 yJ1_canEncode_9a6ad cJ1_canEncode_9a6ad 1 (some .boolean) 1 := ⟨List.forall_mem_cons.mpr ⟨wd_349, List.forall_mem_cons.mpr ⟨wd_350, List.forall_mem_cons.mpr ⟨wd_59, fun _ h => absurd h List.not_mem_nil⟩⟩⟩, wd_351, by decide, by decide, by decide +kernel⟩
theorem ly_J1_92 : ∀ w ∈ ([.methodLink RJ1 92 Lib.Math.max.name, .static Lib.Math.max.name, .initialized "java/lang/Math", .code Lib.Math.max.name Lib.Math.max.code 2 (some .int)] : List Cond), w ∈ xw_tbl := List.forall_mem_cons.mpr ⟨wd_352, List.forall_mem_cons.mpr ⟨wd_353, List.forall_mem_cons.mpr ⟨wd_57, List.forall_mem_cons.mpr ⟨wd_354, fun _ h => absurd h List.not_mem_nil⟩⟩⟩⟩
theorem ly_J1_38 : ∀ w ∈ ([.methodLink RJ1 38 Lib.Math.min.name, .static Lib.Math.min.name, .initialized "java/lang/Math", .code Lib.Math.min.name Lib.Math.min.code 2 (some .int)] : List Cond), w ∈ xw_tbl := List.forall_mem_cons.mpr ⟨wd_355, List.forall_mem_cons.mpr ⟨wd_259, List.forall_mem_cons.mpr ⟨wd_57, List.forall_mem_cons.mpr ⟨wd_260, fun _ h => absurd h List.not_mem_nil⟩⟩⟩⟩
theorem ly_J1_95 : xy_S RJ1 95 yJ1_indexOfChar_4cfef cJ1_indexOfChar_4cfef 6 (some .int) 4 := ⟨List.forall_mem_cons.mpr ⟨wd_356, List.forall_mem_cons.mpr ⟨wd_357, List.forall_mem_cons.mpr ⟨wd_59, fun _ h => absurd h List.not_mem_nil⟩⟩⟩, wd_358, by decide, by decide, by decide +kernel⟩
theorem ly_J2_48 : xy_S RJ2 48 yJ2_length_9d52b cJ2_length_9d52b 1 (some .int) 1 := ⟨List.forall_mem_cons.mpr ⟨wd_313, List.forall_mem_cons.mpr ⟨wd_314, List.forall_mem_cons.mpr ⟨wd_61, fun _ h => absurd h List.not_mem_nil⟩⟩⟩, wd_315, by decide, by decide, by decide +kernel⟩
theorem ly_J2_224 : ∀ w ∈ ([.methodLink RJ2 224 Lib.Math.max.name, .static Lib.Math.max.name, .initialized "java/lang/Math", .code Lib.Math.max.name Lib.Math.max.code 2 (some .int)] : List Cond), w ∈ xw_tbl := List.forall_mem_cons.mpr ⟨wd_362, List.forall_mem_cons.mpr ⟨wd_353, List.forall_mem_cons.mpr ⟨wd_57, List.forall_mem_cons.mpr ⟨wd_354, fun _ h => absurd h List.not_mem_nil⟩⟩⟩⟩
theorem ly_J2_183 : ∀ w ∈ ([.methodLink RJ2 183 Lib.Math.min.name, .static Lib.Math.min.name, .initialized "java/lang/Math", .code Lib.Math.min.name Lib.Math.min.code 2 (some .int)] : List Cond), w ∈ xw_tbl := List.forall_mem_cons.mpr ⟨wd_363, List.forall_mem_cons.mpr ⟨wd_259, List.forall_mem_cons.mpr ⟨wd_57, List.forall_mem_cons.mpr ⟨wd_260, fun _ h => absurd h List.not_mem_nil⟩⟩⟩⟩
theorem ly_J2_228 : xy_S RJ2 228 yJ2_indexOfChar_4cfef cJ2_indexOfChar_4cfef 4 (some .int) 4 := ⟨List.forall_mem_cons.mpr ⟨wd_365, List.forall_mem_cons.mpr ⟨wd_366, List.forall_mem_cons.mpr ⟨wd_61, fun _ h => absurd h List.not_mem_nil⟩⟩⟩, wd_367, by decide, by decide, by decide +kernel⟩
theorem ly_J2_232 : xy_S RJ2 232 yJ2_indexOfSupplementary_4cfef cJ2_indexOfSupplementary_4cfef 7 (some .int) 4 := ⟨List.forall_mem_cons.mpr ⟨wd_380, List.forall_mem_cons.mpr ⟨wd_381, List.forall_mem_cons.mpr ⟨wd_61, fun _ h => absurd h List.not_mem_nil⟩⟩⟩, wd_382, by decide, by decide, by decide +kernel⟩
theorem ly_J2_96 : xy_S RJ2 96 yJ2_checkBoundsBeginEnd_d044e cJ2_checkBoundsBeginEnd_d044e 3 none 3 := ⟨List.forall_mem_cons.mpr ⟨wd_368, List.forall_mem_cons.mpr ⟨wd_369, List.forall_mem_cons.mpr ⟨wd_61, fun _ h => absurd h List.not_mem_nil⟩⟩⟩, wd_370, by decide, by decide, by decide +kernel⟩
theorem ly_J2_244 : xy_S RJ2 244 yJ2_indexOfCharUnsafe_4cfef cJ2_indexOfCharUnsafe_4cfef 5 (some .int) 4 := ⟨List.forall_mem_cons.mpr ⟨wd_377, List.forall_mem_cons.mpr ⟨wd_378, List.forall_mem_cons.mpr ⟨wd_61, fun _ h => absurd h List.not_mem_nil⟩⟩⟩, wd_379, by decide, by decide, by decide +kernel⟩
theorem ly_J2_71 : xy_S RJ2 71 yJ2_getChar_3b067 cJ2_getChar_3b067 2 (some .char) 2 := ⟨List.forall_mem_cons.mpr ⟨wd_317, List.forall_mem_cons.mpr ⟨wd_318, List.forall_mem_cons.mpr ⟨wd_61, fun _ h => absurd h List.not_mem_nil⟩⟩⟩, wd_319, by decide, by decide, by decide +kernel⟩
theorem ly_J2_164 : xy_S RJ2 164 yJ11_isValidCodePoint_9a6ad cJ11_isValidCodePoint_9a6ad 2 (some .boolean) 1 := ⟨List.forall_mem_cons.mpr ⟨wd_383, List.forall_mem_cons.mpr ⟨wd_384, List.forall_mem_cons.mpr ⟨wd_62, fun _ h => absurd h List.not_mem_nil⟩⟩⟩, wd_385, by decide, by decide, by decide +kernel⟩
theorem ly_J2_157 : xy_S RJ2 157 yJ11_highSurrogate_5068e cJ11_highSurrogate_5068e 1 (some .char) 1 := ⟨List.forall_mem_cons.mpr ⟨wd_386, List.forall_mem_cons.mpr ⟨wd_387, List.forall_mem_cons.mpr ⟨wd_62, fun _ h => absurd h List.not_mem_nil⟩⟩⟩, wd_388, by decide, by decide, by decide +kernel⟩
theorem ly_J2_161 : xy_S RJ2 161 yJ11_lowSurrogate_5068e cJ11_lowSurrogate_5068e 1 (some .char) 1 := ⟨List.forall_mem_cons.mpr ⟨wd_390, List.forall_mem_cons.mpr ⟨wd_391, List.forall_mem_cons.mpr ⟨wd_62, fun _ h => absurd h List.not_mem_nil⟩⟩⟩, wd_392, by decide, by decide, by decide +kernel⟩
theorem ly_J2_67 : xy_S RJ2 67 yJ2_checkIndex_2214a cJ2_checkIndex_2214a 2 none 2 := ⟨List.forall_mem_cons.mpr ⟨wd_310, List.forall_mem_cons.mpr ⟨wd_311, List.forall_mem_cons.mpr ⟨wd_61, fun _ h => absurd h List.not_mem_nil⟩⟩⟩, wd_312, by decide, by decide, by decide +kernel⟩
theorem ly_J2_414 : xy_S RJ2 414 yJ0_checkIndex_df160 cJ0_checkIndex_df160 2 none 2 := ⟨List.forall_mem_cons.mpr ⟨wd_316, List.forall_mem_cons.mpr ⟨wd_300, List.forall_mem_cons.mpr ⟨wd_58, fun _ h => absurd h List.not_mem_nil⟩⟩⟩, wd_301, by decide, by decide, by decide +kernel⟩
theorem ly_J2_241 : xy_S RJ2 241 yJ0_checkBoundsBeginEnd_23922 cJ0_checkBoundsBeginEnd_23922 3 none 3 := ⟨List.forall_mem_cons.mpr ⟨wd_371, List.forall_mem_cons.mpr ⟨wd_372, List.forall_mem_cons.mpr ⟨wd_58, fun _ h => absurd h List.not_mem_nil⟩⟩⟩, wd_373, by decide, by decide, by decide +kernel⟩
theorem ly_J7_304 : ∀ w ∈ ([.methodLink RJ7 304 Lib.Math.min.name, .static Lib.Math.min.name, .initialized "java/lang/Math", .code Lib.Math.min.name Lib.Math.min.code 2 (some .int)] : List Cond), w ∈ xw_tbl := List.forall_mem_cons.mpr ⟨wd_429, List.forall_mem_cons.mpr ⟨wd_259, List.forall_mem_cons.mpr ⟨wd_57, List.forall_mem_cons.mpr ⟨wd_260, fun _ h => absurd h List.not_mem_nil⟩⟩⟩⟩
theorem ly_J7_150 : ∀ w ∈ ([.methodLink RJ7 150 arraycopyName, .native arraycopyName, .static arraycopyName, .initialized "java/lang/System"] : List Cond), w ∈ xw_tbl := List.forall_mem_cons.mpr ⟨wd_430, List.forall_mem_cons.mpr ⟨wd_432, List.forall_mem_cons.mpr ⟨wd_431, List.forall_mem_cons.mpr ⟨wd_65, fun _ h => absurd h List.not_mem_nil⟩⟩⟩⟩
theorem ln_L_7 : ∀ w ∈ ([.classLink RL 7 RX11, .instantiable RX11 6, .initialized RX11] : List Cond), w ∈ xw_tbl := List.forall_mem_cons.mpr ⟨wd_74, List.forall_mem_cons.mpr ⟨wd_75, List.forall_mem_cons.mpr ⟨wd_52, fun _ h => absurd h List.not_mem_nil⟩⟩⟩
theorem ly_L_9 : xy_I RL 9 yX11_init cX11_init 1 0 := ⟨List.forall_mem_cons.mpr ⟨wd_76, List.forall_mem_cons.mpr ⟨wd_77, List.forall_mem_cons.mpr ⟨wd_52, fun _ h => absurd h List.not_mem_nil⟩⟩⟩, wd_78, rfl, by decide, by decide, by decide +kernel⟩
theorem ln_L_10 : ∀ w ∈ ([.classLink RL 10 RX12, .instantiable RX12 26, .initialized RX12] : List Cond), w ∈ xw_tbl := List.forall_mem_cons.mpr ⟨wd_945, List.forall_mem_cons.mpr ⟨wd_946, List.forall_mem_cons.mpr ⟨wd_56, fun _ h => absurd h List.not_mem_nil⟩⟩⟩
theorem ly_L_12 : xy_I RL 12 yX12_init cX12_init 1 0 := ⟨List.forall_mem_cons.mpr ⟨wd_947, List.forall_mem_cons.mpr ⟨wd_948, List.forall_mem_cons.mpr ⟨wd_56, fun _ h => absurd h List.not_mem_nil⟩⟩⟩, wd_949, rfl, by decide, by decide, by decide +kernel⟩
theorem ly_L_13 : xy_V RL 13 yX11_feed cX11_feed 2 (some .int) 1 := ⟨List.forall_mem_cons.mpr ⟨wd_246, List.forall_mem_cons.mpr ⟨wd_247, List.forall_mem_cons.mpr ⟨wd_248, List.forall_mem_cons.mpr ⟨wd_52, fun _ h => absurd h List.not_mem_nil⟩⟩⟩⟩, wd_249, by decide, by decide, by decide +kernel⟩
theorem ly_L_17 : xy_V RL 17 yX12_feed cX12_feed 2 (some .int) 1 := ⟨List.forall_mem_cons.mpr ⟨wd_1030, List.forall_mem_cons.mpr ⟨wd_1031, List.forall_mem_cons.mpr ⟨wd_1032, List.forall_mem_cons.mpr ⟨wd_56, fun _ h => absurd h List.not_mem_nil⟩⟩⟩⟩, wd_1033, by decide, by decide, by decide +kernel⟩
theorem ly_L_18 : xy_V RL 18 yX11_table cX11_table 2 (some .int) 0 := ⟨List.forall_mem_cons.mpr ⟨wd_250, List.forall_mem_cons.mpr ⟨wd_251, List.forall_mem_cons.mpr ⟨wd_252, List.forall_mem_cons.mpr ⟨wd_52, fun _ h => absurd h List.not_mem_nil⟩⟩⟩⟩, wd_253, by decide, by decide, by decide +kernel⟩
theorem ly_L_22 : xy_V RL 22 yX12_table cX12_table 2 (some .int) 0 := ⟨List.forall_mem_cons.mpr ⟨wd_1037, List.forall_mem_cons.mpr ⟨wd_1038, List.forall_mem_cons.mpr ⟨wd_1039, List.forall_mem_cons.mpr ⟨wd_56, fun _ h => absurd h List.not_mem_nil⟩⟩⟩⟩, wd_1040, by decide, by decide, by decide +kernel⟩
theorem ly_L_23 : xy_V RL 23 yX11_day cX11_day 3 (some .int) 1 := ⟨List.forall_mem_cons.mpr ⟨wd_451, List.forall_mem_cons.mpr ⟨wd_452, List.forall_mem_cons.mpr ⟨wd_453, List.forall_mem_cons.mpr ⟨wd_52, fun _ h => absurd h List.not_mem_nil⟩⟩⟩⟩, wd_454, by decide, by decide, by decide +kernel⟩
theorem ly_L_26 : xy_V RL 26 yX12_day cX12_day 3 (some .int) 1 := ⟨List.forall_mem_cons.mpr ⟨wd_1096, List.forall_mem_cons.mpr ⟨wd_1097, List.forall_mem_cons.mpr ⟨wd_1098, List.forall_mem_cons.mpr ⟨wd_56, fun _ h => absurd h List.not_mem_nil⟩⟩⟩⟩, wd_1099, by decide, by decide, by decide +kernel⟩
theorem ly_L_27 : xy_V RL 27 yX11_told cX11_told 2 (some .int) 1 := ⟨List.forall_mem_cons.mpr ⟨wd_458, List.forall_mem_cons.mpr ⟨wd_459, List.forall_mem_cons.mpr ⟨wd_460, List.forall_mem_cons.mpr ⟨wd_52, fun _ h => absurd h List.not_mem_nil⟩⟩⟩⟩, wd_461, by decide, by decide, by decide +kernel⟩
theorem ly_L_30 : xy_V RL 30 yX12_told cX12_told 2 (some .int) 1 := ⟨List.forall_mem_cons.mpr ⟨wd_1100, List.forall_mem_cons.mpr ⟨wd_1101, List.forall_mem_cons.mpr ⟨wd_1102, List.forall_mem_cons.mpr ⟨wd_56, fun _ h => absurd h List.not_mem_nil⟩⟩⟩⟩, wd_1103, by decide, by decide, by decide +kernel⟩
theorem ly_L_31 : xy_V RL 31 yX11_player cX11_player 7 (some .int) 4 := ⟨List.forall_mem_cons.mpr ⟨wd_470, List.forall_mem_cons.mpr ⟨wd_471, List.forall_mem_cons.mpr ⟨wd_472, List.forall_mem_cons.mpr ⟨wd_52, fun _ h => absurd h List.not_mem_nil⟩⟩⟩⟩, wd_473, by decide, by decide, by decide +kernel⟩
theorem ly_L_35 : xy_V RL 35 yX12_player cX12_player 7 (some .int) 4 := ⟨List.forall_mem_cons.mpr ⟨wd_1108, List.forall_mem_cons.mpr ⟨wd_1109, List.forall_mem_cons.mpr ⟨wd_1110, List.forall_mem_cons.mpr ⟨wd_56, fun _ h => absurd h List.not_mem_nil⟩⟩⟩⟩, wd_1111, by decide, by decide, by decide +kernel⟩
theorem ly_L_36 : xy_V RL 36 yX11_of cX11_of 5 (some .int) 2 := ⟨List.forall_mem_cons.mpr ⟨wd_580, List.forall_mem_cons.mpr ⟨wd_581, List.forall_mem_cons.mpr ⟨wd_582, List.forall_mem_cons.mpr ⟨wd_52, fun _ h => absurd h List.not_mem_nil⟩⟩⟩⟩, wd_583, by decide, by decide, by decide +kernel⟩
theorem ly_L_40 : xy_V RL 40 yX12_of cX12_of 5 (some .int) 2 := ⟨List.forall_mem_cons.mpr ⟨wd_1124, List.forall_mem_cons.mpr ⟨wd_1125, List.forall_mem_cons.mpr ⟨wd_1126, List.forall_mem_cons.mpr ⟨wd_56, fun _ h => absurd h List.not_mem_nil⟩⟩⟩⟩, wd_1127, by decide, by decide, by decide +kernel⟩
theorem ly_L_41 : xy_V RL 41 yX11_purse cX11_purse 5 (some .int) 2 := ⟨List.forall_mem_cons.mpr ⟨wd_653, List.forall_mem_cons.mpr ⟨wd_654, List.forall_mem_cons.mpr ⟨wd_655, List.forall_mem_cons.mpr ⟨wd_52, fun _ h => absurd h List.not_mem_nil⟩⟩⟩⟩, wd_656, by decide, by decide, by decide +kernel⟩
theorem ly_L_44 : xy_V RL 44 yX12_purse cX12_purse 4 (some .int) 2 := ⟨List.forall_mem_cons.mpr ⟨wd_1112, List.forall_mem_cons.mpr ⟨wd_1113, List.forall_mem_cons.mpr ⟨wd_1114, List.forall_mem_cons.mpr ⟨wd_56, fun _ h => absurd h List.not_mem_nil⟩⟩⟩⟩, wd_1115, by decide, by decide, by decide +kernel⟩
theorem ly_L_45 : xy_V RL 45 yX11_row cX11_row 7 (some .int) 3 := ⟨List.forall_mem_cons.mpr ⟨wd_657, List.forall_mem_cons.mpr ⟨wd_658, List.forall_mem_cons.mpr ⟨wd_659, List.forall_mem_cons.mpr ⟨wd_52, fun _ h => absurd h List.not_mem_nil⟩⟩⟩⟩, wd_660, by decide, by decide, by decide +kernel⟩
theorem ly_L_49 : xy_V RL 49 yX12_row cX12_row 5 (some .int) 3 := ⟨List.forall_mem_cons.mpr ⟨wd_1120, List.forall_mem_cons.mpr ⟨wd_1121, List.forall_mem_cons.mpr ⟨wd_1122, List.forall_mem_cons.mpr ⟨wd_56, fun _ h => absurd h List.not_mem_nil⟩⟩⟩⟩, wd_1123, by decide, by decide, by decide +kernel⟩
theorem ly_L_50 : xy_V RL 50 yX11_play cX11_play 5 (some .int) 2 := ⟨List.forall_mem_cons.mpr ⟨wd_661, List.forall_mem_cons.mpr ⟨wd_662, List.forall_mem_cons.mpr ⟨wd_663, List.forall_mem_cons.mpr ⟨wd_52, fun _ h => absurd h List.not_mem_nil⟩⟩⟩⟩, wd_664, by decide, by decide, by decide +kernel⟩
theorem ly_L_54 : xy_V RL 54 yX12_play cX12_play 3 (some .int) 2 := ⟨List.forall_mem_cons.mpr ⟨wd_1151, List.forall_mem_cons.mpr ⟨wd_1152, List.forall_mem_cons.mpr ⟨wd_1153, List.forall_mem_cons.mpr ⟨wd_56, fun _ h => absurd h List.not_mem_nil⟩⟩⟩⟩, wd_1154, by decide, by decide, by decide +kernel⟩
theorem ly_L_55 : xy_V RL 55 yX11_within cX11_within 6 (some .long) 4 := ⟨List.forall_mem_cons.mpr ⟨wd_670, List.forall_mem_cons.mpr ⟨wd_671, List.forall_mem_cons.mpr ⟨wd_672, List.forall_mem_cons.mpr ⟨wd_52, fun _ h => absurd h List.not_mem_nil⟩⟩⟩⟩, wd_673, by decide, by decide, by decide +kernel⟩
theorem ly_L_59 : xy_V RL 59 yX12_within cX12_within 5 (some .long) 4 := ⟨List.forall_mem_cons.mpr ⟨wd_1159, List.forall_mem_cons.mpr ⟨wd_1160, List.forall_mem_cons.mpr ⟨wd_1161, List.forall_mem_cons.mpr ⟨wd_56, fun _ h => absurd h List.not_mem_nil⟩⟩⟩⟩, wd_1162, by decide, by decide, by decide +kernel⟩
theorem ly_L_60 : xy_V RL 60 yX11_lasts cX11_lasts 5 (some .long) 3 := ⟨List.forall_mem_cons.mpr ⟨wd_702, List.forall_mem_cons.mpr ⟨wd_703, List.forall_mem_cons.mpr ⟨wd_704, List.forall_mem_cons.mpr ⟨wd_52, fun _ h => absurd h List.not_mem_nil⟩⟩⟩⟩, wd_705, by decide, by decide, by decide +kernel⟩
theorem ly_L_64 : xy_V RL 64 yX12_lasts cX12_lasts 4 (some .long) 3 := ⟨List.forall_mem_cons.mpr ⟨wd_1179, List.forall_mem_cons.mpr ⟨wd_1180, List.forall_mem_cons.mpr ⟨wd_1181, List.forall_mem_cons.mpr ⟨wd_56, fun _ h => absurd h List.not_mem_nil⟩⟩⟩⟩, wd_1182, by decide, by decide, by decide +kernel⟩
theorem ly_L_65 : xy_V RL 65 yX11_mean cX11_mean 5 (some .long) 3 := ⟨List.forall_mem_cons.mpr ⟨wd_706, List.forall_mem_cons.mpr ⟨wd_707, List.forall_mem_cons.mpr ⟨wd_708, List.forall_mem_cons.mpr ⟨wd_52, fun _ h => absurd h List.not_mem_nil⟩⟩⟩⟩, wd_709, by decide, by decide, by decide +kernel⟩
theorem ly_L_68 : xy_V RL 68 yX12_mean cX12_mean 7 (some .long) 3 := ⟨List.forall_mem_cons.mpr ⟨wd_1183, List.forall_mem_cons.mpr ⟨wd_1184, List.forall_mem_cons.mpr ⟨wd_1185, List.forall_mem_cons.mpr ⟨wd_56, fun _ h => absurd h List.not_mem_nil⟩⟩⟩⟩, wd_1186, by decide, by decide, by decide +kernel⟩
theorem ly_L_69 : xy_V RL 69 yX11_ever cX11_ever 4 (some .long) 2 := ⟨List.forall_mem_cons.mpr ⟨wd_714, List.forall_mem_cons.mpr ⟨wd_715, List.forall_mem_cons.mpr ⟨wd_716, List.forall_mem_cons.mpr ⟨wd_52, fun _ h => absurd h List.not_mem_nil⟩⟩⟩⟩, wd_717, by decide, by decide, by decide +kernel⟩
theorem ly_L_73 : xy_V RL 73 yX12_ever cX12_ever 13 (some .long) 2 := ⟨List.forall_mem_cons.mpr ⟨wd_1187, List.forall_mem_cons.mpr ⟨wd_1188, List.forall_mem_cons.mpr ⟨wd_1189, List.forall_mem_cons.mpr ⟨wd_56, fun _ h => absurd h List.not_mem_nil⟩⟩⟩⟩, wd_1190, by decide, by decide, by decide +kernel⟩
theorem ly_L_74 : xy_V RL 74 yX11_best cX11_best 4 (some .int) 2 := ⟨List.forall_mem_cons.mpr ⟨wd_726, List.forall_mem_cons.mpr ⟨wd_727, List.forall_mem_cons.mpr ⟨wd_728, List.forall_mem_cons.mpr ⟨wd_52, fun _ h => absurd h List.not_mem_nil⟩⟩⟩⟩, wd_729, by decide, by decide, by decide +kernel⟩
theorem ly_L_77 : xy_V RL 77 yX12_best cX12_best 3 (some .int) 2 := ⟨List.forall_mem_cons.mpr ⟨wd_1191, List.forall_mem_cons.mpr ⟨wd_1192, List.forall_mem_cons.mpr ⟨wd_1193, List.forall_mem_cons.mpr ⟨wd_56, fun _ h => absurd h List.not_mem_nil⟩⟩⟩⟩, wd_1194, by decide, by decide, by decide +kernel⟩
theorem ly_L_78 : xy_V RL 78 yX11_bestChance cX11_bestChance 5 (some .long) 3 := ⟨List.forall_mem_cons.mpr ⟨wd_747, List.forall_mem_cons.mpr ⟨wd_748, List.forall_mem_cons.mpr ⟨wd_749, List.forall_mem_cons.mpr ⟨wd_52, fun _ h => absurd h List.not_mem_nil⟩⟩⟩⟩, wd_750, by decide, by decide, by decide +kernel⟩
theorem ly_L_81 : xy_V RL 81 yX12_bestChance cX12_bestChance 4 (some .long) 3 := ⟨List.forall_mem_cons.mpr ⟨wd_1204, List.forall_mem_cons.mpr ⟨wd_1205, List.forall_mem_cons.mpr ⟨wd_1206, List.forall_mem_cons.mpr ⟨wd_56, fun _ h => absurd h List.not_mem_nil⟩⟩⟩⟩, wd_1207, by decide, by decide, by decide +kernel⟩
theorem ly_L_82 : xy_V RL 82 yX11_loses cX11_loses 7 (some .long) 3 := ⟨List.forall_mem_cons.mpr ⟨wd_751, List.forall_mem_cons.mpr ⟨wd_752, List.forall_mem_cons.mpr ⟨wd_753, List.forall_mem_cons.mpr ⟨wd_52, fun _ h => absurd h List.not_mem_nil⟩⟩⟩⟩, wd_754, by decide, by decide, by decide +kernel⟩
theorem ly_L_85 : xy_V RL 85 yX12_loses cX12_loses 4 (some .long) 3 := ⟨List.forall_mem_cons.mpr ⟨wd_1208, List.forall_mem_cons.mpr ⟨wd_1209, List.forall_mem_cons.mpr ⟨wd_1210, List.forall_mem_cons.mpr ⟨wd_56, fun _ h => absurd h List.not_mem_nil⟩⟩⟩⟩, wd_1211, by decide, by decide, by decide +kernel⟩
theorem ly_L_86 : xy_V RL 86 yX11_room cX11_room 8 (some .int) 2 := ⟨List.forall_mem_cons.mpr ⟨wd_755, List.forall_mem_cons.mpr ⟨wd_756, List.forall_mem_cons.mpr ⟨wd_757, List.forall_mem_cons.mpr ⟨wd_52, fun _ h => absurd h List.not_mem_nil⟩⟩⟩⟩, wd_758, by decide, by decide, by decide +kernel⟩
theorem ly_L_89 : xy_V RL 89 yX12_room cX12_room 7 (some .int) 2 := ⟨List.forall_mem_cons.mpr ⟨wd_1212, List.forall_mem_cons.mpr ⟨wd_1213, List.forall_mem_cons.mpr ⟨wd_1214, List.forall_mem_cons.mpr ⟨wd_56, fun _ h => absurd h List.not_mem_nil⟩⟩⟩⟩, wd_1215, by decide, by decide, by decide +kernel⟩
theorem ly_L_90 : xy_V RL 90 yX11_trio cX11_trio 8 (some .long) 4 := ⟨List.forall_mem_cons.mpr ⟨wd_759, List.forall_mem_cons.mpr ⟨wd_760, List.forall_mem_cons.mpr ⟨wd_761, List.forall_mem_cons.mpr ⟨wd_52, fun _ h => absurd h List.not_mem_nil⟩⟩⟩⟩, wd_762, by decide, by decide, by decide +kernel⟩
theorem ly_L_93 : xy_V RL 93 yX12_trio cX12_trio 10 (some .long) 4 := ⟨List.forall_mem_cons.mpr ⟨wd_1216, List.forall_mem_cons.mpr ⟨wd_1217, List.forall_mem_cons.mpr ⟨wd_1218, List.forall_mem_cons.mpr ⟨wd_56, fun _ h => absurd h List.not_mem_nil⟩⟩⟩⟩, wd_1219, by decide, by decide, by decide +kernel⟩
theorem ly_L_94 : xy_V RL 94 yX11_streak cX11_streak 7 (some .long) 4 := ⟨List.forall_mem_cons.mpr ⟨wd_783, List.forall_mem_cons.mpr ⟨wd_784, List.forall_mem_cons.mpr ⟨wd_785, List.forall_mem_cons.mpr ⟨wd_52, fun _ h => absurd h List.not_mem_nil⟩⟩⟩⟩, wd_786, by decide, by decide, by decide +kernel⟩
theorem ly_L_97 : xy_V RL 97 yX12_streak cX12_streak 7 (some .long) 4 := ⟨List.forall_mem_cons.mpr ⟨wd_1229, List.forall_mem_cons.mpr ⟨wd_1230, List.forall_mem_cons.mpr ⟨wd_1231, List.forall_mem_cons.mpr ⟨wd_56, fun _ h => absurd h List.not_mem_nil⟩⟩⟩⟩, wd_1232, by decide, by decide, by decide +kernel⟩
theorem ly_L_98 : xy_V RL 98 yX11_toss cX11_toss 2 (some .int) 1 := ⟨List.forall_mem_cons.mpr ⟨wd_791, List.forall_mem_cons.mpr ⟨wd_792, List.forall_mem_cons.mpr ⟨wd_793, List.forall_mem_cons.mpr ⟨wd_52, fun _ h => absurd h List.not_mem_nil⟩⟩⟩⟩, wd_794, by decide, by decide, by decide +kernel⟩
theorem ly_L_102 : xy_V RL 102 yX12_toss cX12_toss 2 (some .int) 1 := ⟨List.forall_mem_cons.mpr ⟨wd_1233, List.forall_mem_cons.mpr ⟨wd_1234, List.forall_mem_cons.mpr ⟨wd_1235, List.forall_mem_cons.mpr ⟨wd_56, fun _ h => absurd h List.not_mem_nil⟩⟩⟩⟩, wd_1236, by decide, by decide, by decide +kernel⟩
theorem ly_L_103 : xy_V RL 103 yX11_clear cX11_clear 2 (some .int) 0 := ⟨List.forall_mem_cons.mpr ⟨wd_799, List.forall_mem_cons.mpr ⟨wd_800, List.forall_mem_cons.mpr ⟨wd_801, List.forall_mem_cons.mpr ⟨wd_52, fun _ h => absurd h List.not_mem_nil⟩⟩⟩⟩, wd_802, by decide, by decide, by decide +kernel⟩
theorem ly_L_106 : xy_V RL 106 yX12_clear cX12_clear 2 (some .int) 0 := ⟨List.forall_mem_cons.mpr ⟨wd_1237, List.forall_mem_cons.mpr ⟨wd_1238, List.forall_mem_cons.mpr ⟨wd_1239, List.forall_mem_cons.mpr ⟨wd_56, fun _ h => absurd h List.not_mem_nil⟩⟩⟩⟩, wd_1240, by decide, by decide, by decide +kernel⟩
theorem ly_L_107 : xy_V RL 107 yX11_by cX11_by 11 (some .int) 2 := ⟨List.forall_mem_cons.mpr ⟨wd_803, List.forall_mem_cons.mpr ⟨wd_804, List.forall_mem_cons.mpr ⟨wd_805, List.forall_mem_cons.mpr ⟨wd_52, fun _ h => absurd h List.not_mem_nil⟩⟩⟩⟩, wd_806, by decide, by decide, by decide +kernel⟩
theorem ly_L_110 : xy_V RL 110 yX12_by cX12_by 10 (some .int) 2 := ⟨List.forall_mem_cons.mpr ⟨wd_1241, List.forall_mem_cons.mpr ⟨wd_1242, List.forall_mem_cons.mpr ⟨wd_1243, List.forall_mem_cons.mpr ⟨wd_56, fun _ h => absurd h List.not_mem_nil⟩⟩⟩⟩, wd_1244, by decide, by decide, by decide +kernel⟩
theorem ly_L_111 : xy_V RL 111 yX11_seen cX11_seen 2 (some .int) 1 := ⟨List.forall_mem_cons.mpr ⟨wd_813, List.forall_mem_cons.mpr ⟨wd_814, List.forall_mem_cons.mpr ⟨wd_815, List.forall_mem_cons.mpr ⟨wd_52, fun _ h => absurd h List.not_mem_nil⟩⟩⟩⟩, wd_816, by decide, by decide, by decide +kernel⟩
theorem ly_L_114 : xy_V RL 114 yX12_seen cX12_seen 2 (some .int) 1 := ⟨List.forall_mem_cons.mpr ⟨wd_1245, List.forall_mem_cons.mpr ⟨wd_1246, List.forall_mem_cons.mpr ⟨wd_1247, List.forall_mem_cons.mpr ⟨wd_56, fun _ h => absurd h List.not_mem_nil⟩⟩⟩⟩, wd_1248, by decide, by decide, by decide +kernel⟩
theorem ly_L_115 : xy_V RL 115 yX11_act cX11_act 5 (some .int) 3 := ⟨List.forall_mem_cons.mpr ⟨wd_835, List.forall_mem_cons.mpr ⟨wd_836, List.forall_mem_cons.mpr ⟨wd_837, List.forall_mem_cons.mpr ⟨wd_52, fun _ h => absurd h List.not_mem_nil⟩⟩⟩⟩, wd_838, by decide, by decide, by decide +kernel⟩
theorem ly_L_118 : xy_V RL 118 yX12_act cX12_act 4 (some .int) 3 := ⟨List.forall_mem_cons.mpr ⟨wd_1257, List.forall_mem_cons.mpr ⟨wd_1258, List.forall_mem_cons.mpr ⟨wd_1259, List.forall_mem_cons.mpr ⟨wd_56, fun _ h => absurd h List.not_mem_nil⟩⟩⟩⟩, wd_1260, by decide, by decide, by decide +kernel⟩
theorem ly_L_119 : xy_V RL 119 yX11_trace cX11_trace 2 (some .int) 1 := ⟨List.forall_mem_cons.mpr ⟨wd_917, List.forall_mem_cons.mpr ⟨wd_918, List.forall_mem_cons.mpr ⟨wd_919, List.forall_mem_cons.mpr ⟨wd_52, fun _ h => absurd h List.not_mem_nil⟩⟩⟩⟩, wd_920, by decide, by decide, by decide +kernel⟩
theorem ly_L_122 : xy_V RL 122 yX12_trace cX12_trace 2 (some .int) 1 := ⟨List.forall_mem_cons.mpr ⟨wd_1292, List.forall_mem_cons.mpr ⟨wd_1293, List.forall_mem_cons.mpr ⟨wd_1294, List.forall_mem_cons.mpr ⟨wd_56, fun _ h => absurd h List.not_mem_nil⟩⟩⟩⟩, wd_1295, by decide, by decide, by decide +kernel⟩
theorem ly_L_123 : xy_V RL 123 yX11_as cX11_as 4 (some .int) 2 := ⟨List.forall_mem_cons.mpr ⟨wd_921, List.forall_mem_cons.mpr ⟨wd_922, List.forall_mem_cons.mpr ⟨wd_923, List.forall_mem_cons.mpr ⟨wd_52, fun _ h => absurd h List.not_mem_nil⟩⟩⟩⟩, wd_924, by decide, by decide, by decide +kernel⟩
theorem ly_L_126 : xy_V RL 126 yX12_as cX12_as 3 (some .int) 2 := ⟨List.forall_mem_cons.mpr ⟨wd_1296, List.forall_mem_cons.mpr ⟨wd_1297, List.forall_mem_cons.mpr ⟨wd_1298, List.forall_mem_cons.mpr ⟨wd_56, fun _ h => absurd h List.not_mem_nil⟩⟩⟩⟩, wd_1299, by decide, by decide, by decide +kernel⟩
theorem ly_L_127 : xy_V RL 127 yX11_image cX11_image 1 (some .int) 0 := ⟨List.forall_mem_cons.mpr ⟨wd_928, List.forall_mem_cons.mpr ⟨wd_929, List.forall_mem_cons.mpr ⟨wd_930, List.forall_mem_cons.mpr ⟨wd_52, fun _ h => absurd h List.not_mem_nil⟩⟩⟩⟩, wd_931, by decide, by decide, by decide +kernel⟩
theorem ly_L_130 : xy_V RL 130 yX12_image cX12_image 2 (some .int) 0 := ⟨List.forall_mem_cons.mpr ⟨wd_1300, List.forall_mem_cons.mpr ⟨wd_1301, List.forall_mem_cons.mpr ⟨wd_1302, List.forall_mem_cons.mpr ⟨wd_56, fun _ h => absurd h List.not_mem_nil⟩⟩⟩⟩, wd_1303, by decide, by decide, by decide +kernel⟩
theorem ly_L_131 : xy_V RL 131 yX11_undo cX11_undo 1 (some .int) 0 := ⟨List.forall_mem_cons.mpr ⟨wd_937, List.forall_mem_cons.mpr ⟨wd_938, List.forall_mem_cons.mpr ⟨wd_939, List.forall_mem_cons.mpr ⟨wd_52, fun _ h => absurd h List.not_mem_nil⟩⟩⟩⟩, wd_940, by decide, by decide, by decide +kernel⟩
theorem ly_L_134 : xy_V RL 134 yX12_undo cX12_undo 2 (some .int) 0 := ⟨List.forall_mem_cons.mpr ⟨wd_1304, List.forall_mem_cons.mpr ⟨wd_1305, List.forall_mem_cons.mpr ⟨wd_1306, List.forall_mem_cons.mpr ⟨wd_56, fun _ h => absurd h List.not_mem_nil⟩⟩⟩⟩, wd_1307, by decide, by decide, by decide +kernel⟩
theorem ly_L_135 : xy_V RL 135 yX11_count cX11_count 2 (some .int) 1 := ⟨List.forall_mem_cons.mpr ⟨wd_941, List.forall_mem_cons.mpr ⟨wd_942, List.forall_mem_cons.mpr ⟨wd_943, List.forall_mem_cons.mpr ⟨wd_52, fun _ h => absurd h List.not_mem_nil⟩⟩⟩⟩, wd_944, by decide, by decide, by decide +kernel⟩
theorem ly_L_138 : xy_V RL 138 yX12_count cX12_count 2 (some .int) 1 := ⟨List.forall_mem_cons.mpr ⟨wd_1308, List.forall_mem_cons.mpr ⟨wd_1309, List.forall_mem_cons.mpr ⟨wd_1310, List.forall_mem_cons.mpr ⟨wd_56, fun _ h => absurd h List.not_mem_nil⟩⟩⟩⟩, wd_1311, by decide, by decide, by decide +kernel⟩
theorem lu_X4_28_4 : xy_U RX4 28 RX4 RX4 yX4_stakesAct yX4_stakesAct cX4_stakesAct 3 (some .int) 2 := ⟨List.forall_mem_cons.mpr ⟨wd_888, List.forall_mem_cons.mpr ⟨wd_842, List.forall_mem_cons.mpr ⟨wd_840, List.forall_mem_cons.mpr ⟨wd_841, List.forall_mem_cons.mpr ⟨wd_840, List.forall_mem_cons.mpr ⟨wd_66, fun _ h => absurd h List.not_mem_nil⟩⟩⟩⟩⟩⟩, ⟨_, _, _, wd_863⟩, wd_863, by decide, by decide, by decide +kernel⟩
theorem lu_X4_28_0 : xy_U RX4 28 RX0 RX4 yX4_stakesAct yX0_stakesAct cX0_stakesAct 3 (some .int) 2 := ⟨List.forall_mem_cons.mpr ⟨wd_888, List.forall_mem_cons.mpr ⟨wd_842, List.forall_mem_cons.mpr ⟨wd_840, List.forall_mem_cons.mpr ⟨wd_843, List.forall_mem_cons.mpr ⟨wd_844, List.forall_mem_cons.mpr ⟨wd_67, fun _ h => absurd h List.not_mem_nil⟩⟩⟩⟩⟩⟩, ⟨_, _, _, wd_863⟩, wd_845, by decide, by decide, by decide +kernel⟩
theorem lu_X4_28_9 : xy_U RX4 28 RX9 RX4 yX4_stakesAct yX4_stakesAct cX4_stakesAct 3 (some .int) 2 := ⟨List.forall_mem_cons.mpr ⟨wd_888, List.forall_mem_cons.mpr ⟨wd_842, List.forall_mem_cons.mpr ⟨wd_840, List.forall_mem_cons.mpr ⟨wd_861, List.forall_mem_cons.mpr ⟨wd_840, List.forall_mem_cons.mpr ⟨wd_66, fun _ h => absurd h List.not_mem_nil⟩⟩⟩⟩⟩⟩, ⟨_, _, _, wd_863⟩, wd_863, by decide, by decide, by decide +kernel⟩
theorem lu_X4_28_7 : xy_U RX4 28 RX7 RX4 yX4_stakesAct yX4_stakesAct cX4_stakesAct 3 (some .int) 2 := ⟨List.forall_mem_cons.mpr ⟨wd_888, List.forall_mem_cons.mpr ⟨wd_842, List.forall_mem_cons.mpr ⟨wd_840, List.forall_mem_cons.mpr ⟨wd_860, List.forall_mem_cons.mpr ⟨wd_840, List.forall_mem_cons.mpr ⟨wd_66, fun _ h => absurd h List.not_mem_nil⟩⟩⟩⟩⟩⟩, ⟨_, _, _, wd_863⟩, wd_863, by decide, by decide, by decide +kernel⟩
theorem lu_X4_28_3 : xy_U RX4 28 RX3 RX4 yX4_stakesAct yX0_stakesAct cX0_stakesAct 3 (some .int) 2 := ⟨List.forall_mem_cons.mpr ⟨wd_888, List.forall_mem_cons.mpr ⟨wd_842, List.forall_mem_cons.mpr ⟨wd_840, List.forall_mem_cons.mpr ⟨wd_859, List.forall_mem_cons.mpr ⟨wd_844, List.forall_mem_cons.mpr ⟨wd_67, fun _ h => absurd h List.not_mem_nil⟩⟩⟩⟩⟩⟩, ⟨_, _, _, wd_863⟩, wd_845, by decide, by decide, by decide +kernel⟩
theorem lu_X4_28_1 : xy_U RX4 28 RX1 RX4 yX4_stakesAct yX1_stakesAct cX1_stakesAct 3 (some .int) 2 := ⟨List.forall_mem_cons.mpr ⟨wd_888, List.forall_mem_cons.mpr ⟨wd_842, List.forall_mem_cons.mpr ⟨wd_840, List.forall_mem_cons.mpr ⟨wd_851, List.forall_mem_cons.mpr ⟨wd_852, List.forall_mem_cons.mpr ⟨wd_71, fun _ h => absurd h List.not_mem_nil⟩⟩⟩⟩⟩⟩, ⟨_, _, _, wd_863⟩, wd_853, by decide, by decide, by decide +kernel⟩
theorem lu_X4_28_10 : xy_U RX4 28 RX10 RX4 yX4_stakesAct yX4_stakesAct cX4_stakesAct 3 (some .int) 2 := ⟨List.forall_mem_cons.mpr ⟨wd_888, List.forall_mem_cons.mpr ⟨wd_842, List.forall_mem_cons.mpr ⟨wd_840, List.forall_mem_cons.mpr ⟨wd_862, List.forall_mem_cons.mpr ⟨wd_840, List.forall_mem_cons.mpr ⟨wd_66, fun _ h => absurd h List.not_mem_nil⟩⟩⟩⟩⟩⟩, ⟨_, _, _, wd_863⟩, wd_863, by decide, by decide, by decide +kernel⟩
theorem lu_X4_32_4 : xy_U RX4 32 RX4 RX4 yX4_throwsAct yX4_throwsAct cX4_throwsAct 3 (some .int) 2 := ⟨List.forall_mem_cons.mpr ⟨wd_916, List.forall_mem_cons.mpr ⟨wd_868, List.forall_mem_cons.mpr ⟨wd_866, List.forall_mem_cons.mpr ⟨wd_867, List.forall_mem_cons.mpr ⟨wd_866, List.forall_mem_cons.mpr ⟨wd_66, fun _ h => absurd h List.not_mem_nil⟩⟩⟩⟩⟩⟩, ⟨_, _, _, wd_887⟩, wd_887, by decide, by decide, by decide +kernel⟩
theorem lu_X4_32_0 : xy_U RX4 32 RX0 RX4 yX4_throwsAct yX4_throwsAct cX4_throwsAct 3 (some .int) 2 := ⟨List.forall_mem_cons.mpr ⟨wd_916, List.forall_mem_cons.mpr ⟨wd_868, List.forall_mem_cons.mpr ⟨wd_866, List.forall_mem_cons.mpr ⟨wd_869, List.forall_mem_cons.mpr ⟨wd_866, List.forall_mem_cons.mpr ⟨wd_66, fun _ h => absurd h List.not_mem_nil⟩⟩⟩⟩⟩⟩, ⟨_, _, _, wd_887⟩, wd_887, by decide, by decide, by decide +kernel⟩
theorem lu_X4_32_9 : xy_U RX4 32 RX9 RX4 yX4_throwsAct yX9_throwsAct cX9_throwsAct 3 (some .int) 2 := ⟨List.forall_mem_cons.mpr ⟨wd_916, List.forall_mem_cons.mpr ⟨wd_868, List.forall_mem_cons.mpr ⟨wd_866, List.forall_mem_cons.mpr ⟨wd_878, List.forall_mem_cons.mpr ⟨wd_871, List.forall_mem_cons.mpr ⟨wd_68, fun _ h => absurd h List.not_mem_nil⟩⟩⟩⟩⟩⟩, ⟨_, _, _, wd_887⟩, wd_872, by decide, by decide, by decide +kernel⟩
theorem lu_X4_32_7 : xy_U RX4 32 RX7 RX4 yX4_throwsAct yX4_throwsAct cX4_throwsAct 3 (some .int) 2 := ⟨List.forall_mem_cons.mpr ⟨wd_916, List.forall_mem_cons.mpr ⟨wd_868, List.forall_mem_cons.mpr ⟨wd_866, List.forall_mem_cons.mpr ⟨wd_877, List.forall_mem_cons.mpr ⟨wd_866, List.forall_mem_cons.mpr ⟨wd_66, fun _ h => absurd h List.not_mem_nil⟩⟩⟩⟩⟩⟩, ⟨_, _, _, wd_887⟩, wd_887, by decide, by decide, by decide +kernel⟩
theorem lu_X4_32_3 : xy_U RX4 32 RX3 RX4 yX4_throwsAct yX4_throwsAct cX4_throwsAct 3 (some .int) 2 := ⟨List.forall_mem_cons.mpr ⟨wd_916, List.forall_mem_cons.mpr ⟨wd_868, List.forall_mem_cons.mpr ⟨wd_866, List.forall_mem_cons.mpr ⟨wd_876, List.forall_mem_cons.mpr ⟨wd_866, List.forall_mem_cons.mpr ⟨wd_66, fun _ h => absurd h List.not_mem_nil⟩⟩⟩⟩⟩⟩, ⟨_, _, _, wd_887⟩, wd_887, by decide, by decide, by decide +kernel⟩
theorem lu_X4_32_1 : xy_U RX4 32 RX1 RX4 yX4_throwsAct yX9_throwsAct cX9_throwsAct 3 (some .int) 2 := ⟨List.forall_mem_cons.mpr ⟨wd_916, List.forall_mem_cons.mpr ⟨wd_868, List.forall_mem_cons.mpr ⟨wd_866, List.forall_mem_cons.mpr ⟨wd_870, List.forall_mem_cons.mpr ⟨wd_871, List.forall_mem_cons.mpr ⟨wd_68, fun _ h => absurd h List.not_mem_nil⟩⟩⟩⟩⟩⟩, ⟨_, _, _, wd_887⟩, wd_872, by decide, by decide, by decide +kernel⟩
theorem lu_X4_32_10 : xy_U RX4 32 RX10 RX4 yX4_throwsAct yX10_throwsAct cX10_throwsAct 3 (some .int) 2 := ⟨List.forall_mem_cons.mpr ⟨wd_916, List.forall_mem_cons.mpr ⟨wd_868, List.forall_mem_cons.mpr ⟨wd_866, List.forall_mem_cons.mpr ⟨wd_879, List.forall_mem_cons.mpr ⟨wd_880, List.forall_mem_cons.mpr ⟨wd_72, fun _ h => absurd h List.not_mem_nil⟩⟩⟩⟩⟩⟩, ⟨_, _, _, wd_887⟩, wd_881, by decide, by decide, by decide +kernel⟩
theorem lu_X6_72_4 : xy_U RX6 72 RX4 RX4 yX4_wish yX4_wish cX4_wish 3 (some .int) 2 := ⟨List.forall_mem_cons.mpr ⟨wd_592, List.forall_mem_cons.mpr ⟨wd_595, List.forall_mem_cons.mpr ⟨wd_593, List.forall_mem_cons.mpr ⟨wd_594, List.forall_mem_cons.mpr ⟨wd_593, List.forall_mem_cons.mpr ⟨wd_66, fun _ h => absurd h List.not_mem_nil⟩⟩⟩⟩⟩⟩, ⟨_, _, _, wd_621⟩, wd_621, by decide, by decide, by decide +kernel⟩
theorem lu_X6_72_0 : xy_U RX6 72 RX0 RX4 yX4_wish yX0_wish cX0_wish 3 (some .int) 2 := ⟨List.forall_mem_cons.mpr ⟨wd_592, List.forall_mem_cons.mpr ⟨wd_595, List.forall_mem_cons.mpr ⟨wd_593, List.forall_mem_cons.mpr ⟨wd_596, List.forall_mem_cons.mpr ⟨wd_597, List.forall_mem_cons.mpr ⟨wd_67, fun _ h => absurd h List.not_mem_nil⟩⟩⟩⟩⟩⟩, ⟨_, _, _, wd_621⟩, wd_598, by decide, by decide, by decide +kernel⟩
theorem lu_X6_72_9 : xy_U RX6 72 RX9 RX4 yX4_wish yX9_wish cX9_wish 3 (some .int) 2 := ⟨List.forall_mem_cons.mpr ⟨wd_592, List.forall_mem_cons.mpr ⟨wd_595, List.forall_mem_cons.mpr ⟨wd_593, List.forall_mem_cons.mpr ⟨wd_616, List.forall_mem_cons.mpr ⟨wd_604, List.forall_mem_cons.mpr ⟨wd_68, fun _ h => absurd h List.not_mem_nil⟩⟩⟩⟩⟩⟩, ⟨_, _, _, wd_621⟩, wd_605, by decide, by decide, by decide +kernel⟩
theorem lu_X6_72_7 : xy_U RX6 72 RX7 RX4 yX4_wish yX7_wish cX7_wish 4 (some .int) 2 := ⟨List.forall_mem_cons.mpr ⟨wd_592, List.forall_mem_cons.mpr ⟨wd_595, List.forall_mem_cons.mpr ⟨wd_593, List.forall_mem_cons.mpr ⟨wd_612, List.forall_mem_cons.mpr ⟨wd_613, List.forall_mem_cons.mpr ⟨wd_69, fun _ h => absurd h List.not_mem_nil⟩⟩⟩⟩⟩⟩, ⟨_, _, _, wd_621⟩, wd_614, by decide, by decide, by decide +kernel⟩
theorem lu_X6_72_3 : xy_U RX6 72 RX3 RX4 yX4_wish yX3_wish cX3_wish 3 (some .int) 2 := ⟨List.forall_mem_cons.mpr ⟨wd_592, List.forall_mem_cons.mpr ⟨wd_595, List.forall_mem_cons.mpr ⟨wd_593, List.forall_mem_cons.mpr ⟨wd_608, List.forall_mem_cons.mpr ⟨wd_609, List.forall_mem_cons.mpr ⟨wd_70, fun _ h => absurd h List.not_mem_nil⟩⟩⟩⟩⟩⟩, ⟨_, _, _, wd_621⟩, wd_610, by decide, by decide, by decide +kernel⟩
theorem lu_X6_72_1 : xy_U RX6 72 RX1 RX4 yX4_wish yX1_wish cX1_wish 3 (some .int) 2 := ⟨List.forall_mem_cons.mpr ⟨wd_592, List.forall_mem_cons.mpr ⟨wd_595, List.forall_mem_cons.mpr ⟨wd_593, List.forall_mem_cons.mpr ⟨wd_600, List.forall_mem_cons.mpr ⟨wd_601, List.forall_mem_cons.mpr ⟨wd_71, fun _ h => absurd h List.not_mem_nil⟩⟩⟩⟩⟩⟩, ⟨_, _, _, wd_621⟩, wd_602, by decide, by decide, by decide +kernel⟩
theorem lu_X6_72_10 : xy_U RX6 72 RX10 RX4 yX4_wish yX10_wish cX10_wish 3 (some .int) 2 := ⟨List.forall_mem_cons.mpr ⟨wd_592, List.forall_mem_cons.mpr ⟨wd_595, List.forall_mem_cons.mpr ⟨wd_593, List.forall_mem_cons.mpr ⟨wd_617, List.forall_mem_cons.mpr ⟨wd_618, List.forall_mem_cons.mpr ⟨wd_72, fun _ h => absurd h List.not_mem_nil⟩⟩⟩⟩⟩⟩, ⟨_, _, _, wd_621⟩, wd_619, by decide, by decide, by decide +kernel⟩
theorem lu_X11_112_4 : xy_U RX11 112 RX4 RX4 yX4_isOver yX4_isOver cX4_isOver 2 (some .boolean) 1 := ⟨List.forall_mem_cons.mpr ⟨wd_624, List.forall_mem_cons.mpr ⟨wd_627, List.forall_mem_cons.mpr ⟨wd_625, List.forall_mem_cons.mpr ⟨wd_626, List.forall_mem_cons.mpr ⟨wd_625, List.forall_mem_cons.mpr ⟨wd_66, fun _ h => absurd h List.not_mem_nil⟩⟩⟩⟩⟩⟩, ⟨_, _, _, wd_634⟩, wd_634, by decide, by decide, by decide +kernel⟩
theorem lu_X11_112_0 : xy_U RX11 112 RX0 RX4 yX4_isOver yX4_isOver cX4_isOver 2 (some .boolean) 1 := ⟨List.forall_mem_cons.mpr ⟨wd_624, List.forall_mem_cons.mpr ⟨wd_627, List.forall_mem_cons.mpr ⟨wd_625, List.forall_mem_cons.mpr ⟨wd_628, List.forall_mem_cons.mpr ⟨wd_625, List.forall_mem_cons.mpr ⟨wd_66, fun _ h => absurd h List.not_mem_nil⟩⟩⟩⟩⟩⟩, ⟨_, _, _, wd_634⟩, wd_634, by decide, by decide, by decide +kernel⟩
theorem lu_X11_112_9 : xy_U RX11 112 RX9 RX4 yX4_isOver yX4_isOver cX4_isOver 2 (some .boolean) 1 := ⟨List.forall_mem_cons.mpr ⟨wd_624, List.forall_mem_cons.mpr ⟨wd_627, List.forall_mem_cons.mpr ⟨wd_625, List.forall_mem_cons.mpr ⟨wd_632, List.forall_mem_cons.mpr ⟨wd_625, List.forall_mem_cons.mpr ⟨wd_66, fun _ h => absurd h List.not_mem_nil⟩⟩⟩⟩⟩⟩, ⟨_, _, _, wd_634⟩, wd_634, by decide, by decide, by decide +kernel⟩
theorem lu_X11_112_7 : xy_U RX11 112 RX7 RX4 yX4_isOver yX4_isOver cX4_isOver 2 (some .boolean) 1 := ⟨List.forall_mem_cons.mpr ⟨wd_624, List.forall_mem_cons.mpr ⟨wd_627, List.forall_mem_cons.mpr ⟨wd_625, List.forall_mem_cons.mpr ⟨wd_631, List.forall_mem_cons.mpr ⟨wd_625, List.forall_mem_cons.mpr ⟨wd_66, fun _ h => absurd h List.not_mem_nil⟩⟩⟩⟩⟩⟩, ⟨_, _, _, wd_634⟩, wd_634, by decide, by decide, by decide +kernel⟩
theorem lu_X11_112_3 : xy_U RX11 112 RX3 RX4 yX4_isOver yX4_isOver cX4_isOver 2 (some .boolean) 1 := ⟨List.forall_mem_cons.mpr ⟨wd_624, List.forall_mem_cons.mpr ⟨wd_627, List.forall_mem_cons.mpr ⟨wd_625, List.forall_mem_cons.mpr ⟨wd_630, List.forall_mem_cons.mpr ⟨wd_625, List.forall_mem_cons.mpr ⟨wd_66, fun _ h => absurd h List.not_mem_nil⟩⟩⟩⟩⟩⟩, ⟨_, _, _, wd_634⟩, wd_634, by decide, by decide, by decide +kernel⟩
theorem lu_X11_112_1 : xy_U RX11 112 RX1 RX4 yX4_isOver yX4_isOver cX4_isOver 2 (some .boolean) 1 := ⟨List.forall_mem_cons.mpr ⟨wd_624, List.forall_mem_cons.mpr ⟨wd_627, List.forall_mem_cons.mpr ⟨wd_625, List.forall_mem_cons.mpr ⟨wd_629, List.forall_mem_cons.mpr ⟨wd_625, List.forall_mem_cons.mpr ⟨wd_66, fun _ h => absurd h List.not_mem_nil⟩⟩⟩⟩⟩⟩, ⟨_, _, _, wd_634⟩, wd_634, by decide, by decide, by decide +kernel⟩
theorem lu_X11_112_10 : xy_U RX11 112 RX10 RX4 yX4_isOver yX4_isOver cX4_isOver 2 (some .boolean) 1 := ⟨List.forall_mem_cons.mpr ⟨wd_624, List.forall_mem_cons.mpr ⟨wd_627, List.forall_mem_cons.mpr ⟨wd_625, List.forall_mem_cons.mpr ⟨wd_633, List.forall_mem_cons.mpr ⟨wd_625, List.forall_mem_cons.mpr ⟨wd_66, fun _ h => absurd h List.not_mem_nil⟩⟩⟩⟩⟩⟩, ⟨_, _, _, wd_634⟩, wd_634, by decide, by decide, by decide +kernel⟩
theorem lu_X11_215_4 : xy_U RX11 215 RX4 RX4 yX4_stakesAct yX4_stakesAct cX4_stakesAct 3 (some .int) 2 := ⟨List.forall_mem_cons.mpr ⟨wd_839, List.forall_mem_cons.mpr ⟨wd_842, List.forall_mem_cons.mpr ⟨wd_840, List.forall_mem_cons.mpr ⟨wd_841, List.forall_mem_cons.mpr ⟨wd_840, List.forall_mem_cons.mpr ⟨wd_66, fun _ h => absurd h List.not_mem_nil⟩⟩⟩⟩⟩⟩, ⟨_, _, _, wd_863⟩, wd_863, by decide, by decide, by decide +kernel⟩
theorem lu_X11_215_0 : xy_U RX11 215 RX0 RX4 yX4_stakesAct yX0_stakesAct cX0_stakesAct 3 (some .int) 2 := ⟨List.forall_mem_cons.mpr ⟨wd_839, List.forall_mem_cons.mpr ⟨wd_842, List.forall_mem_cons.mpr ⟨wd_840, List.forall_mem_cons.mpr ⟨wd_843, List.forall_mem_cons.mpr ⟨wd_844, List.forall_mem_cons.mpr ⟨wd_67, fun _ h => absurd h List.not_mem_nil⟩⟩⟩⟩⟩⟩, ⟨_, _, _, wd_863⟩, wd_845, by decide, by decide, by decide +kernel⟩
theorem lu_X11_215_9 : xy_U RX11 215 RX9 RX4 yX4_stakesAct yX4_stakesAct cX4_stakesAct 3 (some .int) 2 := ⟨List.forall_mem_cons.mpr ⟨wd_839, List.forall_mem_cons.mpr ⟨wd_842, List.forall_mem_cons.mpr ⟨wd_840, List.forall_mem_cons.mpr ⟨wd_861, List.forall_mem_cons.mpr ⟨wd_840, List.forall_mem_cons.mpr ⟨wd_66, fun _ h => absurd h List.not_mem_nil⟩⟩⟩⟩⟩⟩, ⟨_, _, _, wd_863⟩, wd_863, by decide, by decide, by decide +kernel⟩
theorem lu_X11_215_7 : xy_U RX11 215 RX7 RX4 yX4_stakesAct yX4_stakesAct cX4_stakesAct 3 (some .int) 2 := ⟨List.forall_mem_cons.mpr ⟨wd_839, List.forall_mem_cons.mpr ⟨wd_842, List.forall_mem_cons.mpr ⟨wd_840, List.forall_mem_cons.mpr ⟨wd_860, List.forall_mem_cons.mpr ⟨wd_840, List.forall_mem_cons.mpr ⟨wd_66, fun _ h => absurd h List.not_mem_nil⟩⟩⟩⟩⟩⟩, ⟨_, _, _, wd_863⟩, wd_863, by decide, by decide, by decide +kernel⟩
theorem lu_X11_215_3 : xy_U RX11 215 RX3 RX4 yX4_stakesAct yX0_stakesAct cX0_stakesAct 3 (some .int) 2 := ⟨List.forall_mem_cons.mpr ⟨wd_839, List.forall_mem_cons.mpr ⟨wd_842, List.forall_mem_cons.mpr ⟨wd_840, List.forall_mem_cons.mpr ⟨wd_859, List.forall_mem_cons.mpr ⟨wd_844, List.forall_mem_cons.mpr ⟨wd_67, fun _ h => absurd h List.not_mem_nil⟩⟩⟩⟩⟩⟩, ⟨_, _, _, wd_863⟩, wd_845, by decide, by decide, by decide +kernel⟩
theorem lu_X11_215_1 : xy_U RX11 215 RX1 RX4 yX4_stakesAct yX1_stakesAct cX1_stakesAct 3 (some .int) 2 := ⟨List.forall_mem_cons.mpr ⟨wd_839, List.forall_mem_cons.mpr ⟨wd_842, List.forall_mem_cons.mpr ⟨wd_840, List.forall_mem_cons.mpr ⟨wd_851, List.forall_mem_cons.mpr ⟨wd_852, List.forall_mem_cons.mpr ⟨wd_71, fun _ h => absurd h List.not_mem_nil⟩⟩⟩⟩⟩⟩, ⟨_, _, _, wd_863⟩, wd_853, by decide, by decide, by decide +kernel⟩
theorem lu_X11_215_10 : xy_U RX11 215 RX10 RX4 yX4_stakesAct yX4_stakesAct cX4_stakesAct 3 (some .int) 2 := ⟨List.forall_mem_cons.mpr ⟨wd_839, List.forall_mem_cons.mpr ⟨wd_842, List.forall_mem_cons.mpr ⟨wd_840, List.forall_mem_cons.mpr ⟨wd_862, List.forall_mem_cons.mpr ⟨wd_840, List.forall_mem_cons.mpr ⟨wd_66, fun _ h => absurd h List.not_mem_nil⟩⟩⟩⟩⟩⟩, ⟨_, _, _, wd_863⟩, wd_863, by decide, by decide, by decide +kernel⟩
theorem lu_X11_219_4 : xy_U RX11 219 RX4 RX4 yX4_throwsAct yX4_throwsAct cX4_throwsAct 3 (some .int) 2 := ⟨List.forall_mem_cons.mpr ⟨wd_865, List.forall_mem_cons.mpr ⟨wd_868, List.forall_mem_cons.mpr ⟨wd_866, List.forall_mem_cons.mpr ⟨wd_867, List.forall_mem_cons.mpr ⟨wd_866, List.forall_mem_cons.mpr ⟨wd_66, fun _ h => absurd h List.not_mem_nil⟩⟩⟩⟩⟩⟩, ⟨_, _, _, wd_887⟩, wd_887, by decide, by decide, by decide +kernel⟩
theorem lu_X11_219_0 : xy_U RX11 219 RX0 RX4 yX4_throwsAct yX4_throwsAct cX4_throwsAct 3 (some .int) 2 := ⟨List.forall_mem_cons.mpr ⟨wd_865, List.forall_mem_cons.mpr ⟨wd_868, List.forall_mem_cons.mpr ⟨wd_866, List.forall_mem_cons.mpr ⟨wd_869, List.forall_mem_cons.mpr ⟨wd_866, List.forall_mem_cons.mpr ⟨wd_66, fun _ h => absurd h List.not_mem_nil⟩⟩⟩⟩⟩⟩, ⟨_, _, _, wd_887⟩, wd_887, by decide, by decide, by decide +kernel⟩
theorem lu_X11_219_9 : xy_U RX11 219 RX9 RX4 yX4_throwsAct yX9_throwsAct cX9_throwsAct 3 (some .int) 2 := ⟨List.forall_mem_cons.mpr ⟨wd_865, List.forall_mem_cons.mpr ⟨wd_868, List.forall_mem_cons.mpr ⟨wd_866, List.forall_mem_cons.mpr ⟨wd_878, List.forall_mem_cons.mpr ⟨wd_871, List.forall_mem_cons.mpr ⟨wd_68, fun _ h => absurd h List.not_mem_nil⟩⟩⟩⟩⟩⟩, ⟨_, _, _, wd_887⟩, wd_872, by decide, by decide, by decide +kernel⟩
theorem lu_X11_219_7 : xy_U RX11 219 RX7 RX4 yX4_throwsAct yX4_throwsAct cX4_throwsAct 3 (some .int) 2 := ⟨List.forall_mem_cons.mpr ⟨wd_865, List.forall_mem_cons.mpr ⟨wd_868, List.forall_mem_cons.mpr ⟨wd_866, List.forall_mem_cons.mpr ⟨wd_877, List.forall_mem_cons.mpr ⟨wd_866, List.forall_mem_cons.mpr ⟨wd_66, fun _ h => absurd h List.not_mem_nil⟩⟩⟩⟩⟩⟩, ⟨_, _, _, wd_887⟩, wd_887, by decide, by decide, by decide +kernel⟩
theorem lu_X11_219_3 : xy_U RX11 219 RX3 RX4 yX4_throwsAct yX4_throwsAct cX4_throwsAct 3 (some .int) 2 := ⟨List.forall_mem_cons.mpr ⟨wd_865, List.forall_mem_cons.mpr ⟨wd_868, List.forall_mem_cons.mpr ⟨wd_866, List.forall_mem_cons.mpr ⟨wd_876, List.forall_mem_cons.mpr ⟨wd_866, List.forall_mem_cons.mpr ⟨wd_66, fun _ h => absurd h List.not_mem_nil⟩⟩⟩⟩⟩⟩, ⟨_, _, _, wd_887⟩, wd_887, by decide, by decide, by decide +kernel⟩
theorem lu_X11_219_1 : xy_U RX11 219 RX1 RX4 yX4_throwsAct yX9_throwsAct cX9_throwsAct 3 (some .int) 2 := ⟨List.forall_mem_cons.mpr ⟨wd_865, List.forall_mem_cons.mpr ⟨wd_868, List.forall_mem_cons.mpr ⟨wd_866, List.forall_mem_cons.mpr ⟨wd_870, List.forall_mem_cons.mpr ⟨wd_871, List.forall_mem_cons.mpr ⟨wd_68, fun _ h => absurd h List.not_mem_nil⟩⟩⟩⟩⟩⟩, ⟨_, _, _, wd_887⟩, wd_872, by decide, by decide, by decide +kernel⟩
theorem lu_X11_219_10 : xy_U RX11 219 RX10 RX4 yX4_throwsAct yX10_throwsAct cX10_throwsAct 3 (some .int) 2 := ⟨List.forall_mem_cons.mpr ⟨wd_865, List.forall_mem_cons.mpr ⟨wd_868, List.forall_mem_cons.mpr ⟨wd_866, List.forall_mem_cons.mpr ⟨wd_879, List.forall_mem_cons.mpr ⟨wd_880, List.forall_mem_cons.mpr ⟨wd_72, fun _ h => absurd h List.not_mem_nil⟩⟩⟩⟩⟩⟩, ⟨_, _, _, wd_887⟩, wd_881, by decide, by decide, by decide +kernel⟩
theorem lu_X11_222_4 : xy_U RX11 222 RX4 RX4 yX4_countsAct yX4_countsAct cX4_countsAct 3 (some .int) 2 := ⟨List.forall_mem_cons.mpr ⟨wd_889, List.forall_mem_cons.mpr ⟨wd_892, List.forall_mem_cons.mpr ⟨wd_890, List.forall_mem_cons.mpr ⟨wd_891, List.forall_mem_cons.mpr ⟨wd_890, List.forall_mem_cons.mpr ⟨wd_66, fun _ h => absurd h List.not_mem_nil⟩⟩⟩⟩⟩⟩, ⟨_, _, _, wd_915⟩, wd_915, by decide, by decide, by decide +kernel⟩
theorem lu_X11_222_0 : xy_U RX11 222 RX0 RX4 yX4_countsAct yX4_countsAct cX4_countsAct 3 (some .int) 2 := ⟨List.forall_mem_cons.mpr ⟨wd_889, List.forall_mem_cons.mpr ⟨wd_892, List.forall_mem_cons.mpr ⟨wd_890, List.forall_mem_cons.mpr ⟨wd_893, List.forall_mem_cons.mpr ⟨wd_890, List.forall_mem_cons.mpr ⟨wd_66, fun _ h => absurd h List.not_mem_nil⟩⟩⟩⟩⟩⟩, ⟨_, _, _, wd_915⟩, wd_915, by decide, by decide, by decide +kernel⟩
theorem lu_X11_222_9 : xy_U RX11 222 RX9 RX4 yX4_countsAct yX4_countsAct cX4_countsAct 3 (some .int) 2 := ⟨List.forall_mem_cons.mpr ⟨wd_889, List.forall_mem_cons.mpr ⟨wd_892, List.forall_mem_cons.mpr ⟨wd_890, List.forall_mem_cons.mpr ⟨wd_913, List.forall_mem_cons.mpr ⟨wd_890, List.forall_mem_cons.mpr ⟨wd_66, fun _ h => absurd h List.not_mem_nil⟩⟩⟩⟩⟩⟩, ⟨_, _, _, wd_915⟩, wd_915, by decide, by decide, by decide +kernel⟩
theorem lu_X11_222_7 : xy_U RX11 222 RX7 RX4 yX4_countsAct yX7_countsAct cX7_countsAct 3 (some .int) 2 := ⟨List.forall_mem_cons.mpr ⟨wd_889, List.forall_mem_cons.mpr ⟨wd_892, List.forall_mem_cons.mpr ⟨wd_890, List.forall_mem_cons.mpr ⟨wd_907, List.forall_mem_cons.mpr ⟨wd_908, List.forall_mem_cons.mpr ⟨wd_69, fun _ h => absurd h List.not_mem_nil⟩⟩⟩⟩⟩⟩, ⟨_, _, _, wd_915⟩, wd_909, by decide, by decide, by decide +kernel⟩
theorem lu_X11_222_3 : xy_U RX11 222 RX3 RX4 yX4_countsAct yX3_countsAct cX3_countsAct 4 (some .int) 2 := ⟨List.forall_mem_cons.mpr ⟨wd_889, List.forall_mem_cons.mpr ⟨wd_892, List.forall_mem_cons.mpr ⟨wd_890, List.forall_mem_cons.mpr ⟨wd_895, List.forall_mem_cons.mpr ⟨wd_896, List.forall_mem_cons.mpr ⟨wd_70, fun _ h => absurd h List.not_mem_nil⟩⟩⟩⟩⟩⟩, ⟨_, _, _, wd_915⟩, wd_897, by decide, by decide, by decide +kernel⟩
theorem lu_X11_222_1 : xy_U RX11 222 RX1 RX4 yX4_countsAct yX4_countsAct cX4_countsAct 3 (some .int) 2 := ⟨List.forall_mem_cons.mpr ⟨wd_889, List.forall_mem_cons.mpr ⟨wd_892, List.forall_mem_cons.mpr ⟨wd_890, List.forall_mem_cons.mpr ⟨wd_894, List.forall_mem_cons.mpr ⟨wd_890, List.forall_mem_cons.mpr ⟨wd_66, fun _ h => absurd h List.not_mem_nil⟩⟩⟩⟩⟩⟩, ⟨_, _, _, wd_915⟩, wd_915, by decide, by decide, by decide +kernel⟩
theorem lu_X11_222_10 : xy_U RX11 222 RX10 RX4 yX4_countsAct yX7_countsAct cX7_countsAct 3 (some .int) 2 := ⟨List.forall_mem_cons.mpr ⟨wd_889, List.forall_mem_cons.mpr ⟨wd_892, List.forall_mem_cons.mpr ⟨wd_890, List.forall_mem_cons.mpr ⟨wd_914, List.forall_mem_cons.mpr ⟨wd_908, List.forall_mem_cons.mpr ⟨wd_69, fun _ h => absurd h List.not_mem_nil⟩⟩⟩⟩⟩⟩, ⟨_, _, _, wd_915⟩, wd_909, by decide, by decide, by decide +kernel⟩
