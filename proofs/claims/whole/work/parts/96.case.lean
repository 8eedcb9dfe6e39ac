set_option maxHeartbeats 4000000 in
set_option maxRecDepth 100000 in
theorem lc_0 {G : xg_T} {K : xk_T} {Q : State → Prop} {cells slots n : Nat} {tau : Nat → Nat × Nat} {vi vl : Nat → Int → Int} {vr : Nat → Int → Option Nat} (hC : xk_C G K cL_law RL 4) {L : Nat} {xs : Nat → Int32} (hX : va_X (G.2.2.2 19) L xs (xk_s K) (xk_s K).heap) (hbl : G.2.2.2 19 < (xk_s K).heap.size) (hbA : ¬ xg_A G (G.2.2.2 19)) (hRm : xk_Rm K 100 600000 7302250) {i : Int} (hi : 0 ≤ i ∧ i + 5 ≤ (L : Int)) (hL : L ≤ 320) (h : LI n tau vi vr) (hn : n ≤ 1000) (hce : cells ≤ 1000 ∧ slots ≤ 100000) (kk : ∀ (n1 : Nat) (t1 : Nat → Nat × Nat) (a1 b1 : Nat → Int → Int) (c1 : Nat → Int → Option Nat) (ce sl : Nat), LI n1 t1 a1 c1 → n1 ≤ n + 4 → (ce ≤ cells + 4 ∧ sl ≤ slots + 304) → xv G K 4 Q ce sl n1 t1 a1 b1 c1 1151 [(0, xa_r 1000019), (1, xa_r 0), (2, xa_r 31), (3, xa_i i)] []) : xv G K 4 Q cells slots n tau vi vl vr 164 [(0, xa_r 1000019), (1, xa_r 0), (2, xa_r 31), (3, xa_i i)] [] := by
  refine vx_aload_n hC 1 rfl eL_law_164 ?_
  refine vx_aload_n hC 0 rfl eL_law_165 ?_
  refine vx_iload_n hC 3 rfl eL_law_166 ?_
  refine vx_iconst hC eL_law_167 ?_
  refine vx_iadd hC eL_law_168 ?_
  refine vx_sld hC hX hbl hbA (by omega) (by omega) eL_law_169 ?_
  refine vx_callV_i hC (kX11_feed G 0 _ _ _ _ _ h.1.1 (vi 32) (vi 33) (vi 31 3) (vi 31 22) (vi 44) h.2 h.1.2.1 (sx xs (i + 1)) (sx_r _ _)) ly_L_13 (ot_0 h.1.1) rfl rfl rfl hRm (by omega) (Nat.le_of_ble_eq_true rfl) rfl eL_law_170 (fun z1 n1 t1 a1 b1 c1 hz => ?_)
  obtain ⟨hz1, hc1⟩ := hz
  obtain ⟨hI1, e32, e33, e31, e44⟩ := h.mid hc1
  refine vx_aload_n hC 2 rfl eL_law_173 ?_
  refine vx_aload_n hC 0 rfl eL_law_174 ?_
  refine vx_iload_n hC 3 rfl eL_law_175 ?_
  refine vx_iconst hC eL_law_176 ?_
  refine vx_iadd hC eL_law_177 ?_
  refine vx_sld hC hX hbl hbA (by omega) (by omega) eL_law_178 ?_
  refine vx_callV_i hC (kX12_feed G 0 _ _ _ _ _ hI1 (sx xs (i + 1)) (sx_r _ _)) ly_L_17 (ot_31 hI1.1) rfl rfl rfl hRm (by omega) (Nat.le_of_ble_eq_true rfl) rfl eL_law_179 (fun z2 n2 t2 a2 b2 c2 hy => ?_)
  obtain ⟨hz2, hm2⟩ := hy
  simp only [e32, e33, e31, e44] at hm2
  (try rw [e32] at hz2); (try rw [e33] at hz2); (try rw [e31] at hz2); (try rw [e44] at hz2)
  subst hz1; subst hz2
  refine vx_icmp_same hC (tgt := 1151) (by decide) eL_law_182 ?_
  obtain ⟨hL2, hn2⟩ := LI.step (vr := vr) hc1 hm2 (feed_V h.1.2.1) h.1.2.2.1 (feed_O h.1.2.1 h.1.2.2.2.2.1) h.1.2.2.2.2.2
  exact kk _ _ _ _ _ _ _ hL2 (by have := hc1.1; omega) (by omega)
set_option maxHeartbeats 4000000 in
set_option maxRecDepth 100000 in
theorem lc_1 {G : xg_T} {K : xk_T} {Q : State → Prop} {cells slots n : Nat} {tau : Nat → Nat × Nat} {vi vl : Nat → Int → Int} {vr : Nat → Int → Option Nat} (hC : xk_C G K cL_law RL 4) {L : Nat} {xs : Nat → Int32} (hX : va_X (G.2.2.2 19) L xs (xk_s K) (xk_s K).heap) (hbl : G.2.2.2 19 < (xk_s K).heap.size) (hbA : ¬ xg_A G (G.2.2.2 19)) (hRm : xk_Rm K 100 600000 7302250) {i : Int} (hi : 0 ≤ i ∧ i + 5 ≤ (L : Int)) (hL : L ≤ 320) (h : LI n tau vi vr) (hn : n ≤ 1000) (hce : cells ≤ 1000 ∧ slots ≤ 100000) (kk : ∀ (n1 : Nat) (t1 : Nat → Nat × Nat) (a1 b1 : Nat → Int → Int) (c1 : Nat → Int → Option Nat) (ce sl : Nat), LI n1 t1 a1 c1 → n1 ≤ n + 4 → (ce ≤ cells + 4 ∧ sl ≤ slots + 304) → xv G K 4 Q ce sl n1 t1 a1 b1 c1 1151 [(0, xa_r 1000019), (1, xa_r 0), (2, xa_r 31), (3, xa_i i)] []) : xv G K 4 Q cells slots n tau vi vl vr 187 [(0, xa_r 1000019), (1, xa_r 0), (2, xa_r 31), (3, xa_i i)] [] := by
  refine vx_aload_n hC 1 rfl eL_law_187 ?_
  refine vx_callV_i hC (kX11_table G 0 _ _ _ _ _ h.1.1 (vi 32) (vi 33) (vi 31 3) (vi 31 22) (vi 44) h.2 h.1.2.1 (by omega) ) ly_L_18 (ot_0 h.1.1) rfl rfl rfl hRm (by omega) (Nat.le_of_ble_eq_true rfl) rfl eL_law_188 (fun z1 n1 t1 a1 b1 c1 hz => ?_)
  obtain ⟨hz1, hc1⟩ := hz
  obtain ⟨hI1, e32, e33, e31, e44⟩ := h.mid hc1
  refine vx_aload_n hC 2 rfl eL_law_191 ?_
  refine vx_callV_i hC (kX12_table G 0 _ _ _ _ _ hI1 ) ly_L_22 (ot_31 hI1.1) rfl rfl rfl hRm (by omega) (Nat.le_of_ble_eq_true rfl) rfl eL_law_192 (fun z2 n2 t2 a2 b2 c2 hy => ?_)
  obtain ⟨hz2, hm2⟩ := hy
  simp only [e32, e33, e31, e44] at hm2
  (try rw [e32] at hz2); (try rw [e33] at hz2); (try rw [e31] at hz2); (try rw [e44] at hz2)
  subst hz1; subst hz2
  refine vx_icmp_same hC (tgt := 1151) (by decide) eL_law_195 ?_
  obtain ⟨hL2, hn2⟩ := LI.step (vr := vr) hc1 hm2 (tab_V h.1.2.1) h.1.2.2.1 (tab_O h.1.2.1 h.1.2.2.2.2.1) h.1.2.2.2.2.2
  exact kk _ _ _ _ _ _ _ hL2 (by have := hc1.1; omega) (by omega)
set_option maxHeartbeats 4000000 in
set_option maxRecDepth 100000 in
theorem lc_2 {G : xg_T} {K : xk_T} {Q : State → Prop} {cells slots n : Nat} {tau : Nat → Nat × Nat} {vi vl : Nat → Int → Int} {vr : Nat → Int → Option Nat} (hC : xk_C G K cL_law RL 4) {L : Nat} {xs : Nat → Int32} (hX : va_X (G.2.2.2 19) L xs (xk_s K) (xk_s K).heap) (hbl : G.2.2.2 19 < (xk_s K).heap.size) (hbA : ¬ xg_A G (G.2.2.2 19)) (hRm : xk_Rm K 100 600000 7302250) {i : Int} (hi : 0 ≤ i ∧ i + 5 ≤ (L : Int)) (hL : L ≤ 320) (h : LI n tau vi vr) (hn : n ≤ 1000) (hce : cells ≤ 1000 ∧ slots ≤ 100000) (kk : ∀ (n1 : Nat) (t1 : Nat → Nat × Nat) (a1 b1 : Nat → Int → Int) (c1 : Nat → Int → Option Nat) (ce sl : Nat), LI n1 t1 a1 c1 → n1 ≤ n + 4 → (ce ≤ cells + 4 ∧ sl ≤ slots + 304) → xv G K 4 Q ce sl n1 t1 a1 b1 c1 1151 [(0, xa_r 1000019), (1, xa_r 0), (2, xa_r 31), (3, xa_i i)] []) : xv G K 4 Q cells slots n tau vi vl vr 200 [(0, xa_r 1000019), (1, xa_r 0), (2, xa_r 31), (3, xa_i i)] [] := by
  refine vx_aload_n hC 1 rfl eL_law_200 ?_
  refine vx_aload_n hC 0 rfl eL_law_201 ?_
  refine vx_iload_n hC 3 rfl eL_law_202 ?_
  refine vx_iconst hC eL_law_203 ?_
  refine vx_iadd hC eL_law_204 ?_
  refine vx_sld hC hX hbl hbA (by omega) (by omega) eL_law_205 ?_
  refine vx_callV_i hC (kX11_day G 0 _ _ _ _ _ h.1.1 (vi 32) (vi 33) (vi 31 3) (vi 31 22) (vi 44) h.2 h.1.2.1 (sx xs (i + 1)) (sx_r _ _)) ly_L_23 (ot_0 h.1.1) rfl rfl rfl hRm (by omega) (Nat.le_of_ble_eq_true rfl) rfl eL_law_206 (fun z1 n1 t1 a1 b1 c1 hz => ?_)
  obtain ⟨hz1, hc1⟩ := hz
  obtain ⟨hI1, e32, e33, e31, e44⟩ := h.mid hc1
  refine vx_aload_n hC 2 rfl eL_law_209 ?_
  refine vx_aload_n hC 0 rfl eL_law_210 ?_
  refine vx_iload_n hC 3 rfl eL_law_211 ?_
  refine vx_iconst hC eL_law_212 ?_
  refine vx_iadd hC eL_law_213 ?_
  refine vx_sld hC hX hbl hbA (by omega) (by omega) eL_law_214 ?_
  refine vx_callV_i hC (kX12_day G 0 _ _ _ _ _ hI1 (sx xs (i + 1)) (sx_r _ _)) ly_L_26 (ot_31 hI1.1) rfl rfl rfl hRm (by omega) (Nat.le_of_ble_eq_true rfl) rfl eL_law_215 (fun z2 n2 t2 a2 b2 c2 hy => ?_)
  obtain ⟨hz2, hm2⟩ := hy
  simp only [e32, e33, e31, e44] at hm2
  (try rw [e32] at hz2); (try rw [e33] at hz2); (try rw [e31] at hz2); (try rw [e44] at hz2)
  subst hz1; subst hz2
  refine vx_icmp_same hC (tgt := 1151) (by decide) eL_law_218 ?_
  obtain ⟨hL2, hn2⟩ := LI.step (vr := vr) hc1 hm2 (day_V h.1.2.1) h.1.2.2.1 (day_O h.1.2.2.2.2.1) h.1.2.2.2.2.2
  exact kk _ _ _ _ _ _ _ hL2 (by have := hc1.1; omega) (by omega)
set_option maxHeartbeats 4000000 in
set_option maxRecDepth 100000 in
theorem lc_3 {G : xg_T} {K : xk_T} {Q : State → Prop} {cells slots n : Nat} {tau : Nat → Nat × Nat} {vi vl : Nat → Int → Int} {vr : Nat → Int → Option Nat} (hC : xk_C G K cL_law RL 4) {L : Nat} {xs : Nat → Int32} (hX : va_X (G.2.2.2 19) L xs (xk_s K) (xk_s K).heap) (hbl : G.2.2.2 19 < (xk_s K).heap.size) (hbA : ¬ xg_A G (G.2.2.2 19)) (hRm : xk_Rm K 100 600000 7302250) {i : Int} (hi : 0 ≤ i ∧ i + 5 ≤ (L : Int)) (hL : L ≤ 320) (h : LI n tau vi vr) (hn : n ≤ 1000) (hce : cells ≤ 1000 ∧ slots ≤ 100000) (kk : ∀ (n1 : Nat) (t1 : Nat → Nat × Nat) (a1 b1 : Nat → Int → Int) (c1 : Nat → Int → Option Nat) (ce sl : Nat), LI n1 t1 a1 c1 → n1 ≤ n + 4 → (ce ≤ cells + 4 ∧ sl ≤ slots + 304) → xv G K 4 Q ce sl n1 t1 a1 b1 c1 1151 [(0, xa_r 1000019), (1, xa_r 0), (2, xa_r 31), (3, xa_i i)] []) : xv G K 4 Q cells slots n tau vi vl vr 223 [(0, xa_r 1000019), (1, xa_r 0), (2, xa_r 31), (3, xa_i i)] [] := by
  refine vx_aload_n hC 1 rfl eL_law_223 ?_
  refine vx_aload_n hC 0 rfl eL_law_224 ?_
  refine vx_iload_n hC 3 rfl eL_law_225 ?_
  refine vx_iconst hC eL_law_226 ?_
  refine vx_iadd hC eL_law_227 ?_
  refine vx_sld hC hX hbl hbA (by omega) (by omega) eL_law_228 ?_
  refine vx_callV_i hC (kX11_told G 0 _ _ _ _ _ h.1.1 (vi 32) (vi 33) (vi 31 3) (vi 31 22) (vi 44) h.2 h.1.2.1 (sx xs (i + 1)) (sx_r _ _)) ly_L_27 (ot_0 h.1.1) rfl rfl rfl hRm (by omega) (Nat.le_of_ble_eq_true rfl) rfl eL_law_229 (fun z1 n1 t1 a1 b1 c1 hz => ?_)
  obtain ⟨hz1, hc1⟩ := hz
  obtain ⟨hI1, e32, e33, e31, e44⟩ := h.mid hc1
  refine vx_aload_n hC 2 rfl eL_law_232 ?_
  refine vx_aload_n hC 0 rfl eL_law_233 ?_
  refine vx_iload_n hC 3 rfl eL_law_234 ?_
  refine vx_iconst hC eL_law_235 ?_
  refine vx_iadd hC eL_law_236 ?_
  refine vx_sld hC hX hbl hbA (by omega) (by omega) eL_law_237 ?_
  refine vx_callV_i hC (kX12_told G 0 _ _ _ _ _ hI1 (sx xs (i + 1)) (sx_r _ _)) ly_L_30 (ot_31 hI1.1) rfl rfl rfl hRm (by omega) (Nat.le_of_ble_eq_true rfl) rfl eL_law_238 (fun z2 n2 t2 a2 b2 c2 hy => ?_)
  obtain ⟨hz2, hm2⟩ := hy
  simp only [e32, e33, e31, e44] at hm2
  (try rw [e32] at hz2); (try rw [e33] at hz2); (try rw [e31] at hz2); (try rw [e44] at hz2)
  subst hz1; subst hz2
  refine vx_icmp_same hC (tgt := 1151) (by decide) eL_law_241 ?_
  obtain ⟨hL2, hn2⟩ := LI.step (vr := vr) hc1 hm2 h.1.2.1 h.1.2.2.1 h.1.2.2.2.2.1 h.1.2.2.2.2.2
  exact kk _ _ _ _ _ _ _ hL2 (by have := hc1.1; omega) (by omega)
set_option maxHeartbeats 4000000 in
set_option maxRecDepth 100000 in
theorem lc_4 {G : xg_T} {K : xk_T} {Q : State → Prop} {cells slots n : Nat} {tau : Nat → Nat × Nat} {vi vl : Nat → Int → Int} {vr : Nat → Int → Option Nat} (hC : xk_C G K cL_law RL 4) {L : Nat} {xs : Nat → Int32} (hX : va_X (G.2.2.2 19) L xs (xk_s K) (xk_s K).heap) (hbl : G.2.2.2 19 < (xk_s K).heap.size) (hbA : ¬ xg_A G (G.2.2.2 19)) (hRm : xk_Rm K 100 600000 7302250) {i : Int} (hi : 0 ≤ i ∧ i + 5 ≤ (L : Int)) (hL : L ≤ 320) (h : LI n tau vi vr) (hn : n ≤ 1000) (hce : cells ≤ 1000 ∧ slots ≤ 100000) (kk : ∀ (n1 : Nat) (t1 : Nat → Nat × Nat) (a1 b1 : Nat → Int → Int) (c1 : Nat → Int → Option Nat) (ce sl : Nat), LI n1 t1 a1 c1 → n1 ≤ n + 4 → (ce ≤ cells + 4 ∧ sl ≤ slots + 304) → xv G K 4 Q ce sl n1 t1 a1 b1 c1 1151 [(0, xa_r 1000019), (1, xa_r 0), (2, xa_r 31), (3, xa_i i)] []) : xv G K 4 Q cells slots n tau vi vl vr 246 [(0, xa_r 1000019), (1, xa_r 0), (2, xa_r 31), (3, xa_i i)] [] := by
  refine vx_aload_n hC 1 rfl eL_law_246 ?_
  refine vx_aload_n hC 0 rfl eL_law_247 ?_
  refine vx_iload_n hC 3 rfl eL_law_248 ?_
  refine vx_iconst hC eL_law_249 ?_
  refine vx_iadd hC eL_law_250 ?_
  refine vx_sld hC hX hbl hbA (by omega) (by omega) eL_law_251 ?_
  refine vx_aload_n hC 0 rfl eL_law_252 ?_
  refine vx_iload_n hC 3 rfl eL_law_253 ?_
  refine vx_iconst hC eL_law_254 ?_
  refine vx_iadd hC eL_law_255 ?_
  refine vx_sld hC hX hbl hbA (by omega) (by omega) eL_law_256 ?_
  refine vx_aload_n hC 0 rfl eL_law_257 ?_
  refine vx_iload_n hC 3 rfl eL_law_258 ?_
  refine vx_iconst hC eL_law_259 ?_
  refine vx_iadd hC eL_law_260 ?_
  refine vx_sld hC hX hbl hbA (by omega) (by omega) eL_law_261 ?_
  refine vx_aload_n hC 0 rfl eL_law_262 ?_
  refine vx_iload_n hC 3 rfl eL_law_263 ?_
  refine vx_iconst hC eL_law_264 ?_
  refine vx_iadd hC eL_law_265 ?_
  refine vx_sld hC hX hbl hbA (by omega) (by omega) eL_law_266 ?_
  refine vx_callV_i hC (kX11_player G 0 _ _ _ _ _ h.1.1 (vi 32) (vi 33) (vi 31 3) (vi 31 22) (vi 44) h.2 h.1.2.1 (by omega) (sx xs (i + 1)) (sx xs (i + 2)) (sx xs (i + 3)) (sx xs (i + 4)) (sx_r _ _) (sx_r _ _) (sx_r _ _) (sx_r _ _)) ly_L_31 (ot_0 h.1.1) rfl rfl rfl hRm (by omega) (Nat.le_of_ble_eq_true rfl) rfl eL_law_267 (fun z1 n1 t1 a1 b1 c1 hz => ?_)
  obtain ⟨hz1, hc1⟩ := hz
  obtain ⟨hI1, e32, e33, e31, e44⟩ := h.mid hc1
  refine vx_aload_n hC 2 rfl eL_law_270 ?_
  refine vx_aload_n hC 0 rfl eL_law_271 ?_
  refine vx_iload_n hC 3 rfl eL_law_272 ?_
  refine vx_iconst hC eL_law_273 ?_
  refine vx_iadd hC eL_law_274 ?_
  refine vx_sld hC hX hbl hbA (by omega) (by omega) eL_law_275 ?_
  refine vx_aload_n hC 0 rfl eL_law_276 ?_
  refine vx_iload_n hC 3 rfl eL_law_277 ?_
  refine vx_iconst hC eL_law_278 ?_
  refine vx_iadd hC eL_law_279 ?_
  refine vx_sld hC hX hbl hbA (by omega) (by omega) eL_law_280 ?_
  refine vx_aload_n hC 0 rfl eL_law_281 ?_
  refine vx_iload_n hC 3 rfl eL_law_282 ?_
  refine vx_iconst hC eL_law_283 ?_
  refine vx_iadd hC eL_law_284 ?_
  refine vx_sld hC hX hbl hbA (by omega) (by omega) eL_law_285 ?_
  refine vx_aload_n hC 0 rfl eL_law_286 ?_
  refine vx_iload_n hC 3 rfl eL_law_287 ?_
  refine vx_iconst hC eL_law_288 ?_
  refine vx_iadd hC eL_law_289 ?_
  refine vx_sld hC hX hbl hbA (by omega) (by omega) eL_law_290 ?_
  refine vx_callV_i hC (kX12_player G 0 _ _ _ _ _ hI1 (sx xs (i + 1)) (sx xs (i + 2)) (sx xs (i + 3)) (sx xs (i + 4)) (sx_r _ _) (sx_r _ _) (sx_r _ _) (sx_r _ _)) ly_L_35 (ot_31 hI1.1) rfl rfl rfl hRm (by omega) (Nat.le_of_ble_eq_true rfl) rfl eL_law_291 (fun z2 n2 t2 a2 b2 c2 hy => ?_)
  obtain ⟨hz2, hm2⟩ := hy
  simp only [e32, e33, e31, e44] at hm2
  (try rw [e32] at hz2); (try rw [e33] at hz2); (try rw [e31] at hz2); (try rw [e44] at hz2)
  subst hz1; subst hz2
  refine vx_icmp_same hC (tgt := 1151) (by decide) eL_law_294 ?_
  obtain ⟨hL2, hn2⟩ := LI.step (vr := vr) hc1 hm2 (player_V h.1.2.1) h.1.2.2.1 (player_O h.1.2.1 h.1.2.2.2.2.1) h.1.2.2.2.2.2
  exact kk _ _ _ _ _ _ _ hL2 (by have := hc1.1; omega) (by omega)
set_option maxHeartbeats 4000000 in
set_option maxRecDepth 100000 in
theorem lc_5 {G : xg_T} {K : xk_T} {Q : State → Prop} {cells slots n : Nat} {tau : Nat → Nat × Nat} {vi vl : Nat → Int → Int} {vr : Nat → Int → Option Nat} (hC : xk_C G K cL_law RL 4) {L : Nat} {xs : Nat → Int32} (hX : va_X (G.2.2.2 19) L xs (xk_s K) (xk_s K).heap) (hbl : G.2.2.2 19 < (xk_s K).heap.size) (hbA : ¬ xg_A G (G.2.2.2 19)) (hRm : xk_Rm K 100 600000 7302250) {i : Int} (hi : 0 ≤ i ∧ i + 5 ≤ (L : Int)) (hL : L ≤ 320) (h : LI n tau vi vr) (hn : n ≤ 1000) (hce : cells ≤ 1000 ∧ slots ≤ 100000) (kk : ∀ (n1 : Nat) (t1 : Nat → Nat × Nat) (a1 b1 : Nat → Int → Int) (c1 : Nat → Int → Option Nat) (ce sl : Nat), LI n1 t1 a1 c1 → n1 ≤ n + 4 → (ce ≤ cells + 4 ∧ sl ≤ slots + 304) → xv G K 4 Q ce sl n1 t1 a1 b1 c1 1151 [(0, xa_r 1000019), (1, xa_r 0), (2, xa_r 31), (3, xa_i i)] []) : xv G K 4 Q cells slots n tau vi vl vr 299 [(0, xa_r 1000019), (1, xa_r 0), (2, xa_r 31), (3, xa_i i)] [] := by
  refine vx_aload_n hC 1 rfl eL_law_299 ?_
  refine vx_aload_n hC 0 rfl eL_law_300 ?_
  refine vx_iload_n hC 3 rfl eL_law_301 ?_
  refine vx_iconst hC eL_law_302 ?_
  refine vx_iadd hC eL_law_303 ?_
  refine vx_sld hC hX hbl hbA (by omega) (by omega) eL_law_304 ?_
  refine vx_aload_n hC 0 rfl eL_law_305 ?_
  refine vx_iload_n hC 3 rfl eL_law_306 ?_
  refine vx_iconst hC eL_law_307 ?_
  refine vx_iadd hC eL_law_308 ?_
  refine vx_sld hC hX hbl hbA (by omega) (by omega) eL_law_309 ?_
  refine vx_callV_i hC (kX11_of G 0 _ _ _ _ _ h.1.1 (vi 32) (vi 33) (vi 31 3) (vi 31 22) (vi 44) h.2 h.1.2.1 (sx xs (i + 1)) (sx xs (i + 2)) (sx_r _ _) (sx_r _ _)) ly_L_36 (ot_0 h.1.1) rfl rfl rfl hRm (by omega) (Nat.le_of_ble_eq_true rfl) rfl eL_law_310 (fun z1 n1 t1 a1 b1 c1 hz => ?_)
  obtain ⟨hz1, hc1⟩ := hz
  obtain ⟨hI1, e32, e33, e31, e44⟩ := h.mid hc1
  refine vx_aload_n hC 2 rfl eL_law_313 ?_
  refine vx_aload_n hC 0 rfl eL_law_314 ?_
  refine vx_iload_n hC 3 rfl eL_law_315 ?_
  refine vx_iconst hC eL_law_316 ?_
  refine vx_iadd hC eL_law_317 ?_
  refine vx_sld hC hX hbl hbA (by omega) (by omega) eL_law_318 ?_
  refine vx_aload_n hC 0 rfl eL_law_319 ?_
  refine vx_iload_n hC 3 rfl eL_law_320 ?_
  refine vx_iconst hC eL_law_321 ?_
  refine vx_iadd hC eL_law_322 ?_
  refine vx_sld hC hX hbl hbA (by omega) (by omega) eL_law_323 ?_
  refine vx_callV_i hC (kX12_of G 0 _ _ _ _ _ hI1 (sx xs (i + 1)) (sx xs (i + 2)) (sx_r _ _) (sx_r _ _)) ly_L_40 (ot_31 hI1.1) rfl rfl rfl hRm (by omega) (Nat.le_of_ble_eq_true rfl) rfl eL_law_324 (fun z2 n2 t2 a2 b2 c2 hy => ?_)
  obtain ⟨hz2, hm2⟩ := hy
  simp only [e32, e33, e31, e44] at hm2
  (try rw [e32] at hz2); (try rw [e33] at hz2); (try rw [e31] at hz2); (try rw [e44] at hz2)
  subst hz1; subst hz2
  refine vx_icmp_same hC (tgt := 1151) (by decide) eL_law_327 ?_
  obtain ⟨hL2, hn2⟩ := LI.step (vr := vr) hc1 hm2 h.1.2.1 h.1.2.2.1 h.1.2.2.2.2.1 h.1.2.2.2.2.2
  exact kk _ _ _ _ _ _ _ hL2 (by have := hc1.1; omega) (by omega)
set_option maxHeartbeats 4000000 in
set_option maxRecDepth 100000 in
theorem lc_6 {G : xg_T} {K : xk_T} {Q : State → Prop} {cells slots n : Nat} {tau : Nat → Nat × Nat} {vi vl : Nat → Int → Int} {vr : Nat → Int → Option Nat} (hC : xk_C G K cL_law RL 4) {L : Nat} {xs : Nat → Int32} (hX : va_X (G.2.2.2 19) L xs (xk_s K) (xk_s K).heap) (hbl : G.2.2.2 19 < (xk_s K).heap.size) (hbA : ¬ xg_A G (G.2.2.2 19)) (hRm : xk_Rm K 100 600000 7302250) {i : Int} (hi : 0 ≤ i ∧ i + 5 ≤ (L : Int)) (hL : L ≤ 320) (h : LI n tau vi vr) (hn : n ≤ 1000) (hce : cells ≤ 1000 ∧ slots ≤ 100000) (kk : ∀ (n1 : Nat) (t1 : Nat → Nat × Nat) (a1 b1 : Nat → Int → Int) (c1 : Nat → Int → Option Nat) (ce sl : Nat), LI n1 t1 a1 c1 → n1 ≤ n + 4 → (ce ≤ cells + 4 ∧ sl ≤ slots + 304) → xv G K 4 Q ce sl n1 t1 a1 b1 c1 1151 [(0, xa_r 1000019), (1, xa_r 0), (2, xa_r 31), (3, xa_i i)] []) : xv G K 4 Q cells slots n tau vi vl vr 332 [(0, xa_r 1000019), (1, xa_r 0), (2, xa_r 31), (3, xa_i i)] [] := by
  refine vx_aload_n hC 1 rfl eL_law_332 ?_
  refine vx_aload_n hC 0 rfl eL_law_333 ?_
  refine vx_iload_n hC 3 rfl eL_law_334 ?_
  refine vx_iconst hC eL_law_335 ?_
  refine vx_iadd hC eL_law_336 ?_
  refine vx_sld hC hX hbl hbA (by omega) (by omega) eL_law_337 ?_
  refine vx_aload_n hC 0 rfl eL_law_338 ?_
  refine vx_iload_n hC 3 rfl eL_law_339 ?_
  refine vx_iconst hC eL_law_340 ?_
  refine vx_iadd hC eL_law_341 ?_
  refine vx_sld hC hX hbl hbA (by omega) (by omega) eL_law_342 ?_
  refine vx_callV_i hC (kX11_purse G 0 _ _ _ _ _ h.1.1 (vi 32) (vi 33) (vi 31 3) (vi 31 22) (vi 44) h.2 h.1.2.1 (sx xs (i + 1)) (sx xs (i + 2)) (sx_r _ _) (sx_r _ _)) ly_L_41 (ot_0 h.1.1) rfl rfl rfl hRm (by omega) (Nat.le_of_ble_eq_true rfl) rfl eL_law_343 (fun z1 n1 t1 a1 b1 c1 hz => ?_)
  obtain ⟨hz1, hc1⟩ := hz
  obtain ⟨hI1, e32, e33, e31, e44⟩ := h.mid hc1
  refine vx_aload_n hC 2 rfl eL_law_346 ?_
  refine vx_aload_n hC 0 rfl eL_law_347 ?_
  refine vx_iload_n hC 3 rfl eL_law_348 ?_
  refine vx_iconst hC eL_law_349 ?_
  refine vx_iadd hC eL_law_350 ?_
  refine vx_sld hC hX hbl hbA (by omega) (by omega) eL_law_351 ?_
  refine vx_aload_n hC 0 rfl eL_law_352 ?_
  refine vx_iload_n hC 3 rfl eL_law_353 ?_
  refine vx_iconst hC eL_law_354 ?_
  refine vx_iadd hC eL_law_355 ?_
  refine vx_sld hC hX hbl hbA (by omega) (by omega) eL_law_356 ?_
  refine vx_callV_i hC (kX12_purse G 0 _ _ _ _ _ hI1 (sx xs (i + 1)) (sx xs (i + 2)) (sx_r _ _) (sx_r _ _)) ly_L_44 (ot_31 hI1.1) rfl rfl rfl hRm (by omega) (Nat.le_of_ble_eq_true rfl) rfl eL_law_357 (fun z2 n2 t2 a2 b2 c2 hy => ?_)
  obtain ⟨hz2, hm2⟩ := hy
  simp only [e32, e33, e31, e44] at hm2
  (try rw [e32] at hz2); (try rw [e33] at hz2); (try rw [e31] at hz2); (try rw [e44] at hz2)
  subst hz1; subst hz2
  refine vx_icmp_same hC (tgt := 1151) (by decide) eL_law_360 ?_
  obtain ⟨hL2, hn2⟩ := LI.step (vr := vr) hc1 hm2 (purse_V h.1.2.1) h.1.2.2.1 (purse_O h.1.2.1 h.1.2.2.2.2.1) h.1.2.2.2.2.2
  exact kk _ _ _ _ _ _ _ hL2 (by have := hc1.1; omega) (by omega)
set_option maxHeartbeats 4000000 in
set_option maxRecDepth 100000 in
theorem lc_7 {G : xg_T} {K : xk_T} {Q : State → Prop} {cells slots n : Nat} {tau : Nat → Nat × Nat} {vi vl : Nat → Int → Int} {vr : Nat → Int → Option Nat} (hC : xk_C G K cL_law RL 4) {L : Nat} {xs : Nat → Int32} (hX : va_X (G.2.2.2 19) L xs (xk_s K) (xk_s K).heap) (hbl : G.2.2.2 19 < (xk_s K).heap.size) (hbA : ¬ xg_A G (G.2.2.2 19)) (hRm : xk_Rm K 100 600000 7302250) {i : Int} (hi : 0 ≤ i ∧ i + 5 ≤ (L : Int)) (hL : L ≤ 320) (h : LI n tau vi vr) (hn : n ≤ 1000) (hce : cells ≤ 1000 ∧ slots ≤ 100000) (kk : ∀ (n1 : Nat) (t1 : Nat → Nat × Nat) (a1 b1 : Nat → Int → Int) (c1 : Nat → Int → Option Nat) (ce sl : Nat), LI n1 t1 a1 c1 → n1 ≤ n + 4 → (ce ≤ cells + 4 ∧ sl ≤ slots + 304) → xv G K 4 Q ce sl n1 t1 a1 b1 c1 1151 [(0, xa_r 1000019), (1, xa_r 0), (2, xa_r 31), (3, xa_i i)] []) : xv G K 4 Q cells slots n tau vi vl vr 365 [(0, xa_r 1000019), (1, xa_r 0), (2, xa_r 31), (3, xa_i i)] [] := by
  refine vx_aload_n hC 1 rfl eL_law_365 ?_
  refine vx_aload_n hC 0 rfl eL_law_366 ?_
  refine vx_iload_n hC 3 rfl eL_law_367 ?_
  refine vx_iconst hC eL_law_368 ?_
  refine vx_iadd hC eL_law_369 ?_
  refine vx_sld hC hX hbl hbA (by omega) (by omega) eL_law_370 ?_
  refine vx_aload_n hC 0 rfl eL_law_371 ?_
  refine vx_iload_n hC 3 rfl eL_law_372 ?_
  refine vx_iconst hC eL_law_373 ?_
  refine vx_iadd hC eL_law_374 ?_
  refine vx_sld hC hX hbl hbA (by omega) (by omega) eL_law_375 ?_
  refine vx_aload_n hC 0 rfl eL_law_376 ?_
  refine vx_iload_n hC 3 rfl eL_law_377 ?_
  refine vx_iconst hC eL_law_378 ?_
  refine vx_iadd hC eL_law_379 ?_
  refine vx_sld hC hX hbl hbA (by omega) (by omega) eL_law_380 ?_
  refine vx_callV_i hC (kX11_row G 0 _ _ _ _ _ h.1.1 (vi 32) (vi 33) (vi 31 3) (vi 31 22) (vi 44) h.2 h.1.2.1 (sx xs (i + 1)) (sx xs (i + 2)) (sx xs (i + 3)) (sx_r _ _) (sx_r _ _) (sx_r _ _)) ly_L_45 (ot_0 h.1.1) rfl rfl rfl hRm (by omega) (Nat.le_of_ble_eq_true rfl) rfl eL_law_381 (fun z1 n1 t1 a1 b1 c1 hz => ?_)
  obtain ⟨hz1, hc1⟩ := hz
  obtain ⟨hI1, e32, e33, e31, e44⟩ := h.mid hc1
  refine vx_aload_n hC 2 rfl eL_law_384 ?_
  refine vx_aload_n hC 0 rfl eL_law_385 ?_
  refine vx_iload_n hC 3 rfl eL_law_386 ?_
  refine vx_iconst hC eL_law_387 ?_
  refine vx_iadd hC eL_law_388 ?_
  refine vx_sld hC hX hbl hbA (by omega) (by omega) eL_law_389 ?_
  refine vx_aload_n hC 0 rfl eL_law_390 ?_
  refine vx_iload_n hC 3 rfl eL_law_391 ?_
  refine vx_iconst hC eL_law_392 ?_
  refine vx_iadd hC eL_law_393 ?_
  refine vx_sld hC hX hbl hbA (by omega) (by omega) eL_law_394 ?_
  refine vx_aload_n hC 0 rfl eL_law_395 ?_
  refine vx_iload_n hC 3 rfl eL_law_396 ?_
  refine vx_iconst hC eL_law_397 ?_
  refine vx_iadd hC eL_law_398 ?_
  refine vx_sld hC hX hbl hbA (by omega) (by omega) eL_law_399 ?_
  refine vx_callV_i hC (kX12_row G 0 _ _ _ _ _ hI1 (sx xs (i + 1)) (sx xs (i + 2)) (sx xs (i + 3)) (sx_r _ _) (sx_r _ _) (sx_r _ _)) ly_L_49 (ot_31 hI1.1) rfl rfl rfl hRm (by omega) (Nat.le_of_ble_eq_true rfl) rfl eL_law_400 (fun z2 n2 t2 a2 b2 c2 hy => ?_)
  obtain ⟨hz2, hm2⟩ := hy
  simp only [e32, e33, e31, e44] at hm2
  (try rw [e32] at hz2); (try rw [e33] at hz2); (try rw [e31] at hz2); (try rw [e44] at hz2)
  subst hz1; subst hz2
  refine vx_icmp_same hC (tgt := 1151) (by decide) eL_law_403 ?_
  obtain ⟨hL2, hn2⟩ := LI.step (vr := vr) hc1 hm2 (row_V h.1.2.1) h.1.2.2.1 (row_O h.1.2.1 h.1.2.2.2.2.1) h.1.2.2.2.2.2
  exact kk _ _ _ _ _ _ _ hL2 (by have := hc1.1; omega) (by omega)
set_option maxHeartbeats 4000000 in
set_option maxRecDepth 100000 in
theorem lc_8 {G : xg_T} {K : xk_T} {Q : State → Prop} {cells slots n : Nat} {tau : Nat → Nat × Nat} {vi vl : Nat → Int → Int} {vr : Nat → Int → Option Nat} (hC : xk_C G K cL_law RL 4) {L : Nat} {xs : Nat → Int32} (hX : va_X (G.2.2.2 19) L xs (xk_s K) (xk_s K).heap) (hbl : G.2.2.2 19 < (xk_s K).heap.size) (hbA : ¬ xg_A G (G.2.2.2 19)) (hRm : xk_Rm K 100 600000 7302250) {i : Int} (hi : 0 ≤ i ∧ i + 5 ≤ (L : Int)) (hL : L ≤ 320) (h : LI n tau vi vr) (hn : n ≤ 1000) (hce : cells ≤ 1000 ∧ slots ≤ 100000) (kk : ∀ (n1 : Nat) (t1 : Nat → Nat × Nat) (a1 b1 : Nat → Int → Int) (c1 : Nat → Int → Option Nat) (ce sl : Nat), LI n1 t1 a1 c1 → n1 ≤ n + 4 → (ce ≤ cells + 4 ∧ sl ≤ slots + 304) → xv G K 4 Q ce sl n1 t1 a1 b1 c1 1151 [(0, xa_r 1000019), (1, xa_r 0), (2, xa_r 31), (3, xa_i i)] []) : xv G K 4 Q cells slots n tau vi vl vr 408 [(0, xa_r 1000019), (1, xa_r 0), (2, xa_r 31), (3, xa_i i)] [] := by
  refine vx_aload_n hC 1 rfl eL_law_408 ?_
  refine vx_aload_n hC 0 rfl eL_law_409 ?_
  refine vx_iload_n hC 3 rfl eL_law_410 ?_
  refine vx_iconst hC eL_law_411 ?_
  refine vx_iadd hC eL_law_412 ?_
  refine vx_sld hC hX hbl hbA (by omega) (by omega) eL_law_413 ?_
  refine vx_aload_n hC 0 rfl eL_law_414 ?_
  refine vx_iload_n hC 3 rfl eL_law_415 ?_
  refine vx_iconst hC eL_law_416 ?_
  refine vx_iadd hC eL_law_417 ?_
  refine vx_sld hC hX hbl hbA (by omega) (by omega) eL_law_418 ?_
  by_cases e0 : (sx xs (i + 2)) = 0
  · refine vx_if_eq hC (tgt := 426) (sx_r _ _) (by decide) eL_law_419 (fun _ => ?_) (fun c => absurd e0 c)
    refine vx_iconst hC eL_law_426 ?_
    refine vx_callV_i hC (kX11_play G 0 _ _ _ _ _ h.1.1 (vi 32) (vi 33) (vi 31 3) (vi 31 22) (vi 44) h.2 h.1.2.1 (sx xs (i + 1)) 0 (sx_r _ _) (Or.inl rfl)) ly_L_50 (ot_0 h.1.1) rfl rfl rfl hRm (by omega) (Nat.le_of_ble_eq_true rfl) rfl eL_law_427 (fun z1 n1 t1 a1 b1 c1 hz => ?_)
    obtain ⟨hz1, hc1⟩ := hz
    obtain ⟨hI1, e32, e33, e31, e44⟩ := h.mid hc1
    refine vx_aload_n hC 2 rfl eL_law_430 ?_
    refine vx_aload_n hC 0 rfl eL_law_431 ?_
    refine vx_iload_n hC 3 rfl eL_law_432 ?_
    refine vx_iconst hC eL_law_433 ?_
    refine vx_iadd hC eL_law_434 ?_
    refine vx_sld hC hX hbl hbA (by omega) (by omega) eL_law_435 ?_
    refine vx_aload_n hC 0 rfl eL_law_436 ?_
    refine vx_iload_n hC 3 rfl eL_law_437 ?_
    refine vx_iconst hC eL_law_438 ?_
    refine vx_iadd hC eL_law_439 ?_
    refine vx_sld hC hX hbl hbA (by omega) (by omega) eL_law_440 ?_
    refine vx_if_eq hC (tgt := 448) (sx_r _ _) (by decide) eL_law_441 (fun _ => ?_) (fun c => absurd e0 c)
    refine vx_iconst hC eL_law_448 ?_
    refine vx_callV_i hC (kX12_play G 0 _ _ _ _ _ hI1 (sx xs (i + 1)) 0 (sx_r _ _) (Or.inl rfl)) ly_L_54 (ot_31 hI1.1) rfl rfl rfl hRm (by omega) (Nat.le_of_ble_eq_true rfl) rfl eL_law_449 (fun z2 n2 t2 a2 b2 c2 hy => ?_)
    obtain ⟨hz2, hm2⟩ := hy
    simp only [e32, e33, e31, e44] at hm2
    (try rw [e32] at hz2); (try rw [e33] at hz2); (try rw [e31] at hz2); (try rw [e44] at hz2)
    subst hz1; subst hz2
    refine vx_icmp_same hC (tgt := 1151) (by decide) eL_law_452 ?_
    obtain ⟨hL2, hn2⟩ := LI.step (vr := vr) hc1 hm2 (play_V h.1.2.1) h.1.2.2.1 (play_O h.1.2.1 h.1.2.2.2.2.1) h.1.2.2.2.2.2
    exact kk _ _ _ _ _ _ _ hL2 (by have := hc1.1; omega) (by omega)
  · refine vx_if_eq hC (tgt := 426) (sx_r _ _) (by decide) eL_law_419 (fun c => absurd c e0) (fun _ => ?_)
    refine vx_iconst hC eL_law_422 ?_
    refine vx_goto hC (tgt := 427) (by decide) eL_law_423 ?_
    refine vx_callV_i hC (kX11_play G 0 _ _ _ _ _ h.1.1 (vi 32) (vi 33) (vi 31 3) (vi 31 22) (vi 44) h.2 h.1.2.1 (sx xs (i + 1)) 1 (sx_r _ _) (Or.inr rfl)) ly_L_50 (ot_0 h.1.1) rfl rfl rfl hRm (by omega) (Nat.le_of_ble_eq_true rfl) rfl eL_law_427 (fun z1 n1 t1 a1 b1 c1 hz => ?_)
    obtain ⟨hz1, hc1⟩ := hz
    obtain ⟨hI1, e32, e33, e31, e44⟩ := h.mid hc1
    refine vx_aload_n hC 2 rfl eL_law_430 ?_
    refine vx_aload_n hC 0 rfl eL_law_431 ?_
    refine vx_iload_n hC 3 rfl eL_law_432 ?_
    refine vx_iconst hC eL_law_433 ?_
    refine vx_iadd hC eL_law_434 ?_
    refine vx_sld hC hX hbl hbA (by omega) (by omega) eL_law_435 ?_
    refine vx_aload_n hC 0 rfl eL_law_436 ?_
    refine vx_iload_n hC 3 rfl eL_law_437 ?_
    refine vx_iconst hC eL_law_438 ?_
    refine vx_iadd hC eL_law_439 ?_
    refine vx_sld hC hX hbl hbA (by omega) (by omega) eL_law_440 ?_
    refine vx_if_eq hC (tgt := 448) (sx_r _ _) (by decide) eL_law_441 (fun c => absurd c e0) (fun _ => ?_)
    refine vx_iconst hC eL_law_444 ?_
    refine vx_goto hC (tgt := 449) (by decide) eL_law_445 ?_
    refine vx_callV_i hC (kX12_play G 0 _ _ _ _ _ hI1 (sx xs (i + 1)) 1 (sx_r _ _) (Or.inr rfl)) ly_L_54 (ot_31 hI1.1) rfl rfl rfl hRm (by omega) (Nat.le_of_ble_eq_true rfl) rfl eL_law_449 (fun z2 n2 t2 a2 b2 c2 hy => ?_)
    obtain ⟨hz2, hm2⟩ := hy
    simp only [e32, e33, e31, e44] at hm2
    (try rw [e32] at hz2); (try rw [e33] at hz2); (try rw [e31] at hz2); (try rw [e44] at hz2)
    subst hz1; subst hz2
    refine vx_icmp_same hC (tgt := 1151) (by decide) eL_law_452 ?_
    obtain ⟨hL2, hn2⟩ := LI.step (vr := vr) hc1 hm2 (play_V h.1.2.1) h.1.2.2.1 (play_O h.1.2.1 h.1.2.2.2.2.1) h.1.2.2.2.2.2
    exact kk _ _ _ _ _ _ _ hL2 (by have := hc1.1; omega) (by omega)
set_option maxHeartbeats 4000000 in
set_option maxRecDepth 100000 in
theorem lc_9 {G : xg_T} {K : xk_T} {Q : State → Prop} {cells slots n : Nat} {tau : Nat → Nat × Nat} {vi vl : Nat → Int → Int} {vr : Nat → Int → Option Nat} (hC : xk_C G K cL_law RL 4) {L : Nat} {xs : Nat → Int32} (hX : va_X (G.2.2.2 19) L xs (xk_s K) (xk_s K).heap) (hbl : G.2.2.2 19 < (xk_s K).heap.size) (hbA : ¬ xg_A G (G.2.2.2 19)) (hRm : xk_Rm K 100 600000 7302250) {i : Int} (hi : 0 ≤ i ∧ i + 5 ≤ (L : Int)) (hL : L ≤ 320) (h : LI n tau vi vr) (hn : n ≤ 1000) (hce : cells ≤ 1000 ∧ slots ≤ 100000) (kk : ∀ (n1 : Nat) (t1 : Nat → Nat × Nat) (a1 b1 : Nat → Int → Int) (c1 : Nat → Int → Option Nat) (ce sl : Nat), LI n1 t1 a1 c1 → n1 ≤ n + 4 → (ce ≤ cells + 4 ∧ sl ≤ slots + 304) → xv G K 4 Q ce sl n1 t1 a1 b1 c1 1151 [(0, xa_r 1000019), (1, xa_r 0), (2, xa_r 31), (3, xa_i i)] []) : xv G K 4 Q cells slots n tau vi vl vr 457 [(0, xa_r 1000019), (1, xa_r 0), (2, xa_r 31), (3, xa_i i)] [] := by
  refine vx_aload_n hC 1 rfl eL_law_457 ?_
  refine vx_aload_n hC 0 rfl eL_law_458 ?_
  refine vx_iload_n hC 3 rfl eL_law_459 ?_
  refine vx_iconst hC eL_law_460 ?_
  refine vx_iadd hC eL_law_461 ?_
  refine vx_sld hC hX hbl hbA (by omega) (by omega) eL_law_462 ?_
  refine vx_aload_n hC 0 rfl eL_law_463 ?_
  refine vx_iload_n hC 3 rfl eL_law_464 ?_
  refine vx_iconst hC eL_law_465 ?_
  refine vx_iadd hC eL_law_466 ?_
  refine vx_sld hC hX hbl hbA (by omega) (by omega) eL_law_467 ?_
  refine vx_aload_n hC 0 rfl eL_law_468 ?_
  refine vx_iload_n hC 3 rfl eL_law_469 ?_
  refine vx_iconst hC eL_law_470 ?_
  refine vx_iadd hC eL_law_471 ?_
  refine vx_sld hC hX hbl hbA (by omega) (by omega) eL_law_472 ?_
  refine vx_aload_n hC 0 rfl eL_law_473 ?_
  refine vx_iload_n hC 3 rfl eL_law_474 ?_
  refine vx_iconst hC eL_law_475 ?_
  refine vx_iadd hC eL_law_476 ?_
  refine vx_sld hC hX hbl hbA (by omega) (by omega) eL_law_477 ?_
  refine vx_callV_l hC (kX11_within G 0 _ _ _ _ _ h.1.1 (vi 32) (vi 33) (vi 31 3) (vi 31 22) (vi 44) h.2 h.1.2.1 (sx xs (i + 1)) (sx xs (i + 2)) (sx xs (i + 3)) (sx xs (i + 4)) (sx_r _ _) (sx_r _ _) (sx_r _ _) (sx_r _ _)) ly_L_55 (ot_0 h.1.1) rfl rfl rfl hRm (by omega) (Nat.le_of_ble_eq_true rfl) rfl eL_law_478 (fun z1 n1 t1 a1 b1 c1 hz => ?_)
  obtain ⟨hz1, hc1⟩ := hz
  obtain ⟨hI1, e32, e33, e31, e44⟩ := h.mid hc1
  refine vx_aload_n hC 2 rfl eL_law_481 ?_
  refine vx_aload_n hC 0 rfl eL_law_482 ?_
  refine vx_iload_n hC 3 rfl eL_law_483 ?_
  refine vx_iconst hC eL_law_484 ?_
  refine vx_iadd hC eL_law_485 ?_
  refine vx_sld hC hX hbl hbA (by omega) (by omega) eL_law_486 ?_
  refine vx_aload_n hC 0 rfl eL_law_487 ?_
  refine vx_iload_n hC 3 rfl eL_law_488 ?_
  refine vx_iconst hC eL_law_489 ?_
  refine vx_iadd hC eL_law_490 ?_
  refine vx_sld hC hX hbl hbA (by omega) (by omega) eL_law_491 ?_
  refine vx_aload_n hC 0 rfl eL_law_492 ?_
  refine vx_iload_n hC 3 rfl eL_law_493 ?_
  refine vx_iconst hC eL_law_494 ?_
  refine vx_iadd hC eL_law_495 ?_
  refine vx_sld hC hX hbl hbA (by omega) (by omega) eL_law_496 ?_
  refine vx_aload_n hC 0 rfl eL_law_497 ?_
  refine vx_iload_n hC 3 rfl eL_law_498 ?_
  refine vx_iconst hC eL_law_499 ?_
  refine vx_iadd hC eL_law_500 ?_
  refine vx_sld hC hX hbl hbA (by omega) (by omega) eL_law_501 ?_
  refine vx_callV_l hC (kX12_within G 0 _ _ _ _ _ hI1 (sx xs (i + 1)) (sx xs (i + 2)) (sx xs (i + 3)) (sx xs (i + 4)) (sx_r _ _) (sx_r _ _) (sx_r _ _) (sx_r _ _)) ly_L_59 (ot_31 hI1.1) rfl rfl rfl hRm (by omega) (Nat.le_of_ble_eq_true rfl) rfl eL_law_502 (fun z2 n2 t2 a2 b2 c2 hy => ?_)
  obtain ⟨hz2, hm2⟩ := hy
  simp only [e32, e33, e31, e44] at hm2
  (try rw [e32] at hz2); (try rw [e33] at hz2); (try rw [e31] at hz2); (try rw [e44] at hz2)
  subst hz1; subst hz2
  refine vx_lcmp_same hC eL_law_505 ?_
  refine vx_if_eq hC (tgt := 1151) (by omega) (by decide) eL_law_506 (fun _ => ?_) (fun c => absurd rfl c)
  obtain ⟨hL2, hn2⟩ := LI.step (vr := vr) hc1 hm2 h.1.2.1 h.1.2.2.1 h.1.2.2.2.2.1 h.1.2.2.2.2.2
  exact kk _ _ _ _ _ _ _ hL2 (by have := hc1.1; omega) (by omega)
set_option maxHeartbeats 4000000 in
set_option maxRecDepth 100000 in
theorem lc_10 {G : xg_T} {K : xk_T} {Q : State → Prop} {cells slots n : Nat} {tau : Nat → Nat × Nat} {vi vl : Nat → Int → Int} {vr : Nat → Int → Option Nat} (hC : xk_C G K cL_law RL 4) {L : Nat} {xs : Nat → Int32} (hX : va_X (G.2.2.2 19) L xs (xk_s K) (xk_s K).heap) (hbl : G.2.2.2 19 < (xk_s K).heap.size) (hbA : ¬ xg_A G (G.2.2.2 19)) (hRm : xk_Rm K 100 600000 7302250) {i : Int} (hi : 0 ≤ i ∧ i + 5 ≤ (L : Int)) (hL : L ≤ 320) (h : LI n tau vi vr) (hn : n ≤ 1000) (hce : cells ≤ 1000 ∧ slots ≤ 100000) (kk : ∀ (n1 : Nat) (t1 : Nat → Nat × Nat) (a1 b1 : Nat → Int → Int) (c1 : Nat → Int → Option Nat) (ce sl : Nat), LI n1 t1 a1 c1 → n1 ≤ n + 4 → (ce ≤ cells + 4 ∧ sl ≤ slots + 304) → xv G K 4 Q ce sl n1 t1 a1 b1 c1 1151 [(0, xa_r 1000019), (1, xa_r 0), (2, xa_r 31), (3, xa_i i)] []) : xv G K 4 Q cells slots n tau vi vl vr 511 [(0, xa_r 1000019), (1, xa_r 0), (2, xa_r 31), (3, xa_i i)] [] := by
  refine vx_aload_n hC 1 rfl eL_law_511 ?_
  refine vx_aload_n hC 0 rfl eL_law_512 ?_
  refine vx_iload_n hC 3 rfl eL_law_513 ?_
  refine vx_iconst hC eL_law_514 ?_
  refine vx_iadd hC eL_law_515 ?_
  refine vx_sld hC hX hbl hbA (by omega) (by omega) eL_law_516 ?_
  refine vx_aload_n hC 0 rfl eL_law_517 ?_
  refine vx_iload_n hC 3 rfl eL_law_518 ?_
  refine vx_iconst hC eL_law_519 ?_
  refine vx_iadd hC eL_law_520 ?_
  refine vx_sld hC hX hbl hbA (by omega) (by omega) eL_law_521 ?_
  refine vx_aload_n hC 0 rfl eL_law_522 ?_
  refine vx_iload_n hC 3 rfl eL_law_523 ?_
  refine vx_iconst hC eL_law_524 ?_
  refine vx_iadd hC eL_law_525 ?_
  refine vx_sld hC hX hbl hbA (by omega) (by omega) eL_law_526 ?_
  refine vx_callV_l hC (kX11_lasts G 0 _ _ _ _ _ h.1.1 (vi 32) (vi 33) (vi 31 3) (vi 31 22) (vi 44) h.2 h.1.2.1 (sx xs (i + 1)) (sx xs (i + 2)) (sx xs (i + 3)) (sx_r _ _) (sx_r _ _) (sx_r _ _)) ly_L_60 (ot_0 h.1.1) rfl rfl rfl hRm (by omega) (Nat.le_of_ble_eq_true rfl) rfl eL_law_527 (fun z1 n1 t1 a1 b1 c1 hz => ?_)
  obtain ⟨hz1, hc1⟩ := hz
  obtain ⟨hI1, e32, e33, e31, e44⟩ := h.mid hc1
  refine vx_aload_n hC 2 rfl eL_law_530 ?_
  refine vx_aload_n hC 0 rfl eL_law_531 ?_
  refine vx_iload_n hC 3 rfl eL_law_532 ?_
  refine vx_iconst hC eL_law_533 ?_
  refine vx_iadd hC eL_law_534 ?_
  refine vx_sld hC hX hbl hbA (by omega) (by omega) eL_law_535 ?_
  refine vx_aload_n hC 0 rfl eL_law_536 ?_
  refine vx_iload_n hC 3 rfl eL_law_537 ?_
  refine vx_iconst hC eL_law_538 ?_
  refine vx_iadd hC eL_law_539 ?_
  refine vx_sld hC hX hbl hbA (by omega) (by omega) eL_law_540 ?_
  refine vx_aload_n hC 0 rfl eL_law_541 ?_
  refine vx_iload_n hC 3 rfl eL_law_542 ?_
  refine vx_iconst hC eL_law_543 ?_
  refine vx_iadd hC eL_law_544 ?_
  refine vx_sld hC hX hbl hbA (by omega) (by omega) eL_law_545 ?_
  refine vx_callV_l hC (kX12_lasts G 0 _ _ _ _ _ hI1 (sx xs (i + 1)) (sx xs (i + 2)) (sx xs (i + 3)) (sx_r _ _) (sx_r _ _) (sx_r _ _)) ly_L_64 (ot_31 hI1.1) rfl rfl rfl hRm (by omega) (Nat.le_of_ble_eq_true rfl) rfl eL_law_546 (fun z2 n2 t2 a2 b2 c2 hy => ?_)
  obtain ⟨hz2, hm2⟩ := hy
  simp only [e32, e33, e31, e44] at hm2
  (try rw [e32] at hz2); (try rw [e33] at hz2); (try rw [e31] at hz2); (try rw [e44] at hz2)
  subst hz1; subst hz2
  refine vx_lcmp_same hC eL_law_549 ?_
  refine vx_if_eq hC (tgt := 1151) (by omega) (by decide) eL_law_550 (fun _ => ?_) (fun c => absurd rfl c)
  obtain ⟨hL2, hn2⟩ := LI.step (vr := vr) hc1 hm2 h.1.2.1 h.1.2.2.1 h.1.2.2.2.2.1 h.1.2.2.2.2.2
  exact kk _ _ _ _ _ _ _ hL2 (by have := hc1.1; omega) (by omega)
set_option maxHeartbeats 4000000 in
set_option maxRecDepth 100000 in
theorem lc_11 {G : xg_T} {K : xk_T} {Q : State → Prop} {cells slots n : Nat} {tau : Nat → Nat × Nat} {vi vl : Nat → Int → Int} {vr : Nat → Int → Option Nat} (hC : xk_C G K cL_law RL 4) {L : Nat} {xs : Nat → Int32} (hX : va_X (G.2.2.2 19) L xs (xk_s K) (xk_s K).heap) (hbl : G.2.2.2 19 < (xk_s K).heap.size) (hbA : ¬ xg_A G (G.2.2.2 19)) (hRm : xk_Rm K 100 600000 7302250) {i : Int} (hi : 0 ≤ i ∧ i + 5 ≤ (L : Int)) (hL : L ≤ 320) (h : LI n tau vi vr) (hn : n ≤ 1000) (hce : cells ≤ 1000 ∧ slots ≤ 100000) (kk : ∀ (n1 : Nat) (t1 : Nat → Nat × Nat) (a1 b1 : Nat → Int → Int) (c1 : Nat → Int → Option Nat) (ce sl : Nat), LI n1 t1 a1 c1 → n1 ≤ n + 4 → (ce ≤ cells + 4 ∧ sl ≤ slots + 304) → xv G K 4 Q ce sl n1 t1 a1 b1 c1 1151 [(0, xa_r 1000019), (1, xa_r 0), (2, xa_r 31), (3, xa_i i)] []) : xv G K 4 Q cells slots n tau vi vl vr 555 [(0, xa_r 1000019), (1, xa_r 0), (2, xa_r 31), (3, xa_i i)] [] := by
  refine vx_aload_n hC 1 rfl eL_law_555 ?_
  refine vx_aload_n hC 0 rfl eL_law_556 ?_
  refine vx_iload_n hC 3 rfl eL_law_557 ?_
  refine vx_iconst hC eL_law_558 ?_
  refine vx_iadd hC eL_law_559 ?_
  refine vx_sld hC hX hbl hbA (by omega) (by omega) eL_law_560 ?_
  refine vx_aload_n hC 0 rfl eL_law_561 ?_
  refine vx_iload_n hC 3 rfl eL_law_562 ?_
  refine vx_iconst hC eL_law_563 ?_
  refine vx_iadd hC eL_law_564 ?_
  refine vx_sld hC hX hbl hbA (by omega) (by omega) eL_law_565 ?_
  refine vx_aload_n hC 0 rfl eL_law_566 ?_
  refine vx_iload_n hC 3 rfl eL_law_567 ?_
  refine vx_iconst hC eL_law_568 ?_
  refine vx_iadd hC eL_law_569 ?_
  refine vx_sld hC hX hbl hbA (by omega) (by omega) eL_law_570 ?_
  refine vx_callV_l hC (kX11_mean G 0 _ _ _ _ _ h.1.1 (vi 32) (vi 33) (vi 31 3) (vi 31 22) (vi 44) h.2 h.1.2.1 (sx xs (i + 1)) (sx xs (i + 2)) (sx xs (i + 3)) (sx_r _ _) (sx_r _ _) (sx_r _ _)) ly_L_65 (ot_0 h.1.1) rfl rfl rfl hRm (by omega) (Nat.le_of_ble_eq_true rfl) rfl eL_law_571 (fun z1 n1 t1 a1 b1 c1 hz => ?_)
  obtain ⟨hz1, hc1⟩ := hz
  obtain ⟨hI1, e32, e33, e31, e44⟩ := h.mid hc1
  refine vx_aload_n hC 2 rfl eL_law_574 ?_
  refine vx_aload_n hC 0 rfl eL_law_575 ?_
  refine vx_iload_n hC 3 rfl eL_law_576 ?_
  refine vx_iconst hC eL_law_577 ?_
  refine vx_iadd hC eL_law_578 ?_
  refine vx_sld hC hX hbl hbA (by omega) (by omega) eL_law_579 ?_
  refine vx_aload_n hC 0 rfl eL_law_580 ?_
  refine vx_iload_n hC 3 rfl eL_law_581 ?_
  refine vx_iconst hC eL_law_582 ?_
  refine vx_iadd hC eL_law_583 ?_
  refine vx_sld hC hX hbl hbA (by omega) (by omega) eL_law_584 ?_
  refine vx_aload_n hC 0 rfl eL_law_585 ?_
  refine vx_iload_n hC 3 rfl eL_law_586 ?_
  refine vx_iconst hC eL_law_587 ?_
  refine vx_iadd hC eL_law_588 ?_
  refine vx_sld hC hX hbl hbA (by omega) (by omega) eL_law_589 ?_
  refine vx_callV_l hC (kX12_mean G 0 _ _ _ _ _ hI1 (sx xs (i + 1)) (sx xs (i + 2)) (sx xs (i + 3)) (sx_r _ _) (sx_r _ _) (sx_r _ _)) ly_L_68 (ot_31 hI1.1) rfl rfl rfl hRm (by omega) (Nat.le_of_ble_eq_true rfl) rfl eL_law_590 (fun z2 n2 t2 a2 b2 c2 hy => ?_)
  obtain ⟨hz2, hm2⟩ := hy
  simp only [e32, e33, e31, e44] at hm2
  (try rw [e32] at hz2); (try rw [e33] at hz2); (try rw [e31] at hz2); (try rw [e44] at hz2)
  subst hz1; subst hz2
  refine vx_lcmp_same hC eL_law_593 ?_
  refine vx_if_eq hC (tgt := 1151) (by omega) (by decide) eL_law_594 (fun _ => ?_) (fun c => absurd rfl c)
  obtain ⟨hL2, hn2⟩ := LI.step (vr := vr) hc1 hm2 h.1.2.1 h.1.2.2.1 h.1.2.2.2.2.1 h.1.2.2.2.2.2
  exact kk _ _ _ _ _ _ _ hL2 (by have := hc1.1; omega) (by omega)
set_option maxHeartbeats 4000000 in
set_option maxRecDepth 100000 in
theorem lc_12 {G : xg_T} {K : xk_T} {Q : State → Prop} {cells slots n : Nat} {tau : Nat → Nat × Nat} {vi vl : Nat → Int → Int} {vr : Nat → Int → Option Nat} (hC : xk_C G K cL_law RL 4) {L : Nat} {xs : Nat → Int32} (hX : va_X (G.2.2.2 19) L xs (xk_s K) (xk_s K).heap) (hbl : G.2.2.2 19 < (xk_s K).heap.size) (hbA : ¬ xg_A G (G.2.2.2 19)) (hRm : xk_Rm K 100 600000 7302250) {i : Int} (hi : 0 ≤ i ∧ i + 5 ≤ (L : Int)) (hL : L ≤ 320) (h : LI n tau vi vr) (hn : n ≤ 1000) (hce : cells ≤ 1000 ∧ slots ≤ 100000) (kk : ∀ (n1 : Nat) (t1 : Nat → Nat × Nat) (a1 b1 : Nat → Int → Int) (c1 : Nat → Int → Option Nat) (ce sl : Nat), LI n1 t1 a1 c1 → n1 ≤ n + 4 → (ce ≤ cells + 4 ∧ sl ≤ slots + 304) → xv G K 4 Q ce sl n1 t1 a1 b1 c1 1151 [(0, xa_r 1000019), (1, xa_r 0), (2, xa_r 31), (3, xa_i i)] []) : xv G K 4 Q cells slots n tau vi vl vr 599 [(0, xa_r 1000019), (1, xa_r 0), (2, xa_r 31), (3, xa_i i)] [] := by
  refine vx_aload_n hC 1 rfl eL_law_599 ?_
  refine vx_aload_n hC 0 rfl eL_law_600 ?_
  refine vx_iload_n hC 3 rfl eL_law_601 ?_
  refine vx_iconst hC eL_law_602 ?_
  refine vx_iadd hC eL_law_603 ?_
  refine vx_sld hC hX hbl hbA (by omega) (by omega) eL_law_604 ?_
  refine vx_aload_n hC 0 rfl eL_law_605 ?_
  refine vx_iload_n hC 3 rfl eL_law_606 ?_
  refine vx_iconst hC eL_law_607 ?_
  refine vx_iadd hC eL_law_608 ?_
  refine vx_sld hC hX hbl hbA (by omega) (by omega) eL_law_609 ?_
  refine vx_callV_l hC (kX11_ever G 0 _ _ _ _ _ h.1.1 (vi 32) (vi 33) (vi 31 3) (vi 31 22) (vi 44) h.2 h.1.2.1 (sx xs (i + 1)) (sx xs (i + 2)) (sx_r _ _) (sx_r _ _)) ly_L_69 (ot_0 h.1.1) rfl rfl rfl hRm (by omega) (Nat.le_of_ble_eq_true rfl) rfl eL_law_610 (fun z1 n1 t1 a1 b1 c1 hz => ?_)
  obtain ⟨hz1, hc1⟩ := hz
  obtain ⟨hI1, e32, e33, e31, e44⟩ := h.mid hc1
  refine vx_aload_n hC 2 rfl eL_law_613 ?_
  refine vx_aload_n hC 0 rfl eL_law_614 ?_
  refine vx_iload_n hC 3 rfl eL_law_615 ?_
  refine vx_iconst hC eL_law_616 ?_
  refine vx_iadd hC eL_law_617 ?_
  refine vx_sld hC hX hbl hbA (by omega) (by omega) eL_law_618 ?_
  refine vx_aload_n hC 0 rfl eL_law_619 ?_
  refine vx_iload_n hC 3 rfl eL_law_620 ?_
  refine vx_iconst hC eL_law_621 ?_
  refine vx_iadd hC eL_law_622 ?_
  refine vx_sld hC hX hbl hbA (by omega) (by omega) eL_law_623 ?_
  refine vx_callV_l hC (kX12_ever G 0 _ _ _ _ _ hI1 (sx xs (i + 1)) (sx xs (i + 2)) (sx_r _ _) (sx_r _ _)) ly_L_73 (ot_31 hI1.1) rfl rfl rfl hRm (by omega) (Nat.le_of_ble_eq_true rfl) rfl eL_law_624 (fun z2 n2 t2 a2 b2 c2 hy => ?_)
  obtain ⟨hz2, hm2⟩ := hy
  simp only [e32, e33, e31, e44] at hm2
  (try rw [e32] at hz2); (try rw [e33] at hz2); (try rw [e31] at hz2); (try rw [e44] at hz2)
  subst hz1; subst hz2
  refine vx_lcmp_same hC eL_law_627 ?_
  refine vx_if_eq hC (tgt := 1151) (by omega) (by decide) eL_law_628 (fun _ => ?_) (fun c => absurd rfl c)
  obtain ⟨hL2, hn2⟩ := LI.step (vr := vr) hc1 hm2 h.1.2.1 h.1.2.2.1 h.1.2.2.2.2.1 h.1.2.2.2.2.2
  exact kk _ _ _ _ _ _ _ hL2 (by have := hc1.1; omega) (by omega)
set_option maxHeartbeats 4000000 in
set_option maxRecDepth 100000 in
theorem lc_13 {G : xg_T} {K : xk_T} {Q : State → Prop} {cells slots n : Nat} {tau : Nat → Nat × Nat} {vi vl : Nat → Int → Int} {vr : Nat → Int → Option Nat} (hC : xk_C G K cL_law RL 4) {L : Nat} {xs : Nat → Int32} (hX : va_X (G.2.2.2 19) L xs (xk_s K) (xk_s K).heap) (hbl : G.2.2.2 19 < (xk_s K).heap.size) (hbA : ¬ xg_A G (G.2.2.2 19)) (hRm : xk_Rm K 100 600000 7302250) {i : Int} (hi : 0 ≤ i ∧ i + 5 ≤ (L : Int)) (hL : L ≤ 320) (h : LI n tau vi vr) (hn : n ≤ 1000) (hce : cells ≤ 1000 ∧ slots ≤ 100000) (kk : ∀ (n1 : Nat) (t1 : Nat → Nat × Nat) (a1 b1 : Nat → Int → Int) (c1 : Nat → Int → Option Nat) (ce sl : Nat), LI n1 t1 a1 c1 → n1 ≤ n + 4 → (ce ≤ cells + 4 ∧ sl ≤ slots + 304) → xv G K 4 Q ce sl n1 t1 a1 b1 c1 1151 [(0, xa_r 1000019), (1, xa_r 0), (2, xa_r 31), (3, xa_i i)] []) : xv G K 4 Q cells slots n tau vi vl vr 633 [(0, xa_r 1000019), (1, xa_r 0), (2, xa_r 31), (3, xa_i i)] [] := by
  refine vx_aload_n hC 1 rfl eL_law_633 ?_
  refine vx_aload_n hC 0 rfl eL_law_634 ?_
  refine vx_iload_n hC 3 rfl eL_law_635 ?_
  refine vx_iconst hC eL_law_636 ?_
  refine vx_iadd hC eL_law_637 ?_
  refine vx_sld hC hX hbl hbA (by omega) (by omega) eL_law_638 ?_
  refine vx_aload_n hC 0 rfl eL_law_639 ?_
  refine vx_iload_n hC 3 rfl eL_law_640 ?_
  refine vx_iconst hC eL_law_641 ?_
  refine vx_iadd hC eL_law_642 ?_
  refine vx_sld hC hX hbl hbA (by omega) (by omega) eL_law_643 ?_
  refine vx_callV_i hC (kX11_best G 0 _ _ _ _ _ h.1.1 (vi 32) (vi 33) (vi 31 3) (vi 31 22) (vi 44) h.2 h.1.2.1 (sx xs (i + 1)) (sx xs (i + 2)) (sx_r _ _) (sx_r _ _)) ly_L_74 (ot_0 h.1.1) rfl rfl rfl hRm (by omega) (Nat.le_of_ble_eq_true rfl) rfl eL_law_644 (fun z1 n1 t1 a1 b1 c1 hz => ?_)
  obtain ⟨hz1, hc1⟩ := hz
  obtain ⟨hI1, e32, e33, e31, e44⟩ := h.mid hc1
  refine vx_aload_n hC 2 rfl eL_law_647 ?_
  refine vx_aload_n hC 0 rfl eL_law_648 ?_
  refine vx_iload_n hC 3 rfl eL_law_649 ?_
  refine vx_iconst hC eL_law_650 ?_
  refine vx_iadd hC eL_law_651 ?_
  refine vx_sld hC hX hbl hbA (by omega) (by omega) eL_law_652 ?_
  refine vx_aload_n hC 0 rfl eL_law_653 ?_
  refine vx_iload_n hC 3 rfl eL_law_654 ?_
  refine vx_iconst hC eL_law_655 ?_
  refine vx_iadd hC eL_law_656 ?_
  refine vx_sld hC hX hbl hbA (by omega) (by omega) eL_law_657 ?_
  refine vx_callV_i hC (kX12_best G 0 _ _ _ _ _ hI1 (sx xs (i + 1)) (sx xs (i + 2)) (sx_r _ _) (sx_r _ _)) ly_L_77 (ot_31 hI1.1) rfl rfl rfl hRm (by omega) (Nat.le_of_ble_eq_true rfl) rfl eL_law_658 (fun z2 n2 t2 a2 b2 c2 hy => ?_)
  obtain ⟨hz2, hm2⟩ := hy
  simp only [e32, e33, e31, e44] at hm2
  (try rw [e32] at hz2); (try rw [e33] at hz2); (try rw [e31] at hz2); (try rw [e44] at hz2)
  subst hz1; subst hz2
  refine vx_icmp_same hC (tgt := 1151) (by decide) eL_law_661 ?_
  obtain ⟨hL2, hn2⟩ := LI.step (vr := vr) hc1 hm2 h.1.2.1 h.1.2.2.1 h.1.2.2.2.2.1 h.1.2.2.2.2.2
  exact kk _ _ _ _ _ _ _ hL2 (by have := hc1.1; omega) (by omega)
set_option maxHeartbeats 4000000 in
set_option maxRecDepth 100000 in
theorem lc_14 {G : xg_T} {K : xk_T} {Q : State → Prop} {cells slots n : Nat} {tau : Nat → Nat × Nat} {vi vl : Nat → Int → Int} {vr : Nat → Int → Option Nat} (hC : xk_C G K cL_law RL 4) {L : Nat} {xs : Nat → Int32} (hX : va_X (G.2.2.2 19) L xs (xk_s K) (xk_s K).heap) (hbl : G.2.2.2 19 < (xk_s K).heap.size) (hbA : ¬ xg_A G (G.2.2.2 19)) (hRm : xk_Rm K 100 600000 7302250) {i : Int} (hi : 0 ≤ i ∧ i + 5 ≤ (L : Int)) (hL : L ≤ 320) (h : LI n tau vi vr) (hn : n ≤ 1000) (hce : cells ≤ 1000 ∧ slots ≤ 100000) (kk : ∀ (n1 : Nat) (t1 : Nat → Nat × Nat) (a1 b1 : Nat → Int → Int) (c1 : Nat → Int → Option Nat) (ce sl : Nat), LI n1 t1 a1 c1 → n1 ≤ n + 4 → (ce ≤ cells + 4 ∧ sl ≤ slots + 304) → xv G K 4 Q ce sl n1 t1 a1 b1 c1 1151 [(0, xa_r 1000019), (1, xa_r 0), (2, xa_r 31), (3, xa_i i)] []) : xv G K 4 Q cells slots n tau vi vl vr 666 [(0, xa_r 1000019), (1, xa_r 0), (2, xa_r 31), (3, xa_i i)] [] := by
  refine vx_aload_n hC 1 rfl eL_law_666 ?_
  refine vx_aload_n hC 0 rfl eL_law_667 ?_
  refine vx_iload_n hC 3 rfl eL_law_668 ?_
  refine vx_iconst hC eL_law_669 ?_
  refine vx_iadd hC eL_law_670 ?_
  refine vx_sld hC hX hbl hbA (by omega) (by omega) eL_law_671 ?_
  refine vx_aload_n hC 0 rfl eL_law_672 ?_
  refine vx_iload_n hC 3 rfl eL_law_673 ?_
  refine vx_iconst hC eL_law_674 ?_
  refine vx_iadd hC eL_law_675 ?_
  refine vx_sld hC hX hbl hbA (by omega) (by omega) eL_law_676 ?_
  refine vx_aload_n hC 0 rfl eL_law_677 ?_
  refine vx_iload_n hC 3 rfl eL_law_678 ?_
  refine vx_iconst hC eL_law_679 ?_
  refine vx_iadd hC eL_law_680 ?_
  refine vx_sld hC hX hbl hbA (by omega) (by omega) eL_law_681 ?_
  refine vx_callV_l hC (kX11_bestChance G 0 _ _ _ _ _ h.1.1 (vi 32) (vi 33) (vi 31 3) (vi 31 22) (vi 44) h.2 h.1.2.1 (sx xs (i + 1)) (sx xs (i + 2)) (sx xs (i + 3)) (sx_r _ _) (sx_r _ _) (sx_r _ _)) ly_L_78 (ot_0 h.1.1) rfl rfl rfl hRm (by omega) (Nat.le_of_ble_eq_true rfl) rfl eL_law_682 (fun z1 n1 t1 a1 b1 c1 hz => ?_)
  obtain ⟨hz1, hc1⟩ := hz
  obtain ⟨hI1, e32, e33, e31, e44⟩ := h.mid hc1
  refine vx_aload_n hC 2 rfl eL_law_685 ?_
  refine vx_aload_n hC 0 rfl eL_law_686 ?_
  refine vx_iload_n hC 3 rfl eL_law_687 ?_
  refine vx_iconst hC eL_law_688 ?_
  refine vx_iadd hC eL_law_689 ?_
  refine vx_sld hC hX hbl hbA (by omega) (by omega) eL_law_690 ?_
  refine vx_aload_n hC 0 rfl eL_law_691 ?_
  refine vx_iload_n hC 3 rfl eL_law_692 ?_
  refine vx_iconst hC eL_law_693 ?_
  refine vx_iadd hC eL_law_694 ?_
  refine vx_sld hC hX hbl hbA (by omega) (by omega) eL_law_695 ?_
  refine vx_aload_n hC 0 rfl eL_law_696 ?_
  refine vx_iload_n hC 3 rfl eL_law_697 ?_
  refine vx_iconst hC eL_law_698 ?_
  refine vx_iadd hC eL_law_699 ?_
  refine vx_sld hC hX hbl hbA (by omega) (by omega) eL_law_700 ?_
  refine vx_callV_l hC (kX12_bestChance G 0 _ _ _ _ _ hI1 (sx xs (i + 1)) (sx xs (i + 2)) (sx xs (i + 3)) (sx_r _ _) (sx_r _ _) (sx_r _ _)) ly_L_81 (ot_31 hI1.1) rfl rfl rfl hRm (by omega) (Nat.le_of_ble_eq_true rfl) rfl eL_law_701 (fun z2 n2 t2 a2 b2 c2 hy => ?_)
  obtain ⟨hz2, hm2⟩ := hy
  simp only [e32, e33, e31, e44] at hm2
  (try rw [e32] at hz2); (try rw [e33] at hz2); (try rw [e31] at hz2); (try rw [e44] at hz2)
  subst hz1; subst hz2
  refine vx_lcmp_same hC eL_law_704 ?_
  refine vx_if_eq hC (tgt := 1151) (by omega) (by decide) eL_law_705 (fun _ => ?_) (fun c => absurd rfl c)
  obtain ⟨hL2, hn2⟩ := LI.step (vr := vr) hc1 hm2 h.1.2.1 h.1.2.2.1 h.1.2.2.2.2.1 h.1.2.2.2.2.2
  exact kk _ _ _ _ _ _ _ hL2 (by have := hc1.1; omega) (by omega)
set_option maxHeartbeats 4000000 in
set_option maxRecDepth 100000 in
theorem lc_15 {G : xg_T} {K : xk_T} {Q : State → Prop} {cells slots n : Nat} {tau : Nat → Nat × Nat} {vi vl : Nat → Int → Int} {vr : Nat → Int → Option Nat} (hC : xk_C G K cL_law RL 4) {L : Nat} {xs : Nat → Int32} (hX : va_X (G.2.2.2 19) L xs (xk_s K) (xk_s K).heap) (hbl : G.2.2.2 19 < (xk_s K).heap.size) (hbA : ¬ xg_A G (G.2.2.2 19)) (hRm : xk_Rm K 100 600000 7302250) {i : Int} (hi : 0 ≤ i ∧ i + 5 ≤ (L : Int)) (hL : L ≤ 320) (h : LI n tau vi vr) (hn : n ≤ 1000) (hce : cells ≤ 1000 ∧ slots ≤ 100000) (kk : ∀ (n1 : Nat) (t1 : Nat → Nat × Nat) (a1 b1 : Nat → Int → Int) (c1 : Nat → Int → Option Nat) (ce sl : Nat), LI n1 t1 a1 c1 → n1 ≤ n + 4 → (ce ≤ cells + 4 ∧ sl ≤ slots + 304) → xv G K 4 Q ce sl n1 t1 a1 b1 c1 1151 [(0, xa_r 1000019), (1, xa_r 0), (2, xa_r 31), (3, xa_i i)] []) : xv G K 4 Q cells slots n tau vi vl vr 710 [(0, xa_r 1000019), (1, xa_r 0), (2, xa_r 31), (3, xa_i i)] [] := by
  refine vx_aload_n hC 1 rfl eL_law_710 ?_
  refine vx_aload_n hC 0 rfl eL_law_711 ?_
  refine vx_iload_n hC 3 rfl eL_law_712 ?_
  refine vx_iconst hC eL_law_713 ?_
  refine vx_iadd hC eL_law_714 ?_
  refine vx_sld hC hX hbl hbA (by omega) (by omega) eL_law_715 ?_
  refine vx_aload_n hC 0 rfl eL_law_716 ?_
  refine vx_iload_n hC 3 rfl eL_law_717 ?_
  refine vx_iconst hC eL_law_718 ?_
  refine vx_iadd hC eL_law_719 ?_
  refine vx_sld hC hX hbl hbA (by omega) (by omega) eL_law_720 ?_
  refine vx_aload_n hC 0 rfl eL_law_721 ?_
  refine vx_iload_n hC 3 rfl eL_law_722 ?_
  refine vx_iconst hC eL_law_723 ?_
  refine vx_iadd hC eL_law_724 ?_
  refine vx_sld hC hX hbl hbA (by omega) (by omega) eL_law_725 ?_
  refine vx_callV_l hC (kX11_loses G 0 _ _ _ _ _ h.1.1 (vi 32) (vi 33) (vi 31 3) (vi 31 22) (vi 44) h.2 h.1.2.1 (sx xs (i + 1)) (sx xs (i + 2)) (sx xs (i + 3)) (sx_r _ _) (sx_r _ _) (sx_r _ _)) ly_L_82 (ot_0 h.1.1) rfl rfl rfl hRm (by omega) (Nat.le_of_ble_eq_true rfl) rfl eL_law_726 (fun z1 n1 t1 a1 b1 c1 hz => ?_)
  obtain ⟨hz1, hc1⟩ := hz
  obtain ⟨hI1, e32, e33, e31, e44⟩ := h.mid hc1
  refine vx_aload_n hC 2 rfl eL_law_729 ?_
  refine vx_aload_n hC 0 rfl eL_law_730 ?_
  refine vx_iload_n hC 3 rfl eL_law_731 ?_
  refine vx_iconst hC eL_law_732 ?_
  refine vx_iadd hC eL_law_733 ?_
  refine vx_sld hC hX hbl hbA (by omega) (by omega) eL_law_734 ?_
  refine vx_aload_n hC 0 rfl eL_law_735 ?_
  refine vx_iload_n hC 3 rfl eL_law_736 ?_
  refine vx_iconst hC eL_law_737 ?_
  refine vx_iadd hC eL_law_738 ?_
  refine vx_sld hC hX hbl hbA (by omega) (by omega) eL_law_739 ?_
  refine vx_aload_n hC 0 rfl eL_law_740 ?_
  refine vx_iload_n hC 3 rfl eL_law_741 ?_
  refine vx_iconst hC eL_law_742 ?_
  refine vx_iadd hC eL_law_743 ?_
  refine vx_sld hC hX hbl hbA (by omega) (by omega) eL_law_744 ?_
  refine vx_callV_l hC (kX12_loses G 0 _ _ _ _ _ hI1 (sx xs (i + 1)) (sx xs (i + 2)) (sx xs (i + 3)) (sx_r _ _) (sx_r _ _) (sx_r _ _)) ly_L_85 (ot_31 hI1.1) rfl rfl rfl hRm (by omega) (Nat.le_of_ble_eq_true rfl) rfl eL_law_745 (fun z2 n2 t2 a2 b2 c2 hy => ?_)
  obtain ⟨hz2, hm2⟩ := hy
  simp only [e32, e33, e31, e44] at hm2
  (try rw [e32] at hz2); (try rw [e33] at hz2); (try rw [e31] at hz2); (try rw [e44] at hz2)
  subst hz1; subst hz2
  refine vx_lcmp_same hC eL_law_748 ?_
  refine vx_if_eq hC (tgt := 1151) (by omega) (by decide) eL_law_749 (fun _ => ?_) (fun c => absurd rfl c)
  obtain ⟨hL2, hn2⟩ := LI.step (vr := vr) hc1 hm2 h.1.2.1 h.1.2.2.1 h.1.2.2.2.2.1 h.1.2.2.2.2.2
  exact kk _ _ _ _ _ _ _ hL2 (by have := hc1.1; omega) (by omega)
set_option maxHeartbeats 4000000 in
set_option maxRecDepth 100000 in
theorem lc_16 {G : xg_T} {K : xk_T} {Q : State → Prop} {cells slots n : Nat} {tau : Nat → Nat × Nat} {vi vl : Nat → Int → Int} {vr : Nat → Int → Option Nat} (hC : xk_C G K cL_law RL 4) {L : Nat} {xs : Nat → Int32} (hX : va_X (G.2.2.2 19) L xs (xk_s K) (xk_s K).heap) (hbl : G.2.2.2 19 < (xk_s K).heap.size) (hbA : ¬ xg_A G (G.2.2.2 19)) (hRm : xk_Rm K 100 600000 7302250) {i : Int} (hi : 0 ≤ i ∧ i + 5 ≤ (L : Int)) (hL : L ≤ 320) (h : LI n tau vi vr) (hn : n ≤ 1000) (hce : cells ≤ 1000 ∧ slots ≤ 100000) (kk : ∀ (n1 : Nat) (t1 : Nat → Nat × Nat) (a1 b1 : Nat → Int → Int) (c1 : Nat → Int → Option Nat) (ce sl : Nat), LI n1 t1 a1 c1 → n1 ≤ n + 4 → (ce ≤ cells + 4 ∧ sl ≤ slots + 304) → xv G K 4 Q ce sl n1 t1 a1 b1 c1 1151 [(0, xa_r 1000019), (1, xa_r 0), (2, xa_r 31), (3, xa_i i)] []) : xv G K 4 Q cells slots n tau vi vl vr 754 [(0, xa_r 1000019), (1, xa_r 0), (2, xa_r 31), (3, xa_i i)] [] := by
  refine vx_aload_n hC 1 rfl eL_law_754 ?_
  refine vx_aload_n hC 0 rfl eL_law_755 ?_
  refine vx_iload_n hC 3 rfl eL_law_756 ?_
  refine vx_iconst hC eL_law_757 ?_
  refine vx_iadd hC eL_law_758 ?_
  refine vx_sld hC hX hbl hbA (by omega) (by omega) eL_law_759 ?_
  refine vx_aload_n hC 0 rfl eL_law_760 ?_
  refine vx_iload_n hC 3 rfl eL_law_761 ?_
  refine vx_iconst hC eL_law_762 ?_
  refine vx_iadd hC eL_law_763 ?_
  refine vx_sld hC hX hbl hbA (by omega) (by omega) eL_law_764 ?_
  refine vx_callV_i hC (kX11_room G 0 _ _ _ _ _ h.1.1 (vi 32) (vi 33) (vi 31 3) (vi 31 22) (vi 44) h.2 h.1.2.1 (sx xs (i + 1)) (sx xs (i + 2)) (sx_r _ _) (sx_r _ _)) ly_L_86 (ot_0 h.1.1) rfl rfl rfl hRm (by omega) (Nat.le_of_ble_eq_true rfl) rfl eL_law_765 (fun z1 n1 t1 a1 b1 c1 hz => ?_)
  obtain ⟨hz1, hc1⟩ := hz
  obtain ⟨hI1, e32, e33, e31, e44⟩ := h.mid hc1
  refine vx_aload_n hC 2 rfl eL_law_768 ?_
  refine vx_aload_n hC 0 rfl eL_law_769 ?_
  refine vx_iload_n hC 3 rfl eL_law_770 ?_
  refine vx_iconst hC eL_law_771 ?_
  refine vx_iadd hC eL_law_772 ?_
  refine vx_sld hC hX hbl hbA (by omega) (by omega) eL_law_773 ?_
  refine vx_aload_n hC 0 rfl eL_law_774 ?_
  refine vx_iload_n hC 3 rfl eL_law_775 ?_
  refine vx_iconst hC eL_law_776 ?_
  refine vx_iadd hC eL_law_777 ?_
  refine vx_sld hC hX hbl hbA (by omega) (by omega) eL_law_778 ?_
  refine vx_callV_i hC (kX12_room G 0 _ _ _ _ _ hI1 (sx xs (i + 1)) (sx xs (i + 2)) (sx_r _ _) (sx_r _ _)) ly_L_89 (ot_31 hI1.1) rfl rfl rfl hRm (by omega) (Nat.le_of_ble_eq_true rfl) rfl eL_law_779 (fun z2 n2 t2 a2 b2 c2 hy => ?_)
  obtain ⟨hz2, hm2⟩ := hy
  simp only [e32, e33, e31, e44] at hm2
  (try rw [e32] at hz2); (try rw [e33] at hz2); (try rw [e31] at hz2); (try rw [e44] at hz2)
  subst hz1; subst hz2
  refine vx_icmp_same hC (tgt := 1151) (by decide) eL_law_782 ?_
  obtain ⟨hL2, hn2⟩ := LI.step (vr := vr) hc1 hm2 h.1.2.1 h.1.2.2.1 h.1.2.2.2.2.1 h.1.2.2.2.2.2
  exact kk _ _ _ _ _ _ _ hL2 (by have := hc1.1; omega) (by omega)
set_option maxHeartbeats 4000000 in
set_option maxRecDepth 100000 in
theorem lc_17 {G : xg_T} {K : xk_T} {Q : State → Prop} {cells slots n : Nat} {tau : Nat → Nat × Nat} {vi vl : Nat → Int → Int} {vr : Nat → Int → Option Nat} (hC : xk_C G K cL_law RL 4) {L : Nat} {xs : Nat → Int32} (hX : va_X (G.2.2.2 19) L xs (xk_s K) (xk_s K).heap) (hbl : G.2.2.2 19 < (xk_s K).heap.size) (hbA : ¬ xg_A G (G.2.2.2 19)) (hRm : xk_Rm K 100 600000 7302250) {i : Int} (hi : 0 ≤ i ∧ i + 5 ≤ (L : Int)) (hL : L ≤ 320) (h : LI n tau vi vr) (hn : n ≤ 1000) (hce : cells ≤ 1000 ∧ slots ≤ 100000) (kk : ∀ (n1 : Nat) (t1 : Nat → Nat × Nat) (a1 b1 : Nat → Int → Int) (c1 : Nat → Int → Option Nat) (ce sl : Nat), LI n1 t1 a1 c1 → n1 ≤ n + 4 → (ce ≤ cells + 4 ∧ sl ≤ slots + 304) → xv G K 4 Q ce sl n1 t1 a1 b1 c1 1151 [(0, xa_r 1000019), (1, xa_r 0), (2, xa_r 31), (3, xa_i i)] []) : xv G K 4 Q cells slots n tau vi vl vr 787 [(0, xa_r 1000019), (1, xa_r 0), (2, xa_r 31), (3, xa_i i)] [] := by
  refine vx_aload_n hC 1 rfl eL_law_787 ?_
  refine vx_aload_n hC 0 rfl eL_law_788 ?_
  refine vx_iload_n hC 3 rfl eL_law_789 ?_
  refine vx_iconst hC eL_law_790 ?_
  refine vx_iadd hC eL_law_791 ?_
  refine vx_sld hC hX hbl hbA (by omega) (by omega) eL_law_792 ?_
  refine vx_aload_n hC 0 rfl eL_law_793 ?_
  refine vx_iload_n hC 3 rfl eL_law_794 ?_
  refine vx_iconst hC eL_law_795 ?_
  refine vx_iadd hC eL_law_796 ?_
  refine vx_sld hC hX hbl hbA (by omega) (by omega) eL_law_797 ?_
  refine vx_aload_n hC 0 rfl eL_law_798 ?_
  refine vx_iload_n hC 3 rfl eL_law_799 ?_
  refine vx_iconst hC eL_law_800 ?_
  refine vx_iadd hC eL_law_801 ?_
  refine vx_sld hC hX hbl hbA (by omega) (by omega) eL_law_802 ?_
  refine vx_aload_n hC 0 rfl eL_law_803 ?_
  refine vx_iload_n hC 3 rfl eL_law_804 ?_
  refine vx_iconst hC eL_law_805 ?_
  refine vx_iadd hC eL_law_806 ?_
  refine vx_sld hC hX hbl hbA (by omega) (by omega) eL_law_807 ?_
  refine vx_callV_l hC (kX11_trio G 0 _ _ _ _ _ h.1.1 (vi 32) (vi 33) (vi 31 3) (vi 31 22) (vi 44) h.2 h.1.2.1 (sx xs (i + 1)) (sx xs (i + 2)) (sx xs (i + 3)) (sx xs (i + 4)) (sx_r _ _) (sx_r _ _) (sx_r _ _) (sx_r _ _)) ly_L_90 (ot_0 h.1.1) rfl rfl rfl hRm (by omega) (Nat.le_of_ble_eq_true rfl) rfl eL_law_808 (fun z1 n1 t1 a1 b1 c1 hz => ?_)
  obtain ⟨hz1, hc1⟩ := hz
  obtain ⟨hI1, e32, e33, e31, e44⟩ := h.mid hc1
  refine vx_aload_n hC 2 rfl eL_law_811 ?_
  refine vx_aload_n hC 0 rfl eL_law_812 ?_
  refine vx_iload_n hC 3 rfl eL_law_813 ?_
  refine vx_iconst hC eL_law_814 ?_
  refine vx_iadd hC eL_law_815 ?_
  refine vx_sld hC hX hbl hbA (by omega) (by omega) eL_law_816 ?_
  refine vx_aload_n hC 0 rfl eL_law_817 ?_
  refine vx_iload_n hC 3 rfl eL_law_818 ?_
  refine vx_iconst hC eL_law_819 ?_
  refine vx_iadd hC eL_law_820 ?_
  refine vx_sld hC hX hbl hbA (by omega) (by omega) eL_law_821 ?_
  refine vx_aload_n hC 0 rfl eL_law_822 ?_
  refine vx_iload_n hC 3 rfl eL_law_823 ?_
  refine vx_iconst hC eL_law_824 ?_
  refine vx_iadd hC eL_law_825 ?_
  refine vx_sld hC hX hbl hbA (by omega) (by omega) eL_law_826 ?_
  refine vx_aload_n hC 0 rfl eL_law_827 ?_
  refine vx_iload_n hC 3 rfl eL_law_828 ?_
  refine vx_iconst hC eL_law_829 ?_
  refine vx_iadd hC eL_law_830 ?_
  refine vx_sld hC hX hbl hbA (by omega) (by omega) eL_law_831 ?_
  refine vx_callV_l hC (kX12_trio G 0 _ _ _ _ _ hI1 (sx xs (i + 1)) (sx xs (i + 2)) (sx xs (i + 3)) (sx xs (i + 4)) (sx_r _ _) (sx_r _ _) (sx_r _ _) (sx_r _ _)) ly_L_93 (ot_31 hI1.1) rfl rfl rfl hRm (by omega) (Nat.le_of_ble_eq_true rfl) rfl eL_law_832 (fun z2 n2 t2 a2 b2 c2 hy => ?_)
  obtain ⟨hz2, hm2⟩ := hy
  simp only [e32, e33, e31, e44] at hm2
  (try rw [e32] at hz2); (try rw [e33] at hz2); (try rw [e31] at hz2); (try rw [e44] at hz2)
  subst hz1; subst hz2
  refine vx_lcmp_same hC eL_law_835 ?_
  refine vx_if_eq hC (tgt := 1151) (by omega) (by decide) eL_law_836 (fun _ => ?_) (fun c => absurd rfl c)
  obtain ⟨hL2, hn2⟩ := LI.step (vr := vr) hc1 hm2 h.1.2.1 h.1.2.2.1 h.1.2.2.2.2.1 h.1.2.2.2.2.2
  exact kk _ _ _ _ _ _ _ hL2 (by have := hc1.1; omega) (by omega)
set_option maxHeartbeats 4000000 in
set_option maxRecDepth 100000 in
theorem lc_18 {G : xg_T} {K : xk_T} {Q : State → Prop} {cells slots n : Nat} {tau : Nat → Nat × Nat} {vi vl : Nat → Int → Int} {vr : Nat → Int → Option Nat} (hC : xk_C G K cL_law RL 4) {L : Nat} {xs : Nat → Int32} (hX : va_X (G.2.2.2 19) L xs (xk_s K) (xk_s K).heap) (hbl : G.2.2.2 19 < (xk_s K).heap.size) (hbA : ¬ xg_A G (G.2.2.2 19)) (hRm : xk_Rm K 100 600000 7302250) {i : Int} (hi : 0 ≤ i ∧ i + 5 ≤ (L : Int)) (hL : L ≤ 320) (h : LI n tau vi vr) (hn : n ≤ 1000) (hce : cells ≤ 1000 ∧ slots ≤ 100000) (kk : ∀ (n1 : Nat) (t1 : Nat → Nat × Nat) (a1 b1 : Nat → Int → Int) (c1 : Nat → Int → Option Nat) (ce sl : Nat), LI n1 t1 a1 c1 → n1 ≤ n + 4 → (ce ≤ cells + 4 ∧ sl ≤ slots + 304) → xv G K 4 Q ce sl n1 t1 a1 b1 c1 1151 [(0, xa_r 1000019), (1, xa_r 0), (2, xa_r 31), (3, xa_i i)] []) : xv G K 4 Q cells slots n tau vi vl vr 841 [(0, xa_r 1000019), (1, xa_r 0), (2, xa_r 31), (3, xa_i i)] [] := by
  refine vx_aload_n hC 1 rfl eL_law_841 ?_
  refine vx_aload_n hC 0 rfl eL_law_842 ?_
  refine vx_iload_n hC 3 rfl eL_law_843 ?_
  refine vx_iconst hC eL_law_844 ?_
  refine vx_iadd hC eL_law_845 ?_
  refine vx_sld hC hX hbl hbA (by omega) (by omega) eL_law_846 ?_
  refine vx_aload_n hC 0 rfl eL_law_847 ?_
  refine vx_iload_n hC 3 rfl eL_law_848 ?_
  refine vx_iconst hC eL_law_849 ?_
  refine vx_iadd hC eL_law_850 ?_
  refine vx_sld hC hX hbl hbA (by omega) (by omega) eL_law_851 ?_
  refine vx_aload_n hC 0 rfl eL_law_852 ?_
  refine vx_iload_n hC 3 rfl eL_law_853 ?_
  refine vx_iconst hC eL_law_854 ?_
  refine vx_iadd hC eL_law_855 ?_
  refine vx_sld hC hX hbl hbA (by omega) (by omega) eL_law_856 ?_
  refine vx_aload_n hC 0 rfl eL_law_857 ?_
  refine vx_iload_n hC 3 rfl eL_law_858 ?_
  refine vx_iconst hC eL_law_859 ?_
  refine vx_iadd hC eL_law_860 ?_
  refine vx_sld hC hX hbl hbA (by omega) (by omega) eL_law_861 ?_
  refine vx_callV_l hC (kX11_streak G 0 _ _ _ _ _ h.1.1 (vi 32) (vi 33) (vi 31 3) (vi 31 22) (vi 44) h.2 h.1.2.1 (sx xs (i + 1)) (sx xs (i + 2)) (sx xs (i + 3)) (sx xs (i + 4)) (sx_r _ _) (sx_r _ _) (sx_r _ _) (sx_r _ _)) ly_L_94 (ot_0 h.1.1) rfl rfl rfl hRm (by omega) (Nat.le_of_ble_eq_true rfl) rfl eL_law_862 (fun z1 n1 t1 a1 b1 c1 hz => ?_)
  obtain ⟨hz1, hc1⟩ := hz
  obtain ⟨hI1, e32, e33, e31, e44⟩ := h.mid hc1
  refine vx_aload_n hC 2 rfl eL_law_865 ?_
  refine vx_aload_n hC 0 rfl eL_law_866 ?_
  refine vx_iload_n hC 3 rfl eL_law_867 ?_
  refine vx_iconst hC eL_law_868 ?_
  refine vx_iadd hC eL_law_869 ?_
  refine vx_sld hC hX hbl hbA (by omega) (by omega) eL_law_870 ?_
  refine vx_aload_n hC 0 rfl eL_law_871 ?_
  refine vx_iload_n hC 3 rfl eL_law_872 ?_
  refine vx_iconst hC eL_law_873 ?_
  refine vx_iadd hC eL_law_874 ?_
  refine vx_sld hC hX hbl hbA (by omega) (by omega) eL_law_875 ?_
  refine vx_aload_n hC 0 rfl eL_law_876 ?_
  refine vx_iload_n hC 3 rfl eL_law_877 ?_
  refine vx_iconst hC eL_law_878 ?_
  refine vx_iadd hC eL_law_879 ?_
  refine vx_sld hC hX hbl hbA (by omega) (by omega) eL_law_880 ?_
  refine vx_aload_n hC 0 rfl eL_law_881 ?_
  refine vx_iload_n hC 3 rfl eL_law_882 ?_
  refine vx_iconst hC eL_law_883 ?_
  refine vx_iadd hC eL_law_884 ?_
  refine vx_sld hC hX hbl hbA (by omega) (by omega) eL_law_885 ?_
  refine vx_callV_l hC (kX12_streak G 0 _ _ _ _ _ hI1 (sx xs (i + 1)) (sx xs (i + 2)) (sx xs (i + 3)) (sx xs (i + 4)) (sx_r _ _) (sx_r _ _) (sx_r _ _) (sx_r _ _)) ly_L_97 (ot_31 hI1.1) rfl rfl rfl hRm (by omega) (Nat.le_of_ble_eq_true rfl) rfl eL_law_886 (fun z2 n2 t2 a2 b2 c2 hy => ?_)
  obtain ⟨hz2, hm2⟩ := hy
  simp only [e32, e33, e31, e44] at hm2
  (try rw [e32] at hz2); (try rw [e33] at hz2); (try rw [e31] at hz2); (try rw [e44] at hz2)
  subst hz1; subst hz2
  refine vx_lcmp_same hC eL_law_889 ?_
  refine vx_if_eq hC (tgt := 1151) (by omega) (by decide) eL_law_890 (fun _ => ?_) (fun c => absurd rfl c)
  obtain ⟨hL2, hn2⟩ := LI.step (vr := vr) hc1 hm2 h.1.2.1 h.1.2.2.1 h.1.2.2.2.2.1 h.1.2.2.2.2.2
  exact kk _ _ _ _ _ _ _ hL2 (by have := hc1.1; omega) (by omega)
set_option maxHeartbeats 4000000 in
set_option maxRecDepth 100000 in
theorem lc_19 {G : xg_T} {K : xk_T} {Q : State → Prop} {cells slots n : Nat} {tau : Nat → Nat × Nat} {vi vl : Nat → Int → Int} {vr : Nat → Int → Option Nat} (hC : xk_C G K cL_law RL 4) {L : Nat} {xs : Nat → Int32} (hX : va_X (G.2.2.2 19) L xs (xk_s K) (xk_s K).heap) (hbl : G.2.2.2 19 < (xk_s K).heap.size) (hbA : ¬ xg_A G (G.2.2.2 19)) (hRm : xk_Rm K 100 600000 7302250) {i : Int} (hi : 0 ≤ i ∧ i + 5 ≤ (L : Int)) (hL : L ≤ 320) (h : LI n tau vi vr) (hn : n ≤ 1000) (hce : cells ≤ 1000 ∧ slots ≤ 100000) (kk : ∀ (n1 : Nat) (t1 : Nat → Nat × Nat) (a1 b1 : Nat → Int → Int) (c1 : Nat → Int → Option Nat) (ce sl : Nat), LI n1 t1 a1 c1 → n1 ≤ n + 4 → (ce ≤ cells + 4 ∧ sl ≤ slots + 304) → xv G K 4 Q ce sl n1 t1 a1 b1 c1 1151 [(0, xa_r 1000019), (1, xa_r 0), (2, xa_r 31), (3, xa_i i)] []) : xv G K 4 Q cells slots n tau vi vl vr 895 [(0, xa_r 1000019), (1, xa_r 0), (2, xa_r 31), (3, xa_i i)] [] := by
  refine vx_aload_n hC 1 rfl eL_law_895 ?_
  refine vx_aload_n hC 0 rfl eL_law_896 ?_
  refine vx_iload_n hC 3 rfl eL_law_897 ?_
  refine vx_iconst hC eL_law_898 ?_
  refine vx_iadd hC eL_law_899 ?_
  refine vx_sld hC hX hbl hbA (by omega) (by omega) eL_law_900 ?_
  by_cases e0 : (sx xs (i + 1)) = 0
  · refine vx_if_eq hC (tgt := 908) (sx_r _ _) (by decide) eL_law_901 (fun _ => ?_) (fun c => absurd e0 c)
    refine vx_iconst hC eL_law_908 ?_
    refine vx_callV_i hC (kX11_toss G 0 _ _ _ _ _ h.1.1 (vi 32) (vi 33) (vi 31 3) (vi 31 22) (vi 44) h.2 h.1.2.1 0 (Or.inl rfl)) ly_L_98 (ot_0 h.1.1) rfl rfl rfl hRm (by omega) (Nat.le_of_ble_eq_true rfl) rfl eL_law_909 (fun z1 n1 t1 a1 b1 c1 hz => ?_)
    obtain ⟨hz1, hc1⟩ := hz
    obtain ⟨hI1, e32, e33, e31, e44⟩ := h.mid hc1
    refine vx_aload_n hC 2 rfl eL_law_912 ?_
    refine vx_aload_n hC 0 rfl eL_law_913 ?_
    refine vx_iload_n hC 3 rfl eL_law_914 ?_
    refine vx_iconst hC eL_law_915 ?_
    refine vx_iadd hC eL_law_916 ?_
    refine vx_sld hC hX hbl hbA (by omega) (by omega) eL_law_917 ?_
    refine vx_if_eq hC (tgt := 925) (sx_r _ _) (by decide) eL_law_918 (fun _ => ?_) (fun c => absurd e0 c)
    refine vx_iconst hC eL_law_925 ?_
    refine vx_callV_i hC (kX12_toss G 0 _ _ _ _ _ hI1 0 (Or.inl rfl)) ly_L_102 (ot_31 hI1.1) rfl rfl rfl hRm (by omega) (Nat.le_of_ble_eq_true rfl) rfl eL_law_926 (fun z2 n2 t2 a2 b2 c2 hy => ?_)
    obtain ⟨hz2, hm2⟩ := hy
    simp only [e32, e33, e31, e44] at hm2
    (try rw [e32] at hz2); (try rw [e33] at hz2); (try rw [e31] at hz2); (try rw [e44] at hz2)
    subst hz1; subst hz2
    refine vx_icmp_same hC (tgt := 1151) (by decide) eL_law_929 ?_
    obtain ⟨hL2, hn2⟩ := LI.step (vr := vr) hc1 hm2 (toss_V (Or.inl rfl) h.1.2.1) h.1.2.2.1 (toss_O h.1.2.1 h.1.2.2.2.2.1) h.1.2.2.2.2.2
    exact kk _ _ _ _ _ _ _ hL2 (by have := hc1.1; omega) (by omega)
  · refine vx_if_eq hC (tgt := 908) (sx_r _ _) (by decide) eL_law_901 (fun c => absurd c e0) (fun _ => ?_)
    refine vx_iconst hC eL_law_904 ?_
    refine vx_goto hC (tgt := 909) (by decide) eL_law_905 ?_
    refine vx_callV_i hC (kX11_toss G 0 _ _ _ _ _ h.1.1 (vi 32) (vi 33) (vi 31 3) (vi 31 22) (vi 44) h.2 h.1.2.1 1 (Or.inr rfl)) ly_L_98 (ot_0 h.1.1) rfl rfl rfl hRm (by omega) (Nat.le_of_ble_eq_true rfl) rfl eL_law_909 (fun z1 n1 t1 a1 b1 c1 hz => ?_)
    obtain ⟨hz1, hc1⟩ := hz
    obtain ⟨hI1, e32, e33, e31, e44⟩ := h.mid hc1
    refine vx_aload_n hC 2 rfl eL_law_912 ?_
    refine vx_aload_n hC 0 rfl eL_law_913 ?_
    refine vx_iload_n hC 3 rfl eL_law_914 ?_
    refine vx_iconst hC eL_law_915 ?_
    refine vx_iadd hC eL_law_916 ?_
    refine vx_sld hC hX hbl hbA (by omega) (by omega) eL_law_917 ?_
    refine vx_if_eq hC (tgt := 925) (sx_r _ _) (by decide) eL_law_918 (fun c => absurd c e0) (fun _ => ?_)
    refine vx_iconst hC eL_law_921 ?_
    refine vx_goto hC (tgt := 926) (by decide) eL_law_922 ?_
    refine vx_callV_i hC (kX12_toss G 0 _ _ _ _ _ hI1 1 (Or.inr rfl)) ly_L_102 (ot_31 hI1.1) rfl rfl rfl hRm (by omega) (Nat.le_of_ble_eq_true rfl) rfl eL_law_926 (fun z2 n2 t2 a2 b2 c2 hy => ?_)
    obtain ⟨hz2, hm2⟩ := hy
    simp only [e32, e33, e31, e44] at hm2
    (try rw [e32] at hz2); (try rw [e33] at hz2); (try rw [e31] at hz2); (try rw [e44] at hz2)
    subst hz1; subst hz2
    refine vx_icmp_same hC (tgt := 1151) (by decide) eL_law_929 ?_
    obtain ⟨hL2, hn2⟩ := LI.step (vr := vr) hc1 hm2 (toss_V (Or.inr rfl) h.1.2.1) h.1.2.2.1 (toss_O h.1.2.1 h.1.2.2.2.2.1) h.1.2.2.2.2.2
    exact kk _ _ _ _ _ _ _ hL2 (by have := hc1.1; omega) (by omega)
set_option maxHeartbeats 4000000 in
set_option maxRecDepth 100000 in
theorem lc_20 {G : xg_T} {K : xk_T} {Q : State → Prop} {cells slots n : Nat} {tau : Nat → Nat × Nat} {vi vl : Nat → Int → Int} {vr : Nat → Int → Option Nat} (hC : xk_C G K cL_law RL 4) {L : Nat} {xs : Nat → Int32} (hX : va_X (G.2.2.2 19) L xs (xk_s K) (xk_s K).heap) (hbl : G.2.2.2 19 < (xk_s K).heap.size) (hbA : ¬ xg_A G (G.2.2.2 19)) (hRm : xk_Rm K 100 600000 7302250) {i : Int} (hi : 0 ≤ i ∧ i + 5 ≤ (L : Int)) (hL : L ≤ 320) (h : LI n tau vi vr) (hn : n ≤ 1000) (hce : cells ≤ 1000 ∧ slots ≤ 100000) (kk : ∀ (n1 : Nat) (t1 : Nat → Nat × Nat) (a1 b1 : Nat → Int → Int) (c1 : Nat → Int → Option Nat) (ce sl : Nat), LI n1 t1 a1 c1 → n1 ≤ n + 4 → (ce ≤ cells + 4 ∧ sl ≤ slots + 304) → xv G K 4 Q ce sl n1 t1 a1 b1 c1 1151 [(0, xa_r 1000019), (1, xa_r 0), (2, xa_r 31), (3, xa_i i)] []) : xv G K 4 Q cells slots n tau vi vl vr 934 [(0, xa_r 1000019), (1, xa_r 0), (2, xa_r 31), (3, xa_i i)] [] := by
  refine vx_aload_n hC 1 rfl eL_law_934 ?_
  refine vx_callV_i hC (kX11_clear G 0 _ _ _ _ _ h.1.1 (vi 32) (vi 33) (vi 31 3) (vi 31 22) (vi 44) h.2 h.1.2.1 ) ly_L_103 (ot_0 h.1.1) rfl rfl rfl hRm (by omega) (Nat.le_of_ble_eq_true rfl) rfl eL_law_935 (fun z1 n1 t1 a1 b1 c1 hz => ?_)
  obtain ⟨hz1, hc1⟩ := hz
  obtain ⟨hI1, e32, e33, e31, e44⟩ := h.mid hc1
  refine vx_aload_n hC 2 rfl eL_law_938 ?_
  refine vx_callV_i hC (kX12_clear G 0 _ _ _ _ _ hI1 ) ly_L_106 (ot_31 hI1.1) rfl rfl rfl hRm (by omega) (Nat.le_of_ble_eq_true rfl) rfl eL_law_939 (fun z2 n2 t2 a2 b2 c2 hy => ?_)
  obtain ⟨hz2, hm2⟩ := hy
  simp only [e32, e33, e31, e44] at hm2
  (try rw [e32] at hz2); (try rw [e33] at hz2); (try rw [e31] at hz2); (try rw [e44] at hz2)
  subst hz1; subst hz2
  refine vx_icmp_same hC (tgt := 1151) (by decide) eL_law_942 ?_
  obtain ⟨hL2, hn2⟩ := LI.step (vr := vr) hc1 hm2 (clear_V h.1.2.1) h.1.2.2.1 (clear_O h.1.2.2.2.2.1) h.1.2.2.2.2.2
  exact kk _ _ _ _ _ _ _ hL2 (by have := hc1.1; omega) (by omega)
set_option maxHeartbeats 4000000 in
set_option maxRecDepth 100000 in
theorem lc_21 {G : xg_T} {K : xk_T} {Q : State → Prop} {cells slots n : Nat} {tau : Nat → Nat × Nat} {vi vl : Nat → Int → Int} {vr : Nat → Int → Option Nat} (hC : xk_C G K cL_law RL 4) {L : Nat} {xs : Nat → Int32} (hX : va_X (G.2.2.2 19) L xs (xk_s K) (xk_s K).heap) (hbl : G.2.2.2 19 < (xk_s K).heap.size) (hbA : ¬ xg_A G (G.2.2.2 19)) (hRm : xk_Rm K 100 600000 7302250) {i : Int} (hi : 0 ≤ i ∧ i + 5 ≤ (L : Int)) (hL : L ≤ 320) (h : LI n tau vi vr) (hn : n ≤ 1000) (hce : cells ≤ 1000 ∧ slots ≤ 100000) (kk : ∀ (n1 : Nat) (t1 : Nat → Nat × Nat) (a1 b1 : Nat → Int → Int) (c1 : Nat → Int → Option Nat) (ce sl : Nat), LI n1 t1 a1 c1 → n1 ≤ n + 4 → (ce ≤ cells + 4 ∧ sl ≤ slots + 304) → xv G K 4 Q ce sl n1 t1 a1 b1 c1 1151 [(0, xa_r 1000019), (1, xa_r 0), (2, xa_r 31), (3, xa_i i)] []) : xv G K 4 Q cells slots n tau vi vl vr 947 [(0, xa_r 1000019), (1, xa_r 0), (2, xa_r 31), (3, xa_i i)] [] := by
  refine vx_aload_n hC 1 rfl eL_law_947 ?_
  refine vx_aload_n hC 0 rfl eL_law_948 ?_
  refine vx_iload_n hC 3 rfl eL_law_949 ?_
  refine vx_iconst hC eL_law_950 ?_
  refine vx_iadd hC eL_law_951 ?_
  refine vx_sld hC hX hbl hbA (by omega) (by omega) eL_law_952 ?_
  refine vx_aload_n hC 0 rfl eL_law_953 ?_
  refine vx_iload_n hC 3 rfl eL_law_954 ?_
  refine vx_iconst hC eL_law_955 ?_
  refine vx_iadd hC eL_law_956 ?_
  refine vx_sld hC hX hbl hbA (by omega) (by omega) eL_law_957 ?_
  refine vx_callV_i hC (kX11_by G 0 _ _ _ _ _ h.1.1 (vi 32) (vi 33) (vi 31 3) (vi 31 22) (vi 44) h.2 h.1.2.1 (sx xs (i + 1)) (sx xs (i + 2)) (sx_r _ _) (sx_r _ _)) ly_L_107 (ot_0 h.1.1) rfl rfl rfl hRm (by omega) (Nat.le_of_ble_eq_true rfl) rfl eL_law_958 (fun z1 n1 t1 a1 b1 c1 hz => ?_)
  obtain ⟨hz1, hc1⟩ := hz
  obtain ⟨hI1, e32, e33, e31, e44⟩ := h.mid hc1
  refine vx_aload_n hC 2 rfl eL_law_961 ?_
  refine vx_aload_n hC 0 rfl eL_law_962 ?_
  refine vx_iload_n hC 3 rfl eL_law_963 ?_
  refine vx_iconst hC eL_law_964 ?_
  refine vx_iadd hC eL_law_965 ?_
  refine vx_sld hC hX hbl hbA (by omega) (by omega) eL_law_966 ?_
  refine vx_aload_n hC 0 rfl eL_law_967 ?_
  refine vx_iload_n hC 3 rfl eL_law_968 ?_
  refine vx_iconst hC eL_law_969 ?_
  refine vx_iadd hC eL_law_970 ?_
  refine vx_sld hC hX hbl hbA (by omega) (by omega) eL_law_971 ?_
  refine vx_callV_i hC (kX12_by G 0 _ _ _ _ _ hI1 (sx xs (i + 1)) (sx xs (i + 2)) (sx_r _ _) (sx_r _ _)) ly_L_110 (ot_31 hI1.1) rfl rfl rfl hRm (by omega) (Nat.le_of_ble_eq_true rfl) rfl eL_law_972 (fun z2 n2 t2 a2 b2 c2 hy => ?_)
  obtain ⟨hz2, hm2⟩ := hy
  simp only [e32, e33, e31, e44] at hm2
  (try rw [e32] at hz2); (try rw [e33] at hz2); (try rw [e31] at hz2); (try rw [e44] at hz2)
  subst hz1; subst hz2
  refine vx_icmp_same hC (tgt := 1151) (by decide) eL_law_975 ?_
  obtain ⟨hL2, hn2⟩ := LI.step (vr := vr) hc1 hm2 h.1.2.1 h.1.2.2.1 h.1.2.2.2.2.1 h.1.2.2.2.2.2
  exact kk _ _ _ _ _ _ _ hL2 (by have := hc1.1; omega) (by omega)
set_option maxHeartbeats 4000000 in
set_option maxRecDepth 100000 in
theorem lc_22 {G : xg_T} {K : xk_T} {Q : State → Prop} {cells slots n : Nat} {tau : Nat → Nat × Nat} {vi vl : Nat → Int → Int} {vr : Nat → Int → Option Nat} (hC : xk_C G K cL_law RL 4) {L : Nat} {xs : Nat → Int32} (hX : va_X (G.2.2.2 19) L xs (xk_s K) (xk_s K).heap) (hbl : G.2.2.2 19 < (xk_s K).heap.size) (hbA : ¬ xg_A G (G.2.2.2 19)) (hRm : xk_Rm K 100 600000 7302250) {i : Int} (hi : 0 ≤ i ∧ i + 5 ≤ (L : Int)) (hL : L ≤ 320) (h : LI n tau vi vr) (hn : n ≤ 1000) (hce : cells ≤ 1000 ∧ slots ≤ 100000) (kk : ∀ (n1 : Nat) (t1 : Nat → Nat × Nat) (a1 b1 : Nat → Int → Int) (c1 : Nat → Int → Option Nat) (ce sl : Nat), LI n1 t1 a1 c1 → n1 ≤ n + 4 → (ce ≤ cells + 4 ∧ sl ≤ slots + 304) → xv G K 4 Q ce sl n1 t1 a1 b1 c1 1151 [(0, xa_r 1000019), (1, xa_r 0), (2, xa_r 31), (3, xa_i i)] []) : xv G K 4 Q cells slots n tau vi vl vr 980 [(0, xa_r 1000019), (1, xa_r 0), (2, xa_r 31), (3, xa_i i)] [] := by
  refine vx_aload_n hC 1 rfl eL_law_980 ?_
  refine vx_aload_n hC 0 rfl eL_law_981 ?_
  refine vx_iload_n hC 3 rfl eL_law_982 ?_
  refine vx_iconst hC eL_law_983 ?_
  refine vx_iadd hC eL_law_984 ?_
  refine vx_sld hC hX hbl hbA (by omega) (by omega) eL_law_985 ?_
  refine vx_callV_i hC (kX11_seen G 0 _ _ _ _ _ h.1.1 (vi 32) (vi 33) (vi 31 3) (vi 31 22) (vi 44) h.2 h.1.2.1 (sx xs (i + 1)) (sx_r _ _)) ly_L_111 (ot_0 h.1.1) rfl rfl rfl hRm (by omega) (Nat.le_of_ble_eq_true rfl) rfl eL_law_986 (fun z1 n1 t1 a1 b1 c1 hz => ?_)
  obtain ⟨hz1, hc1⟩ := hz
  obtain ⟨hI1, e32, e33, e31, e44⟩ := h.mid hc1
  refine vx_aload_n hC 2 rfl eL_law_989 ?_
  refine vx_aload_n hC 0 rfl eL_law_990 ?_
  refine vx_iload_n hC 3 rfl eL_law_991 ?_
  refine vx_iconst hC eL_law_992 ?_
  refine vx_iadd hC eL_law_993 ?_
  refine vx_sld hC hX hbl hbA (by omega) (by omega) eL_law_994 ?_
  refine vx_callV_i hC (kX12_seen G 0 _ _ _ _ _ hI1 (sx xs (i + 1)) (sx_r _ _)) ly_L_114 (ot_31 hI1.1) rfl rfl rfl hRm (by omega) (Nat.le_of_ble_eq_true rfl) rfl eL_law_995 (fun z2 n2 t2 a2 b2 c2 hy => ?_)
  obtain ⟨hz2, hm2⟩ := hy
  simp only [e32, e33, e31, e44] at hm2
  (try rw [e32] at hz2); (try rw [e33] at hz2); (try rw [e31] at hz2); (try rw [e44] at hz2)
  subst hz1; subst hz2
  refine vx_icmp_same hC (tgt := 1151) (by decide) eL_law_998 ?_
  obtain ⟨hL2, hn2⟩ := LI.step (vr := vr) hc1 hm2 h.1.2.1 h.1.2.2.1 h.1.2.2.2.2.1 h.1.2.2.2.2.2
  exact kk _ _ _ _ _ _ _ hL2 (by have := hc1.1; omega) (by omega)
set_option maxHeartbeats 4000000 in
set_option maxRecDepth 100000 in
theorem lc_23 {G : xg_T} {K : xk_T} {Q : State → Prop} {cells slots n : Nat} {tau : Nat → Nat × Nat} {vi vl : Nat → Int → Int} {vr : Nat → Int → Option Nat} (hC : xk_C G K cL_law RL 4) {L : Nat} {xs : Nat → Int32} (hX : va_X (G.2.2.2 19) L xs (xk_s K) (xk_s K).heap) (hbl : G.2.2.2 19 < (xk_s K).heap.size) (hbA : ¬ xg_A G (G.2.2.2 19)) (hRm : xk_Rm K 100 600000 7302250) {i : Int} (hi : 0 ≤ i ∧ i + 5 ≤ (L : Int)) (hL : L ≤ 320) (h : LI n tau vi vr) (hn : n ≤ 1000) (hce : cells ≤ 1000 ∧ slots ≤ 100000) (kk : ∀ (n1 : Nat) (t1 : Nat → Nat × Nat) (a1 b1 : Nat → Int → Int) (c1 : Nat → Int → Option Nat) (ce sl : Nat), LI n1 t1 a1 c1 → n1 ≤ n + 4 → (ce ≤ cells + 4 ∧ sl ≤ slots + 304) → xv G K 4 Q ce sl n1 t1 a1 b1 c1 1151 [(0, xa_r 1000019), (1, xa_r 0), (2, xa_r 31), (3, xa_i i)] []) : xv G K 4 Q cells slots n tau vi vl vr 1003 [(0, xa_r 1000019), (1, xa_r 0), (2, xa_r 31), (3, xa_i i)] [] := by
  refine vx_aload_n hC 1 rfl eL_law_1003 ?_
  refine vx_aload_n hC 0 rfl eL_law_1004 ?_
  refine vx_iload_n hC 3 rfl eL_law_1005 ?_
  refine vx_iconst hC eL_law_1006 ?_
  refine vx_iadd hC eL_law_1007 ?_
  refine vx_sld hC hX hbl hbA (by omega) (by omega) eL_law_1008 ?_
  refine vx_aload_n hC 0 rfl eL_law_1009 ?_
  refine vx_iload_n hC 3 rfl eL_law_1010 ?_
  refine vx_iconst hC eL_law_1011 ?_
  refine vx_iadd hC eL_law_1012 ?_
  refine vx_sld hC hX hbl hbA (by omega) (by omega) eL_law_1013 ?_
  refine vx_aload_n hC 0 rfl eL_law_1014 ?_
  refine vx_iload_n hC 3 rfl eL_law_1015 ?_
  refine vx_iconst hC eL_law_1016 ?_
  refine vx_iadd hC eL_law_1017 ?_
  refine vx_sld hC hX hbl hbA (by omega) (by omega) eL_law_1018 ?_
  refine vx_callV_i hC (kX11_act G 0 _ _ _ _ _ h.1.1 (vi 32) (vi 33) (vi 31 3) (vi 31 22) (vi 44) h.2 h.1.2.1 (sx xs (i + 1)) (sx xs (i + 2)) (sx xs (i + 3)) (sx_r _ _) (sx_r _ _)) ly_L_115 (ot_0 h.1.1) rfl rfl rfl hRm (by omega) (Nat.le_of_ble_eq_true rfl) rfl eL_law_1019 (fun z1 n1 t1 a1 b1 c1 hz => ?_)
  obtain ⟨hz1, hc1⟩ := hz
  obtain ⟨hI1, e32, e33, e31, e44⟩ := h.mid hc1
  refine vx_aload_n hC 2 rfl eL_law_1022 ?_
  refine vx_aload_n hC 0 rfl eL_law_1023 ?_
  refine vx_iload_n hC 3 rfl eL_law_1024 ?_
  refine vx_iconst hC eL_law_1025 ?_
  refine vx_iadd hC eL_law_1026 ?_
  refine vx_sld hC hX hbl hbA (by omega) (by omega) eL_law_1027 ?_
  refine vx_aload_n hC 0 rfl eL_law_1028 ?_
  refine vx_iload_n hC 3 rfl eL_law_1029 ?_
  refine vx_iconst hC eL_law_1030 ?_
  refine vx_iadd hC eL_law_1031 ?_
  refine vx_sld hC hX hbl hbA (by omega) (by omega) eL_law_1032 ?_
  refine vx_aload_n hC 0 rfl eL_law_1033 ?_
  refine vx_iload_n hC 3 rfl eL_law_1034 ?_
  refine vx_iconst hC eL_law_1035 ?_
  refine vx_iadd hC eL_law_1036 ?_
  refine vx_sld hC hX hbl hbA (by omega) (by omega) eL_law_1037 ?_
  refine vx_callV_i hC (kX12_act G 0 _ _ _ _ _ hI1 (sx xs (i + 1)) (sx xs (i + 2)) (sx xs (i + 3)) (sx_r _ _) (sx_r _ _)) ly_L_118 (ot_31 hI1.1) rfl rfl rfl hRm (by omega) (Nat.le_of_ble_eq_true rfl) rfl eL_law_1038 (fun z2 n2 t2 a2 b2 c2 hy => ?_)
  obtain ⟨hz2, hm2⟩ := hy
  simp only [e32, e33, e31, e44] at hm2
  (try rw [e32] at hz2); (try rw [e33] at hz2); (try rw [e31] at hz2); (try rw [e44] at hz2)
  subst hz1; subst hz2
  refine vx_icmp_same hC (tgt := 1151) (by decide) eL_law_1041 ?_
  obtain ⟨hL2, hn2⟩ := LI.step (vr := vr) hc1 hm2 h.1.2.1 h.1.2.2.1 h.1.2.2.2.2.1 h.1.2.2.2.2.2
  exact kk _ _ _ _ _ _ _ hL2 (by have := hc1.1; omega) (by omega)
set_option maxHeartbeats 4000000 in
set_option maxRecDepth 100000 in
theorem lc_24 {G : xg_T} {K : xk_T} {Q : State → Prop} {cells slots n : Nat} {tau : Nat → Nat × Nat} {vi vl : Nat → Int → Int} {vr : Nat → Int → Option Nat} (hC : xk_C G K cL_law RL 4) {L : Nat} {xs : Nat → Int32} (hX : va_X (G.2.2.2 19) L xs (xk_s K) (xk_s K).heap) (hbl : G.2.2.2 19 < (xk_s K).heap.size) (hbA : ¬ xg_A G (G.2.2.2 19)) (hRm : xk_Rm K 100 600000 7302250) {i : Int} (hi : 0 ≤ i ∧ i + 5 ≤ (L : Int)) (hL : L ≤ 320) (h : LI n tau vi vr) (hn : n ≤ 1000) (hce : cells ≤ 1000 ∧ slots ≤ 100000) (kk : ∀ (n1 : Nat) (t1 : Nat → Nat × Nat) (a1 b1 : Nat → Int → Int) (c1 : Nat → Int → Option Nat) (ce sl : Nat), LI n1 t1 a1 c1 → n1 ≤ n + 4 → (ce ≤ cells + 4 ∧ sl ≤ slots + 304) → xv G K 4 Q ce sl n1 t1 a1 b1 c1 1151 [(0, xa_r 1000019), (1, xa_r 0), (2, xa_r 31), (3, xa_i i)] []) : xv G K 4 Q cells slots n tau vi vl vr 1046 [(0, xa_r 1000019), (1, xa_r 0), (2, xa_r 31), (3, xa_i i)] [] := by
  refine vx_aload_n hC 1 rfl eL_law_1046 ?_
  refine vx_aload_n hC 0 rfl eL_law_1047 ?_
  refine vx_iload_n hC 3 rfl eL_law_1048 ?_
  refine vx_iconst hC eL_law_1049 ?_
  refine vx_iadd hC eL_law_1050 ?_
  refine vx_sld hC hX hbl hbA (by omega) (by omega) eL_law_1051 ?_
  refine vx_callV_i hC (kX11_trace G 0 _ _ _ _ _ h.1.1 (vi 32) (vi 33) (vi 31 3) (vi 31 22) (vi 44) h.2 h.1.2.1 (sx xs (i + 1)) (sx_r _ _)) ly_L_119 (ot_0 h.1.1) rfl rfl rfl hRm (by omega) (Nat.le_of_ble_eq_true rfl) rfl eL_law_1052 (fun z1 n1 t1 a1 b1 c1 hz => ?_)
  obtain ⟨hz1, hc1⟩ := hz
  obtain ⟨hI1, e32, e33, e31, e44⟩ := h.mid hc1
  refine vx_aload_n hC 2 rfl eL_law_1055 ?_
  refine vx_aload_n hC 0 rfl eL_law_1056 ?_
  refine vx_iload_n hC 3 rfl eL_law_1057 ?_
  refine vx_iconst hC eL_law_1058 ?_
  refine vx_iadd hC eL_law_1059 ?_
  refine vx_sld hC hX hbl hbA (by omega) (by omega) eL_law_1060 ?_
  refine vx_callV_i hC (kX12_trace G 0 _ _ _ _ _ hI1 (sx xs (i + 1)) (sx_r _ _)) ly_L_122 (ot_31 hI1.1) rfl rfl rfl hRm (by omega) (Nat.le_of_ble_eq_true rfl) rfl eL_law_1061 (fun z2 n2 t2 a2 b2 c2 hy => ?_)
  obtain ⟨hz2, hm2⟩ := hy
  simp only [e32, e33, e31, e44] at hm2
  (try rw [e32] at hz2); (try rw [e33] at hz2); (try rw [e31] at hz2); (try rw [e44] at hz2)
  subst hz1; subst hz2
  refine vx_icmp_same hC (tgt := 1151) (by decide) eL_law_1064 ?_
  obtain ⟨hL2, hn2⟩ := LI.step (vr := vr) hc1 hm2 h.1.2.1 h.1.2.2.1 h.1.2.2.2.2.1 h.1.2.2.2.2.2
  exact kk _ _ _ _ _ _ _ hL2 (by have := hc1.1; omega) (by omega)
set_option maxHeartbeats 4000000 in
set_option maxRecDepth 100000 in
theorem lc_25 {G : xg_T} {K : xk_T} {Q : State → Prop} {cells slots n : Nat} {tau : Nat → Nat × Nat} {vi vl : Nat → Int → Int} {vr : Nat → Int → Option Nat} (hC : xk_C G K cL_law RL 4) {L : Nat} {xs : Nat → Int32} (hX : va_X (G.2.2.2 19) L xs (xk_s K) (xk_s K).heap) (hbl : G.2.2.2 19 < (xk_s K).heap.size) (hbA : ¬ xg_A G (G.2.2.2 19)) (hRm : xk_Rm K 100 600000 7302250) {i : Int} (hi : 0 ≤ i ∧ i + 5 ≤ (L : Int)) (hL : L ≤ 320) (h : LI n tau vi vr) (hn : n ≤ 1000) (hce : cells ≤ 1000 ∧ slots ≤ 100000) (kk : ∀ (n1 : Nat) (t1 : Nat → Nat × Nat) (a1 b1 : Nat → Int → Int) (c1 : Nat → Int → Option Nat) (ce sl : Nat), LI n1 t1 a1 c1 → n1 ≤ n + 4 → (ce ≤ cells + 4 ∧ sl ≤ slots + 304) → xv G K 4 Q ce sl n1 t1 a1 b1 c1 1151 [(0, xa_r 1000019), (1, xa_r 0), (2, xa_r 31), (3, xa_i i)] []) : xv G K 4 Q cells slots n tau vi vl vr 1069 [(0, xa_r 1000019), (1, xa_r 0), (2, xa_r 31), (3, xa_i i)] [] := by
  refine vx_aload_n hC 1 rfl eL_law_1069 ?_
  refine vx_aload_n hC 0 rfl eL_law_1070 ?_
  refine vx_iload_n hC 3 rfl eL_law_1071 ?_
  refine vx_iconst hC eL_law_1072 ?_
  refine vx_iadd hC eL_law_1073 ?_
  refine vx_sld hC hX hbl hbA (by omega) (by omega) eL_law_1074 ?_
  refine vx_aload_n hC 0 rfl eL_law_1075 ?_
  refine vx_iload_n hC 3 rfl eL_law_1076 ?_
  refine vx_iconst hC eL_law_1077 ?_
  refine vx_iadd hC eL_law_1078 ?_
  refine vx_sld hC hX hbl hbA (by omega) (by omega) eL_law_1079 ?_
  refine vx_callV_i hC (kX11_as G 0 _ _ _ _ _ h.1.1 (vi 32) (vi 33) (vi 31 3) (vi 31 22) (vi 44) h.2 h.1.2.1 (sx xs (i + 1)) (sx xs (i + 2)) (sx_r _ _) (sx_r _ _)) ly_L_123 (ot_0 h.1.1) rfl rfl rfl hRm (by omega) (Nat.le_of_ble_eq_true rfl) rfl eL_law_1080 (fun z1 n1 t1 a1 b1 c1 hz => ?_)
  obtain ⟨hz1, hc1⟩ := hz
  obtain ⟨hI1, e32, e33, e31, e44⟩ := h.mid hc1
  refine vx_aload_n hC 2 rfl eL_law_1083 ?_
  refine vx_aload_n hC 0 rfl eL_law_1084 ?_
  refine vx_iload_n hC 3 rfl eL_law_1085 ?_
  refine vx_iconst hC eL_law_1086 ?_
  refine vx_iadd hC eL_law_1087 ?_
  refine vx_sld hC hX hbl hbA (by omega) (by omega) eL_law_1088 ?_
  refine vx_aload_n hC 0 rfl eL_law_1089 ?_
  refine vx_iload_n hC 3 rfl eL_law_1090 ?_
  refine vx_iconst hC eL_law_1091 ?_
  refine vx_iadd hC eL_law_1092 ?_
  refine vx_sld hC hX hbl hbA (by omega) (by omega) eL_law_1093 ?_
  refine vx_callV_i hC (kX12_as G 0 _ _ _ _ _ hI1 (sx xs (i + 1)) (sx xs (i + 2)) (sx_r _ _) (sx_r _ _)) ly_L_126 (ot_31 hI1.1) rfl rfl rfl hRm (by omega) (Nat.le_of_ble_eq_true rfl) rfl eL_law_1094 (fun z2 n2 t2 a2 b2 c2 hy => ?_)
  obtain ⟨hz2, hm2⟩ := hy
  simp only [e32, e33, e31, e44] at hm2
  (try rw [e32] at hz2); (try rw [e33] at hz2); (try rw [e31] at hz2); (try rw [e44] at hz2)
  subst hz1; subst hz2
  refine vx_icmp_same hC (tgt := 1151) (by decide) eL_law_1097 ?_
  obtain ⟨hL2, hn2⟩ := LI.step (vr := vr) hc1 hm2 h.1.2.1 h.1.2.2.1 h.1.2.2.2.2.1 h.1.2.2.2.2.2
  exact kk _ _ _ _ _ _ _ hL2 (by have := hc1.1; omega) (by omega)
set_option maxHeartbeats 4000000 in
set_option maxRecDepth 100000 in
theorem lc_26 {G : xg_T} {K : xk_T} {Q : State → Prop} {cells slots n : Nat} {tau : Nat → Nat × Nat} {vi vl : Nat → Int → Int} {vr : Nat → Int → Option Nat} (hC : xk_C G K cL_law RL 4) {L : Nat} {xs : Nat → Int32} (hX : va_X (G.2.2.2 19) L xs (xk_s K) (xk_s K).heap) (hbl : G.2.2.2 19 < (xk_s K).heap.size) (hbA : ¬ xg_A G (G.2.2.2 19)) (hRm : xk_Rm K 100 600000 7302250) {i : Int} (hi : 0 ≤ i ∧ i + 5 ≤ (L : Int)) (hL : L ≤ 320) (h : LI n tau vi vr) (hn : n ≤ 1000) (hce : cells ≤ 1000 ∧ slots ≤ 100000) (kk : ∀ (n1 : Nat) (t1 : Nat → Nat × Nat) (a1 b1 : Nat → Int → Int) (c1 : Nat → Int → Option Nat) (ce sl : Nat), LI n1 t1 a1 c1 → n1 ≤ n + 4 → (ce ≤ cells + 4 ∧ sl ≤ slots + 304) → xv G K 4 Q ce sl n1 t1 a1 b1 c1 1151 [(0, xa_r 1000019), (1, xa_r 0), (2, xa_r 31), (3, xa_i i)] []) : xv G K 4 Q cells slots n tau vi vl vr 1102 [(0, xa_r 1000019), (1, xa_r 0), (2, xa_r 31), (3, xa_i i)] [] := by
  refine vx_aload_n hC 1 rfl eL_law_1102 ?_
  refine vx_callV_i hC (kX11_image G 0 _ _ _ _ _ h.1.1 (vi 32) (vi 33) (vi 31 3) (vi 31 22) (vi 44) h.2 h.1.2.1 ) ly_L_127 (ot_0 h.1.1) rfl rfl rfl hRm (by omega) (Nat.le_of_ble_eq_true rfl) rfl eL_law_1103 (fun z1 n1 t1 a1 b1 c1 hz => ?_)
  obtain ⟨hz1, hc1⟩ := hz
  obtain ⟨hI1, e32, e33, e31, e44⟩ := h.mid hc1
  refine vx_aload_n hC 2 rfl eL_law_1106 ?_
  refine vx_callV_i hC (kX12_image G 0 _ _ _ _ _ hI1 ) ly_L_130 (ot_31 hI1.1) rfl rfl rfl hRm (by omega) (Nat.le_of_ble_eq_true rfl) rfl eL_law_1107 (fun z2 n2 t2 a2 b2 c2 hy => ?_)
  obtain ⟨hz2, hm2⟩ := hy
  simp only [e32, e33, e31, e44] at hm2
  (try rw [e32] at hz2); (try rw [e33] at hz2); (try rw [e31] at hz2); (try rw [e44] at hz2)
  subst hz1; subst hz2
  refine vx_icmp_same hC (tgt := 1151) (by decide) eL_law_1110 ?_
  obtain ⟨hL2, hn2⟩ := LI.step (vr := vr) hc1 hm2 h.1.2.1 (Or.inr ⟨rfl, h.1.2.1⟩) h.1.2.2.2.2.1 h.1.2.2.2.2.1
  exact kk _ _ _ _ _ _ _ hL2 (by have := hc1.1; omega) (by omega)
set_option maxHeartbeats 4000000 in
set_option maxRecDepth 100000 in
theorem lc_27 {G : xg_T} {K : xk_T} {Q : State → Prop} {cells slots n : Nat} {tau : Nat → Nat × Nat} {vi vl : Nat → Int → Int} {vr : Nat → Int → Option Nat} (hC : xk_C G K cL_law RL 4) {L : Nat} {xs : Nat → Int32} (hX : va_X (G.2.2.2 19) L xs (xk_s K) (xk_s K).heap) (hbl : G.2.2.2 19 < (xk_s K).heap.size) (hbA : ¬ xg_A G (G.2.2.2 19)) (hRm : xk_Rm K 100 600000 7302250) {i : Int} (hi : 0 ≤ i ∧ i + 5 ≤ (L : Int)) (hL : L ≤ 320) (h : LI n tau vi vr) (hn : n ≤ 1000) (hce : cells ≤ 1000 ∧ slots ≤ 100000) (kk : ∀ (n1 : Nat) (t1 : Nat → Nat × Nat) (a1 b1 : Nat → Int → Int) (c1 : Nat → Int → Option Nat) (ce sl : Nat), LI n1 t1 a1 c1 → n1 ≤ n + 4 → (ce ≤ cells + 4 ∧ sl ≤ slots + 304) → xv G K 4 Q ce sl n1 t1 a1 b1 c1 1151 [(0, xa_r 1000019), (1, xa_r 0), (2, xa_r 31), (3, xa_i i)] []) : xv G K 4 Q cells slots n tau vi vl vr 1115 [(0, xa_r 1000019), (1, xa_r 0), (2, xa_r 31), (3, xa_i i)] [] := by
  refine vx_aload_n hC 1 rfl eL_law_1115 ?_
  refine vx_callV_i hC (kX11_undo G 0 _ _ _ _ _ h.1.1 (vi 32) (vi 33) (vi 31 3) (vi 31 22) (vi 44) h.2 h.1.2.1 (fun e9 => (h.1.2.2.1.resolve_left (by omega)).2) ) ly_L_131 (ot_0 h.1.1) rfl rfl rfl hRm (by omega) (Nat.le_of_ble_eq_true rfl) rfl eL_law_1116 (fun z1 n1 t1 a1 b1 c1 hz => ?_)
  obtain ⟨hz1, hc1⟩ := hz
  obtain ⟨hI1, e32, e33, e31, e44⟩ := h.mid hc1
  refine vx_aload_n hC 2 rfl eL_law_1119 ?_
  refine vx_callV_i hC (kX12_undo G 0 _ _ _ _ _ hI1 ) ly_L_134 (ot_31 hI1.1) rfl rfl rfl hRm (by omega) (Nat.le_of_ble_eq_true rfl) rfl eL_law_1120 (fun z2 n2 t2 a2 b2 c2 hy => ?_)
  obtain ⟨hz2, hm2⟩ := hy
  simp only [e32, e33, e31, e44] at hm2
  (try rw [e32] at hz2); (try rw [e33] at hz2); (try rw [e31] at hz2); (try rw [e44] at hz2)
  subst hz1; subst hz2
  refine vx_icmp_same hC (tgt := 1151) (by decide) eL_law_1123 ?_
  obtain ⟨hL2, hn2⟩ := LI.step (vr := vr) hc1 hm2 (undo_V h.1.2.1 h.1.2.2.1) h.1.2.2.1 (undo_O h.1.2.2.2.2.1 h.1.2.2.2.2.2) h.1.2.2.2.2.2
  exact kk _ _ _ _ _ _ _ hL2 (by have := hc1.1; omega) (by omega)
set_option maxHeartbeats 4000000 in
set_option maxRecDepth 100000 in
theorem lc_28 {G : xg_T} {K : xk_T} {Q : State → Prop} {cells slots n : Nat} {tau : Nat → Nat × Nat} {vi vl : Nat → Int → Int} {vr : Nat → Int → Option Nat} (hC : xk_C G K cL_law RL 4) {L : Nat} {xs : Nat → Int32} (hX : va_X (G.2.2.2 19) L xs (xk_s K) (xk_s K).heap) (hbl : G.2.2.2 19 < (xk_s K).heap.size) (hbA : ¬ xg_A G (G.2.2.2 19)) (hRm : xk_Rm K 100 600000 7302250) {i : Int} (hi : 0 ≤ i ∧ i + 5 ≤ (L : Int)) (hL : L ≤ 320) (h : LI n tau vi vr) (hn : n ≤ 1000) (hce : cells ≤ 1000 ∧ slots ≤ 100000) (kk : ∀ (n1 : Nat) (t1 : Nat → Nat × Nat) (a1 b1 : Nat → Int → Int) (c1 : Nat → Int → Option Nat) (ce sl : Nat), LI n1 t1 a1 c1 → n1 ≤ n + 4 → (ce ≤ cells + 4 ∧ sl ≤ slots + 304) → xv G K 4 Q ce sl n1 t1 a1 b1 c1 1151 [(0, xa_r 1000019), (1, xa_r 0), (2, xa_r 31), (3, xa_i i)] []) : xv G K 4 Q cells slots n tau vi vl vr 1128 [(0, xa_r 1000019), (1, xa_r 0), (2, xa_r 31), (3, xa_i i)] [] := by
  refine vx_aload_n hC 1 rfl eL_law_1128 ?_
  refine vx_aload_n hC 0 rfl eL_law_1129 ?_
  refine vx_iload_n hC 3 rfl eL_law_1130 ?_
  refine vx_iconst hC eL_law_1131 ?_
  refine vx_iadd hC eL_law_1132 ?_
  refine vx_sld hC hX hbl hbA (by omega) (by omega) eL_law_1133 ?_
  refine vx_callV_i hC (kX11_count G 0 _ _ _ _ _ h.1.1 (vi 32) (vi 33) (vi 31 3) (vi 31 22) (vi 44) h.2 h.1.2.1 (sx xs (i + 1)) (sx_r _ _)) ly_L_135 (ot_0 h.1.1) rfl rfl rfl hRm (by omega) (Nat.le_of_ble_eq_true rfl) rfl eL_law_1134 (fun z1 n1 t1 a1 b1 c1 hz => ?_)
  obtain ⟨hz1, hc1⟩ := hz
  obtain ⟨hI1, e32, e33, e31, e44⟩ := h.mid hc1
  refine vx_aload_n hC 2 rfl eL_law_1137 ?_
  refine vx_aload_n hC 0 rfl eL_law_1138 ?_
  refine vx_iload_n hC 3 rfl eL_law_1139 ?_
  refine vx_iconst hC eL_law_1140 ?_
  refine vx_iadd hC eL_law_1141 ?_
  refine vx_sld hC hX hbl hbA (by omega) (by omega) eL_law_1142 ?_
  refine vx_callV_i hC (kX12_count G 0 _ _ _ _ _ hI1 (sx xs (i + 1)) (sx_r _ _)) ly_L_138 (ot_31 hI1.1) rfl rfl rfl hRm (by omega) (Nat.le_of_ble_eq_true rfl) rfl eL_law_1143 (fun z2 n2 t2 a2 b2 c2 hy => ?_)
  obtain ⟨hz2, hm2⟩ := hy
  simp only [e32, e33, e31, e44] at hm2
  (try rw [e32] at hz2); (try rw [e33] at hz2); (try rw [e31] at hz2); (try rw [e44] at hz2)
  subst hz1; subst hz2
  refine vx_icmp_same hC (tgt := 1151) (by decide) eL_law_1146 ?_
  obtain ⟨hL2, hn2⟩ := LI.step (vr := vr) hc1 hm2 h.1.2.1 h.1.2.2.1 h.1.2.2.2.2.1 h.1.2.2.2.2.2
  exact kk _ _ _ _ _ _ _ hL2 (by have := hc1.1; omega) (by omega)
