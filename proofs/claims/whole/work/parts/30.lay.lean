def xo_l : List (Nat × Nat) := [(11, 0), (6, 0), (13, 100), (18, 5), (17, 4), (14, 4), (14, 16), (14, 6), (6, 0), (13, 100), (18, 5), (17, 4), (14, 4), (14, 16), (14, 6), (2, 0), (15, 13), (15, 13), (14, 13), (14, 13), (14, 13), (14, 91), (15, 169), (15, 169), (14, 3), (15, 3), (5, 0), (14, 10), (14, 10), (14, 100), (14, 21), (12, 0), (14, 876), (14, 876), (14, 6), (16, 64), (15, 13), (15, 13), (15, 13), (15, 13), (15, 169), (15, 169), (15, 7), (15, 7), (14, 20)]
def xo_rl : List (Nat × Int × Nat) := [(0, 0, 1), (0, 1, 8), (0, 3, 15), (0, 4, 26), (0, 5, 30), (1, 0, 2), (1, 2, 3), (1, 4, 4), (1, 5, 5), (1, 6, 6), (1, 11, 7), (8, 0, 9), (8, 2, 10), (8, 4, 11), (8, 5, 12), (8, 6, 13), (8, 11, 14), (15, 0, 16), (15, 1, 17), (15, 4, 18), (15, 5, 19), (15, 6, 20), (15, 7, 21), (15, 10, 24), (15, 11, 25), (26, 3, 27), (26, 4, 28), (26, 6, 29), (31, 1, 32), (31, 2, 33), (31, 9, 34), (31, 10, 35), (31, 11, 36), (31, 12, 37), (31, 14, 38), (31, 15, 39), (31, 17, 40), (31, 18, 41), (31, 19, 42), (31, 20, 43), (31, 21, 44)]
def xo (n : Nat) (tau : Nat → Nat × Nat) (vr : Nat → Int → Option Nat) : Prop := (45 ≤ n ∧ n ≤ 100000) ∧ (∀ k, k < 45 → tau k = xo_l.getD k (0, 0)) ∧ ∀ q ∈ xo_rl, vr q.1 q.2.1 = some q.2.2
theorem ot_0 {n : Nat} {tau : Nat → Nat × Nat} {vr : Nat → Int → Option Nat} (h : xo n tau vr) : 0 < n ∧ tau 0 = (11, 0) := ⟨by have := h.1; omega, h.2.1 0 (by decide)⟩
theorem ot_1 {n : Nat} {tau : Nat → Nat × Nat} {vr : Nat → Int → Option Nat} (h : xo n tau vr) : 1 < n ∧ tau 1 = (6, 0) := ⟨by have := h.1; omega, h.2.1 1 (by decide)⟩
theorem ot_2 {n : Nat} {tau : Nat → Nat × Nat} {vr : Nat → Int → Option Nat} (h : xo n tau vr) : 2 < n ∧ tau 2 = (13, 100) := ⟨by have := h.1; omega, h.2.1 2 (by decide)⟩
theorem ot_3 {n : Nat} {tau : Nat → Nat × Nat} {vr : Nat → Int → Option Nat} (h : xo n tau vr) : 3 < n ∧ tau 3 = (18, 5) := ⟨by have := h.1; omega, h.2.1 3 (by decide)⟩
theorem ot_4 {n : Nat} {tau : Nat → Nat × Nat} {vr : Nat → Int → Option Nat} (h : xo n tau vr) : 4 < n ∧ tau 4 = (17, 4) := ⟨by have := h.1; omega, h.2.1 4 (by decide)⟩
theorem ot_5 {n : Nat} {tau : Nat → Nat × Nat} {vr : Nat → Int → Option Nat} (h : xo n tau vr) : 5 < n ∧ tau 5 = (14, 4) := ⟨by have := h.1; omega, h.2.1 5 (by decide)⟩
theorem ot_6 {n : Nat} {tau : Nat → Nat × Nat} {vr : Nat → Int → Option Nat} (h : xo n tau vr) : 6 < n ∧ tau 6 = (14, 16) := ⟨by have := h.1; omega, h.2.1 6 (by decide)⟩
theorem ot_7 {n : Nat} {tau : Nat → Nat × Nat} {vr : Nat → Int → Option Nat} (h : xo n tau vr) : 7 < n ∧ tau 7 = (14, 6) := ⟨by have := h.1; omega, h.2.1 7 (by decide)⟩
theorem ot_8 {n : Nat} {tau : Nat → Nat × Nat} {vr : Nat → Int → Option Nat} (h : xo n tau vr) : 8 < n ∧ tau 8 = (6, 0) := ⟨by have := h.1; omega, h.2.1 8 (by decide)⟩
theorem ot_9 {n : Nat} {tau : Nat → Nat × Nat} {vr : Nat → Int → Option Nat} (h : xo n tau vr) : 9 < n ∧ tau 9 = (13, 100) := ⟨by have := h.1; omega, h.2.1 9 (by decide)⟩
theorem ot_10 {n : Nat} {tau : Nat → Nat × Nat} {vr : Nat → Int → Option Nat} (h : xo n tau vr) : 10 < n ∧ tau 10 = (18, 5) := ⟨by have := h.1; omega, h.2.1 10 (by decide)⟩
theorem ot_11 {n : Nat} {tau : Nat → Nat × Nat} {vr : Nat → Int → Option Nat} (h : xo n tau vr) : 11 < n ∧ tau 11 = (17, 4) := ⟨by have := h.1; omega, h.2.1 11 (by decide)⟩
theorem ot_12 {n : Nat} {tau : Nat → Nat × Nat} {vr : Nat → Int → Option Nat} (h : xo n tau vr) : 12 < n ∧ tau 12 = (14, 4) := ⟨by have := h.1; omega, h.2.1 12 (by decide)⟩
theorem ot_13 {n : Nat} {tau : Nat → Nat × Nat} {vr : Nat → Int → Option Nat} (h : xo n tau vr) : 13 < n ∧ tau 13 = (14, 16) := ⟨by have := h.1; omega, h.2.1 13 (by decide)⟩
theorem ot_14 {n : Nat} {tau : Nat → Nat × Nat} {vr : Nat → Int → Option Nat} (h : xo n tau vr) : 14 < n ∧ tau 14 = (14, 6) := ⟨by have := h.1; omega, h.2.1 14 (by decide)⟩
theorem ot_15 {n : Nat} {tau : Nat → Nat × Nat} {vr : Nat → Int → Option Nat} (h : xo n tau vr) : 15 < n ∧ tau 15 = (2, 0) := ⟨by have := h.1; omega, h.2.1 15 (by decide)⟩
theorem ot_16 {n : Nat} {tau : Nat → Nat × Nat} {vr : Nat → Int → Option Nat} (h : xo n tau vr) : 16 < n ∧ tau 16 = (15, 13) := ⟨by have := h.1; omega, h.2.1 16 (by decide)⟩
theorem ot_17 {n : Nat} {tau : Nat → Nat × Nat} {vr : Nat → Int → Option Nat} (h : xo n tau vr) : 17 < n ∧ tau 17 = (15, 13) := ⟨by have := h.1; omega, h.2.1 17 (by decide)⟩
theorem ot_18 {n : Nat} {tau : Nat → Nat × Nat} {vr : Nat → Int → Option Nat} (h : xo n tau vr) : 18 < n ∧ tau 18 = (14, 13) := ⟨by have := h.1; omega, h.2.1 18 (by decide)⟩
theorem ot_19 {n : Nat} {tau : Nat → Nat × Nat} {vr : Nat → Int → Option Nat} (h : xo n tau vr) : 19 < n ∧ tau 19 = (14, 13) := ⟨by have := h.1; omega, h.2.1 19 (by decide)⟩
theorem ot_20 {n : Nat} {tau : Nat → Nat × Nat} {vr : Nat → Int → Option Nat} (h : xo n tau vr) : 20 < n ∧ tau 20 = (14, 13) := ⟨by have := h.1; omega, h.2.1 20 (by decide)⟩
theorem ot_21 {n : Nat} {tau : Nat → Nat × Nat} {vr : Nat → Int → Option Nat} (h : xo n tau vr) : 21 < n ∧ tau 21 = (14, 91) := ⟨by have := h.1; omega, h.2.1 21 (by decide)⟩
theorem ot_22 {n : Nat} {tau : Nat → Nat × Nat} {vr : Nat → Int → Option Nat} (h : xo n tau vr) : 22 < n ∧ tau 22 = (15, 169) := ⟨by have := h.1; omega, h.2.1 22 (by decide)⟩
theorem ot_23 {n : Nat} {tau : Nat → Nat × Nat} {vr : Nat → Int → Option Nat} (h : xo n tau vr) : 23 < n ∧ tau 23 = (15, 169) := ⟨by have := h.1; omega, h.2.1 23 (by decide)⟩
theorem ot_24 {n : Nat} {tau : Nat → Nat × Nat} {vr : Nat → Int → Option Nat} (h : xo n tau vr) : 24 < n ∧ tau 24 = (14, 3) := ⟨by have := h.1; omega, h.2.1 24 (by decide)⟩
theorem ot_25 {n : Nat} {tau : Nat → Nat × Nat} {vr : Nat → Int → Option Nat} (h : xo n tau vr) : 25 < n ∧ tau 25 = (15, 3) := ⟨by have := h.1; omega, h.2.1 25 (by decide)⟩
theorem ot_26 {n : Nat} {tau : Nat → Nat × Nat} {vr : Nat → Int → Option Nat} (h : xo n tau vr) : 26 < n ∧ tau 26 = (5, 0) := ⟨by have := h.1; omega, h.2.1 26 (by decide)⟩
theorem ot_27 {n : Nat} {tau : Nat → Nat × Nat} {vr : Nat → Int → Option Nat} (h : xo n tau vr) : 27 < n ∧ tau 27 = (14, 10) := ⟨by have := h.1; omega, h.2.1 27 (by decide)⟩
theorem ot_28 {n : Nat} {tau : Nat → Nat × Nat} {vr : Nat → Int → Option Nat} (h : xo n tau vr) : 28 < n ∧ tau 28 = (14, 10) := ⟨by have := h.1; omega, h.2.1 28 (by decide)⟩
theorem ot_29 {n : Nat} {tau : Nat → Nat × Nat} {vr : Nat → Int → Option Nat} (h : xo n tau vr) : 29 < n ∧ tau 29 = (14, 100) := ⟨by have := h.1; omega, h.2.1 29 (by decide)⟩
theorem ot_30 {n : Nat} {tau : Nat → Nat × Nat} {vr : Nat → Int → Option Nat} (h : xo n tau vr) : 30 < n ∧ tau 30 = (14, 21) := ⟨by have := h.1; omega, h.2.1 30 (by decide)⟩
theorem ot_31 {n : Nat} {tau : Nat → Nat × Nat} {vr : Nat → Int → Option Nat} (h : xo n tau vr) : 31 < n ∧ tau 31 = (12, 0) := ⟨by have := h.1; omega, h.2.1 31 (by decide)⟩
theorem ot_32 {n : Nat} {tau : Nat → Nat × Nat} {vr : Nat → Int → Option Nat} (h : xo n tau vr) : 32 < n ∧ tau 32 = (14, 876) := ⟨by have := h.1; omega, h.2.1 32 (by decide)⟩
theorem ot_33 {n : Nat} {tau : Nat → Nat × Nat} {vr : Nat → Int → Option Nat} (h : xo n tau vr) : 33 < n ∧ tau 33 = (14, 876) := ⟨by have := h.1; omega, h.2.1 33 (by decide)⟩
theorem ot_34 {n : Nat} {tau : Nat → Nat × Nat} {vr : Nat → Int → Option Nat} (h : xo n tau vr) : 34 < n ∧ tau 34 = (14, 6) := ⟨by have := h.1; omega, h.2.1 34 (by decide)⟩
theorem ot_35 {n : Nat} {tau : Nat → Nat × Nat} {vr : Nat → Int → Option Nat} (h : xo n tau vr) : 35 < n ∧ tau 35 = (16, 64) := ⟨by have := h.1; omega, h.2.1 35 (by decide)⟩
theorem ot_36 {n : Nat} {tau : Nat → Nat × Nat} {vr : Nat → Int → Option Nat} (h : xo n tau vr) : 36 < n ∧ tau 36 = (15, 13) := ⟨by have := h.1; omega, h.2.1 36 (by decide)⟩
theorem ot_37 {n : Nat} {tau : Nat → Nat × Nat} {vr : Nat → Int → Option Nat} (h : xo n tau vr) : 37 < n ∧ tau 37 = (15, 13) := ⟨by have := h.1; omega, h.2.1 37 (by decide)⟩
theorem ot_38 {n : Nat} {tau : Nat → Nat × Nat} {vr : Nat → Int → Option Nat} (h : xo n tau vr) : 38 < n ∧ tau 38 = (15, 13) := ⟨by have := h.1; omega, h.2.1 38 (by decide)⟩
theorem ot_39 {n : Nat} {tau : Nat → Nat × Nat} {vr : Nat → Int → Option Nat} (h : xo n tau vr) : 39 < n ∧ tau 39 = (15, 13) := ⟨by have := h.1; omega, h.2.1 39 (by decide)⟩
theorem ot_40 {n : Nat} {tau : Nat → Nat × Nat} {vr : Nat → Int → Option Nat} (h : xo n tau vr) : 40 < n ∧ tau 40 = (15, 169) := ⟨by have := h.1; omega, h.2.1 40 (by decide)⟩
theorem ot_41 {n : Nat} {tau : Nat → Nat × Nat} {vr : Nat → Int → Option Nat} (h : xo n tau vr) : 41 < n ∧ tau 41 = (15, 169) := ⟨by have := h.1; omega, h.2.1 41 (by decide)⟩
theorem ot_42 {n : Nat} {tau : Nat → Nat × Nat} {vr : Nat → Int → Option Nat} (h : xo n tau vr) : 42 < n ∧ tau 42 = (15, 7) := ⟨by have := h.1; omega, h.2.1 42 (by decide)⟩
theorem ot_43 {n : Nat} {tau : Nat → Nat × Nat} {vr : Nat → Int → Option Nat} (h : xo n tau vr) : 43 < n ∧ tau 43 = (15, 7) := ⟨by have := h.1; omega, h.2.1 43 (by decide)⟩
theorem ot_44 {n : Nat} {tau : Nat → Nat × Nat} {vr : Nat → Int → Option Nat} (h : xo n tau vr) : 44 < n ∧ tau 44 = (14, 20) := ⟨by have := h.1; omega, h.2.1 44 (by decide)⟩
theorem or_0_0 {n : Nat} {tau : Nat → Nat × Nat} {vr : Nat → Int → Option Nat} (h : xo n tau vr) : vr 0 0 = some 1 := h.2.2 (0, 0, 1) (by decide)
theorem or_0_1 {n : Nat} {tau : Nat → Nat × Nat} {vr : Nat → Int → Option Nat} (h : xo n tau vr) : vr 0 1 = some 8 := h.2.2 (0, 1, 8) (by decide)
theorem or_0_3 {n : Nat} {tau : Nat → Nat × Nat} {vr : Nat → Int → Option Nat} (h : xo n tau vr) : vr 0 3 = some 15 := h.2.2 (0, 3, 15) (by decide)
theorem or_0_4 {n : Nat} {tau : Nat → Nat × Nat} {vr : Nat → Int → Option Nat} (h : xo n tau vr) : vr 0 4 = some 26 := h.2.2 (0, 4, 26) (by decide)
theorem or_0_5 {n : Nat} {tau : Nat → Nat × Nat} {vr : Nat → Int → Option Nat} (h : xo n tau vr) : vr 0 5 = some 30 := h.2.2 (0, 5, 30) (by decide)
theorem or_1_0 {n : Nat} {tau : Nat → Nat × Nat} {vr : Nat → Int → Option Nat} (h : xo n tau vr) : vr 1 0 = some 2 := h.2.2 (1, 0, 2) (by decide)
theorem or_1_2 {n : Nat} {tau : Nat → Nat × Nat} {vr : Nat → Int → Option Nat} (h : xo n tau vr) : vr 1 2 = some 3 := h.2.2 (1, 2, 3) (by decide)
theorem or_1_4 {n : Nat} {tau : Nat → Nat × Nat} {vr : Nat → Int → Option Nat} (h : xo n tau vr) : vr 1 4 = some 4 := h.2.2 (1, 4, 4) (by decide)
theorem or_1_5 {n : Nat} {tau : Nat → Nat × Nat} {vr : Nat → Int → Option Nat} (h : xo n tau vr) : vr 1 5 = some 5 := h.2.2 (1, 5, 5) (by decide)
theorem or_1_6 {n : Nat} {tau : Nat → Nat × Nat} {vr : Nat → Int → Option Nat} (h : xo n tau vr) : vr 1 6 = some 6 := h.2.2 (1, 6, 6) (by decide)
theorem or_1_11 {n : Nat} {tau : Nat → Nat × Nat} {vr : Nat → Int → Option Nat} (h : xo n tau vr) : vr 1 11 = some 7 := h.2.2 (1, 11, 7) (by decide)
theorem or_8_0 {n : Nat} {tau : Nat → Nat × Nat} {vr : Nat → Int → Option Nat} (h : xo n tau vr) : vr 8 0 = some 9 := h.2.2 (8, 0, 9) (by decide)
theorem or_8_2 {n : Nat} {tau : Nat → Nat × Nat} {vr : Nat → Int → Option Nat} (h : xo n tau vr) : vr 8 2 = some 10 := h.2.2 (8, 2, 10) (by decide)
theorem or_8_4 {n : Nat} {tau : Nat → Nat × Nat} {vr : Nat → Int → Option Nat} (h : xo n tau vr) : vr 8 4 = some 11 := h.2.2 (8, 4, 11) (by decide)
theorem or_8_5 {n : Nat} {tau : Nat → Nat × Nat} {vr : Nat → Int → Option Nat} (h : xo n tau vr) : vr 8 5 = some 12 := h.2.2 (8, 5, 12) (by decide)
theorem or_8_6 {n : Nat} {tau : Nat → Nat × Nat} {vr : Nat → Int → Option Nat} (h : xo n tau vr) : vr 8 6 = some 13 := h.2.2 (8, 6, 13) (by decide)
theorem or_8_11 {n : Nat} {tau : Nat → Nat × Nat} {vr : Nat → Int → Option Nat} (h : xo n tau vr) : vr 8 11 = some 14 := h.2.2 (8, 11, 14) (by decide)
theorem or_15_0 {n : Nat} {tau : Nat → Nat × Nat} {vr : Nat → Int → Option Nat} (h : xo n tau vr) : vr 15 0 = some 16 := h.2.2 (15, 0, 16) (by decide)
theorem or_15_1 {n : Nat} {tau : Nat → Nat × Nat} {vr : Nat → Int → Option Nat} (h : xo n tau vr) : vr 15 1 = some 17 := h.2.2 (15, 1, 17) (by decide)
theorem or_15_4 {n : Nat} {tau : Nat → Nat × Nat} {vr : Nat → Int → Option Nat} (h : xo n tau vr) : vr 15 4 = some 18 := h.2.2 (15, 4, 18) (by decide)
theorem or_15_5 {n : Nat} {tau : Nat → Nat × Nat} {vr : Nat → Int → Option Nat} (h : xo n tau vr) : vr 15 5 = some 19 := h.2.2 (15, 5, 19) (by decide)
theorem or_15_6 {n : Nat} {tau : Nat → Nat × Nat} {vr : Nat → Int → Option Nat} (h : xo n tau vr) : vr 15 6 = some 20 := h.2.2 (15, 6, 20) (by decide)
theorem or_15_7 {n : Nat} {tau : Nat → Nat × Nat} {vr : Nat → Int → Option Nat} (h : xo n tau vr) : vr 15 7 = some 21 := h.2.2 (15, 7, 21) (by decide)
theorem or_15_10 {n : Nat} {tau : Nat → Nat × Nat} {vr : Nat → Int → Option Nat} (h : xo n tau vr) : vr 15 10 = some 24 := h.2.2 (15, 10, 24) (by decide)
theorem or_15_11 {n : Nat} {tau : Nat → Nat × Nat} {vr : Nat → Int → Option Nat} (h : xo n tau vr) : vr 15 11 = some 25 := h.2.2 (15, 11, 25) (by decide)
theorem or_26_3 {n : Nat} {tau : Nat → Nat × Nat} {vr : Nat → Int → Option Nat} (h : xo n tau vr) : vr 26 3 = some 27 := h.2.2 (26, 3, 27) (by decide)
theorem or_26_4 {n : Nat} {tau : Nat → Nat × Nat} {vr : Nat → Int → Option Nat} (h : xo n tau vr) : vr 26 4 = some 28 := h.2.2 (26, 4, 28) (by decide)
theorem or_26_6 {n : Nat} {tau : Nat → Nat × Nat} {vr : Nat → Int → Option Nat} (h : xo n tau vr) : vr 26 6 = some 29 := h.2.2 (26, 6, 29) (by decide)
theorem or_31_1 {n : Nat} {tau : Nat → Nat × Nat} {vr : Nat → Int → Option Nat} (h : xo n tau vr) : vr 31 1 = some 32 := h.2.2 (31, 1, 32) (by decide)
theorem or_31_2 {n : Nat} {tau : Nat → Nat × Nat} {vr : Nat → Int → Option Nat} (h : xo n tau vr) : vr 31 2 = some 33 := h.2.2 (31, 2, 33) (by decide)
theorem or_31_9 {n : Nat} {tau : Nat → Nat × Nat} {vr : Nat → Int → Option Nat} (h : xo n tau vr) : vr 31 9 = some 34 := h.2.2 (31, 9, 34) (by decide)
theorem or_31_10 {n : Nat} {tau : Nat → Nat × Nat} {vr : Nat → Int → Option Nat} (h : xo n tau vr) : vr 31 10 = some 35 := h.2.2 (31, 10, 35) (by decide)
theorem or_31_11 {n : Nat} {tau : Nat → Nat × Nat} {vr : Nat → Int → Option Nat} (h : xo n tau vr) : vr 31 11 = some 36 := h.2.2 (31, 11, 36) (by decide)
theorem or_31_12 {n : Nat} {tau : Nat → Nat × Nat} {vr : Nat → Int → Option Nat} (h : xo n tau vr) : vr 31 12 = some 37 := h.2.2 (31, 12, 37) (by decide)
theorem or_31_14 {n : Nat} {tau : Nat → Nat × Nat} {vr : Nat → Int → Option Nat} (h : xo n tau vr) : vr 31 14 = some 38 := h.2.2 (31, 14, 38) (by decide)
theorem or_31_15 {n : Nat} {tau : Nat → Nat × Nat} {vr : Nat → Int → Option Nat} (h : xo n tau vr) : vr 31 15 = some 39 := h.2.2 (31, 15, 39) (by decide)
theorem or_31_17 {n : Nat} {tau : Nat → Nat × Nat} {vr : Nat → Int → Option Nat} (h : xo n tau vr) : vr 31 17 = some 40 := h.2.2 (31, 17, 40) (by decide)
theorem or_31_18 {n : Nat} {tau : Nat → Nat × Nat} {vr : Nat → Int → Option Nat} (h : xo n tau vr) : vr 31 18 = some 41 := h.2.2 (31, 18, 41) (by decide)
theorem or_31_19 {n : Nat} {tau : Nat → Nat × Nat} {vr : Nat → Int → Option Nat} (h : xo n tau vr) : vr 31 19 = some 42 := h.2.2 (31, 19, 42) (by decide)
theorem or_31_20 {n : Nat} {tau : Nat → Nat × Nat} {vr : Nat → Int → Option Nat} (h : xo n tau vr) : vr 31 20 = some 43 := h.2.2 (31, 20, 43) (by decide)
theorem or_31_21 {n : Nat} {tau : Nat → Nat × Nat} {vr : Nat → Int → Option Nat} (h : xo n tau vr) : vr 31 21 = some 44 := h.2.2 (31, 21, 44) (by decide)
theorem xn_osw {x d : Int} {a b : Int} {oa ob : Int} (h : ¬ x = a ∧ ¬ x = b) : Op.lookupswitch.offset [(a, oa), (b, ob)] d x = d := by
  rw [Op.lookupswitch.offset_cons, if_neg (fun q => h.1 q.symm), Op.lookupswitch.offset_cons, if_neg (fun q => h.2 q.symm)]
  rfl
