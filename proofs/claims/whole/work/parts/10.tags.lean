/-! the two systems: the class (tC), the reference (tM); what a method says when it ends; calls by that -/
def tC : Tb := [(1, .inr (.inr (5, [(2, 1, 0), (2, 1, 1), (2, 1, 2), (0, 0, 0), (2, 12, 0), (2, 21, 0), (0, 0, 0), (2, 22, 0), (2, 14, 0), (2, 23, 0), (2, 24, 0)]))), (3, .inr (.inr (0, [(1, 2, 0), (1, 3, 0), (1, 4, 0), (1, 5, 0), (1, 6, 0), (1, 7, 0), (0, 0, 0), (0, 0, 0), (0, 0, 0), (0, 0, 0)]))), (3, .inl 8), (3, .inl 8), (3, .inl 8), (3, .inl 8), (3, .inl 8), (3, .inl 8), (6, .inr (.inr (1, [(1, 9, 0), (1, 10, 0), (1, 11, 0), (0, 0, 0)]))), (6, .inl 160), (6, .inl 3), (6, .inl 32), (1, .inr (.inr (2, [(2, 13, 0), (0, 0, 0), (0, 0, 0), (0, 0, 0), (0, 0, 0), (0, 0, 0), (0, 0, 0), (3, 8, 0)]))), (1, .inl 160), (1, .inr (.inr (3, [(2, 15, 0), (2, 16, 0), (2, 17, 0), (2, 18, 0), (0, 0, 0), (0, 0, 0), (0, 0, 0), (0, 0, 0)]))), (1, .inl 40), (1, .inl 40), (1, .inl 8), (1, .inl 8), (4, .inr (.inr (4, [(1, 20, 0), (0, 0, 0), (0, 0, 0)]))), (4, .inl 40), (1, .inr (.inl (6, 8, 1))), (1, .inr (.inl (4, 19, 2))), (1, .inl 8), (1, .inl 256)]
theorem nC_0 : lr_cnt tC 0 = 1 := rfl
theorem iC_0 : 0 < lr_cnt tC 0 := by decide
theorem kC_0_0 : lr_fk tC 0 5 0 = some (2, 1, 0) := rfl
theorem kC_0_1 : lr_fk tC 0 5 1 = some (2, 1, 1) := rfl
theorem kC_0_2 : lr_fk tC 0 5 2 = some (2, 1, 2) := rfl
theorem kC_0_3 : lr_fk tC 0 5 3 = some (0, 0, 0) := rfl
theorem kC_0_4 : lr_fk tC 0 5 4 = some (2, 12, 0) := rfl
theorem kC_0_5 : lr_fk tC 0 5 5 = some (2, 21, 0) := rfl
theorem kC_0_6 : lr_fk tC 0 5 6 = some (0, 0, 0) := rfl
theorem kC_0_7 : lr_fk tC 0 5 7 = some (2, 22, 0) := rfl
theorem kC_0_8 : lr_fk tC 0 5 8 = some (2, 14, 0) := rfl
theorem kC_0_9 : lr_fk tC 0 5 9 = some (2, 23, 0) := rfl
theorem kC_0_10 : lr_fk tC 0 5 10 = some (2, 24, 0) := rfl
theorem rcC_0 {i : Nat} (h : i < lr_cnt tC 0) : lr_Rc tC RX6 0 i := Or.inl ⟨5, (RX6, TX6, 11), rfl, rfl, rfl, h⟩
theorem nC_1 : lr_cnt tC 1 = 3 := rfl
theorem iC_1 {i : Nat} (h : i < 3) : i < lr_cnt tC 1 := h
theorem kC_1_0 : lr_fk tC 1 0 0 = some (1, 2, 0) := rfl
theorem kC_1_1 : lr_fk tC 1 0 1 = some (1, 3, 0) := rfl
theorem kC_1_2 : lr_fk tC 1 0 2 = some (1, 4, 0) := rfl
theorem kC_1_3 : lr_fk tC 1 0 3 = some (1, 5, 0) := rfl
theorem kC_1_4 : lr_fk tC 1 0 4 = some (1, 6, 0) := rfl
theorem kC_1_5 : lr_fk tC 1 0 5 = some (1, 7, 0) := rfl
theorem kC_1_6 : lr_fk tC 1 0 6 = some (0, 0, 0) := rfl
theorem kC_1_7 : lr_fk tC 1 0 7 = some (0, 0, 0) := rfl
theorem kC_1_8 : lr_fk tC 1 0 8 = some (0, 0, 0) := rfl
theorem kC_1_9 : lr_fk tC 1 0 9 = some (0, 0, 0) := rfl
theorem rcC_1 {i : Nat} (h : i < lr_cnt tC 1) : lr_Rc tC RX0 1 i := Or.inl ⟨0, (RX0, TX0, 10), rfl, rfl, rfl, h⟩
theorem nC_2 : lr_cnt tC 2 = 3 := rfl
theorem iC_2 {i : Nat} (h : i < 3) : i < lr_cnt tC 2 := h
theorem lC_2 : lr_al tC 2 = some 8 := rfl
theorem nC_3 : lr_cnt tC 3 = 3 := rfl
theorem iC_3 {i : Nat} (h : i < 3) : i < lr_cnt tC 3 := h
theorem lC_3 : lr_al tC 3 = some 8 := rfl
theorem nC_4 : lr_cnt tC 4 = 3 := rfl
theorem iC_4 {i : Nat} (h : i < 3) : i < lr_cnt tC 4 := h
theorem lC_4 : lr_al tC 4 = some 8 := rfl
theorem nC_5 : lr_cnt tC 5 = 3 := rfl
theorem iC_5 {i : Nat} (h : i < 3) : i < lr_cnt tC 5 := h
theorem lC_5 : lr_al tC 5 = some 8 := rfl
theorem nC_6 : lr_cnt tC 6 = 3 := rfl
theorem iC_6 {i : Nat} (h : i < 3) : i < lr_cnt tC 6 := h
theorem lC_6 : lr_al tC 6 = some 8 := rfl
theorem nC_7 : lr_cnt tC 7 = 3 := rfl
theorem iC_7 {i : Nat} (h : i < 3) : i < lr_cnt tC 7 := h
theorem lC_7 : lr_al tC 7 = some 8 := rfl
theorem nC_8 : lr_cnt tC 8 = 6 := rfl
theorem iC_8 {i : Nat} (h : i < 6) : i < lr_cnt tC 8 := h
theorem kC_8_0 : lr_fk tC 8 1 0 = some (1, 9, 0) := rfl
theorem kC_8_1 : lr_fk tC 8 1 1 = some (1, 10, 0) := rfl
theorem kC_8_2 : lr_fk tC 8 1 2 = some (1, 11, 0) := rfl
theorem kC_8_3 : lr_fk tC 8 1 3 = some (0, 0, 0) := rfl
theorem rcC_8 {i : Nat} (h : i < lr_cnt tC 8) : lr_Rc tC RX1 8 i := Or.inl ⟨1, (RX1, TX1, 4), rfl, rfl, rfl, h⟩
theorem nC_9 : lr_cnt tC 9 = 6 := rfl
theorem iC_9 {i : Nat} (h : i < 6) : i < lr_cnt tC 9 := h
theorem lC_9 : lr_al tC 9 = some 160 := rfl
theorem nC_10 : lr_cnt tC 10 = 6 := rfl
theorem iC_10 {i : Nat} (h : i < 6) : i < lr_cnt tC 10 := h
theorem lC_10 : lr_al tC 10 = some 3 := rfl
theorem nC_11 : lr_cnt tC 11 = 6 := rfl
theorem iC_11 {i : Nat} (h : i < 6) : i < lr_cnt tC 11 := h
theorem lC_11 : lr_al tC 11 = some 32 := rfl
theorem nC_12 : lr_cnt tC 12 = 1 := rfl
theorem iC_12 : 0 < lr_cnt tC 12 := by decide
theorem kC_12_0 : lr_fk tC 12 2 0 = some (2, 13, 0) := rfl
theorem kC_12_1 : lr_fk tC 12 2 1 = some (0, 0, 0) := rfl
theorem kC_12_2 : lr_fk tC 12 2 2 = some (0, 0, 0) := rfl
theorem kC_12_3 : lr_fk tC 12 2 3 = some (0, 0, 0) := rfl
theorem kC_12_4 : lr_fk tC 12 2 4 = some (0, 0, 0) := rfl
theorem kC_12_5 : lr_fk tC 12 2 5 = some (0, 0, 0) := rfl
theorem kC_12_6 : lr_fk tC 12 2 6 = some (0, 0, 0) := rfl
theorem kC_12_7 : lr_fk tC 12 2 7 = some (3, 8, 0) := rfl
theorem rcC_12 {i : Nat} (h : i < lr_cnt tC 12) : lr_Rc tC RX2 12 i := Or.inl ⟨2, (RX2, TX2, 8), rfl, rfl, rfl, h⟩
theorem nC_13 : lr_cnt tC 13 = 1 := rfl
theorem iC_13 : 0 < lr_cnt tC 13 := by decide
theorem lC_13 : lr_al tC 13 = some 160 := rfl
theorem nC_14 : lr_cnt tC 14 = 1 := rfl
theorem iC_14 : 0 < lr_cnt tC 14 := by decide
theorem kC_14_0 : lr_fk tC 14 3 0 = some (2, 15, 0) := rfl
theorem kC_14_1 : lr_fk tC 14 3 1 = some (2, 16, 0) := rfl
theorem kC_14_2 : lr_fk tC 14 3 2 = some (2, 17, 0) := rfl
theorem kC_14_3 : lr_fk tC 14 3 3 = some (2, 18, 0) := rfl
theorem kC_14_4 : lr_fk tC 14 3 4 = some (0, 0, 0) := rfl
theorem kC_14_5 : lr_fk tC 14 3 5 = some (0, 0, 0) := rfl
theorem kC_14_6 : lr_fk tC 14 3 6 = some (0, 0, 0) := rfl
theorem kC_14_7 : lr_fk tC 14 3 7 = some (0, 0, 0) := rfl
theorem rcC_14 {i : Nat} (h : i < lr_cnt tC 14) : lr_Rc tC RX3 14 i := Or.inl ⟨3, (RX3, TX3, 8), rfl, rfl, rfl, h⟩
theorem nC_15 : lr_cnt tC 15 = 1 := rfl
theorem iC_15 : 0 < lr_cnt tC 15 := by decide
theorem lC_15 : lr_al tC 15 = some 40 := rfl
theorem nC_16 : lr_cnt tC 16 = 1 := rfl
theorem iC_16 : 0 < lr_cnt tC 16 := by decide
theorem lC_16 : lr_al tC 16 = some 40 := rfl
theorem nC_17 : lr_cnt tC 17 = 1 := rfl
theorem iC_17 : 0 < lr_cnt tC 17 := by decide
theorem lC_17 : lr_al tC 17 = some 8 := rfl
theorem nC_18 : lr_cnt tC 18 = 1 := rfl
theorem iC_18 : 0 < lr_cnt tC 18 := by decide
theorem lC_18 : lr_al tC 18 = some 8 := rfl
theorem nC_19 : lr_cnt tC 19 = 4 := rfl
theorem iC_19 {i : Nat} (h : i < 4) : i < lr_cnt tC 19 := h
theorem kC_19_0 : lr_fk tC 19 4 0 = some (1, 20, 0) := rfl
theorem kC_19_1 : lr_fk tC 19 4 1 = some (0, 0, 0) := rfl
theorem kC_19_2 : lr_fk tC 19 4 2 = some (0, 0, 0) := rfl
theorem rcC_19 {i : Nat} (h : i < lr_cnt tC 19) : lr_Rc tC RX4 19 i := Or.inl ⟨4, (RX4, TX4, 3), rfl, rfl, rfl, h⟩
theorem nC_20 : lr_cnt tC 20 = 4 := rfl
theorem iC_20 {i : Nat} (h : i < 4) : i < lr_cnt tC 20 := h
theorem lC_20 : lr_al tC 20 = some 40 := rfl
theorem nC_21 : lr_cnt tC 21 = 1 := rfl
theorem iC_21 : 0 < lr_cnt tC 21 := by decide
theorem lC_21 : lr_rl tC 21 = some (6, 8, 1) := rfl
theorem nC_22 : lr_cnt tC 22 = 1 := rfl
theorem iC_22 : 0 < lr_cnt tC 22 := by decide
theorem lC_22 : lr_rl tC 22 = some (4, 19, 2) := rfl
theorem nC_23 : lr_cnt tC 23 = 1 := rfl
theorem iC_23 : 0 < lr_cnt tC 23 := by decide
theorem lC_23 : lr_al tC 23 = some 8 := rfl
theorem nC_24 : lr_cnt tC 24 = 1 := rfl
theorem iC_24 : 0 < lr_cnt tC 24 := by decide
theorem lC_24 : lr_al tC 24 = some 256 := rfl
def tM : Tb := [(1, .inr (.inr (6, [(0, 0, 0), (2, 1, 0), (2, 2, 0), (2, 3, 0), (2, 4, 0), (2, 5, 0), (0, 0, 0), (0, 0, 0), (2, 6, 0), (0, 0, 0), (2, 7, 0), (2, 8, 0), (0, 0, 0), (0, 0, 0), (0, 0, 0), (2, 9, 0), (2, 10, 0), (2, 11, 0), (2, 12, 0), (2, 13, 0), (2, 14, 0), (0, 0, 0), (0, 0, 0), (0, 0, 0), (0, 0, 0), (2, 15, 0), (2, 16, 0), (0, 0, 0), (0, 0, 0), (0, 0, 0), (2, 17, 0), (2, 18, 0), (2, 19, 0), (2, 20, 0), (2, 21, 0), (2, 22, 0), (0, 0, 0), (0, 0, 0), (0, 0, 0), (2, 23, 0), (2, 24, 0), (2, 25, 0)]))), (1, .inl 8), (1, .inl 8), (1, .inl 16), (1, .inl 8), (1, .inl 8), (1, .inl 160), (1, .inl 1200), (1, .inl 24), (1, .inl 32), (1, .inl 4), (1, .inl 4), (1, .inl 4), (1, .inl 160), (1, .inl 50), (1, .inl 96), (1, .inl 200), (1, .inl 200), (1, .inl 6), (1, .inl 64), (1, .inl 64), (1, .inl 8), (1, .inl 8), (1, .inl 9), (1, .inl 9), (1, .inl 8)]
theorem nM_0 : lr_cnt tM 0 = 1 := rfl
theorem iM_0 : 0 < lr_cnt tM 0 := by decide
theorem kM_0_0 : lr_fk tM 0 6 0 = some (0, 0, 0) := rfl
theorem kM_0_1 : lr_fk tM 0 6 1 = some (2, 1, 0) := rfl
theorem kM_0_2 : lr_fk tM 0 6 2 = some (2, 2, 0) := rfl
theorem kM_0_3 : lr_fk tM 0 6 3 = some (2, 3, 0) := rfl
theorem kM_0_4 : lr_fk tM 0 6 4 = some (2, 4, 0) := rfl
theorem kM_0_5 : lr_fk tM 0 6 5 = some (2, 5, 0) := rfl
theorem kM_0_6 : lr_fk tM 0 6 6 = some (0, 0, 0) := rfl
theorem kM_0_7 : lr_fk tM 0 6 7 = some (0, 0, 0) := rfl
theorem kM_0_8 : lr_fk tM 0 6 8 = some (2, 6, 0) := rfl
theorem kM_0_9 : lr_fk tM 0 6 9 = some (0, 0, 0) := rfl
theorem kM_0_10 : lr_fk tM 0 6 10 = some (2, 7, 0) := rfl
theorem kM_0_11 : lr_fk tM 0 6 11 = some (2, 8, 0) := rfl
theorem kM_0_12 : lr_fk tM 0 6 12 = some (0, 0, 0) := rfl
theorem kM_0_13 : lr_fk tM 0 6 13 = some (0, 0, 0) := rfl
theorem kM_0_14 : lr_fk tM 0 6 14 = some (0, 0, 0) := rfl
theorem kM_0_15 : lr_fk tM 0 6 15 = some (2, 9, 0) := rfl
theorem kM_0_16 : lr_fk tM 0 6 16 = some (2, 10, 0) := rfl
theorem kM_0_17 : lr_fk tM 0 6 17 = some (2, 11, 0) := rfl
theorem kM_0_18 : lr_fk tM 0 6 18 = some (2, 12, 0) := rfl
theorem kM_0_19 : lr_fk tM 0 6 19 = some (2, 13, 0) := rfl
theorem kM_0_20 : lr_fk tM 0 6 20 = some (2, 14, 0) := rfl
theorem kM_0_21 : lr_fk tM 0 6 21 = some (0, 0, 0) := rfl
theorem kM_0_22 : lr_fk tM 0 6 22 = some (0, 0, 0) := rfl
theorem kM_0_23 : lr_fk tM 0 6 23 = some (0, 0, 0) := rfl
theorem kM_0_24 : lr_fk tM 0 6 24 = some (0, 0, 0) := rfl
theorem kM_0_25 : lr_fk tM 0 6 25 = some (2, 15, 0) := rfl
theorem kM_0_26 : lr_fk tM 0 6 26 = some (2, 16, 0) := rfl
theorem kM_0_27 : lr_fk tM 0 6 27 = some (0, 0, 0) := rfl
theorem kM_0_28 : lr_fk tM 0 6 28 = some (0, 0, 0) := rfl
theorem kM_0_29 : lr_fk tM 0 6 29 = some (0, 0, 0) := rfl
theorem kM_0_30 : lr_fk tM 0 6 30 = some (2, 17, 0) := rfl
theorem kM_0_31 : lr_fk tM 0 6 31 = some (2, 18, 0) := rfl
theorem kM_0_32 : lr_fk tM 0 6 32 = some (2, 19, 0) := rfl
theorem kM_0_33 : lr_fk tM 0 6 33 = some (2, 20, 0) := rfl
theorem kM_0_34 : lr_fk tM 0 6 34 = some (2, 21, 0) := rfl
theorem kM_0_35 : lr_fk tM 0 6 35 = some (2, 22, 0) := rfl
theorem kM_0_36 : lr_fk tM 0 6 36 = some (0, 0, 0) := rfl
theorem kM_0_37 : lr_fk tM 0 6 37 = some (0, 0, 0) := rfl
theorem kM_0_38 : lr_fk tM 0 6 38 = some (0, 0, 0) := rfl
theorem kM_0_39 : lr_fk tM 0 6 39 = some (2, 23, 0) := rfl
theorem kM_0_40 : lr_fk tM 0 6 40 = some (2, 24, 0) := rfl
theorem kM_0_41 : lr_fk tM 0 6 41 = some (2, 25, 0) := rfl
theorem rcM_0 {i : Nat} (h : i < lr_cnt tM 0) : lr_Rc tM RX7 0 i := Or.inl ⟨6, (RX7, TX7, 42), rfl, rfl, rfl, h⟩
theorem nM_1 : lr_cnt tM 1 = 1 := rfl
theorem iM_1 : 0 < lr_cnt tM 1 := by decide
theorem lM_1 : lr_al tM 1 = some 8 := rfl
theorem nM_2 : lr_cnt tM 2 = 1 := rfl
theorem iM_2 : 0 < lr_cnt tM 2 := by decide
theorem lM_2 : lr_al tM 2 = some 8 := rfl
theorem nM_3 : lr_cnt tM 3 = 1 := rfl
theorem iM_3 : 0 < lr_cnt tM 3 := by decide
theorem lM_3 : lr_al tM 3 = some 16 := rfl
theorem nM_4 : lr_cnt tM 4 = 1 := rfl
theorem iM_4 : 0 < lr_cnt tM 4 := by decide
theorem lM_4 : lr_al tM 4 = some 8 := rfl
theorem nM_5 : lr_cnt tM 5 = 1 := rfl
theorem iM_5 : 0 < lr_cnt tM 5 := by decide
theorem lM_5 : lr_al tM 5 = some 8 := rfl
theorem nM_6 : lr_cnt tM 6 = 1 := rfl
theorem iM_6 : 0 < lr_cnt tM 6 := by decide
theorem lM_6 : lr_al tM 6 = some 160 := rfl
theorem nM_7 : lr_cnt tM 7 = 1 := rfl
theorem iM_7 : 0 < lr_cnt tM 7 := by decide
theorem lM_7 : lr_al tM 7 = some 1200 := rfl
theorem nM_8 : lr_cnt tM 8 = 1 := rfl
theorem iM_8 : 0 < lr_cnt tM 8 := by decide
theorem lM_8 : lr_al tM 8 = some 24 := rfl
theorem nM_9 : lr_cnt tM 9 = 1 := rfl
theorem iM_9 : 0 < lr_cnt tM 9 := by decide
theorem lM_9 : lr_al tM 9 = some 32 := rfl
theorem nM_10 : lr_cnt tM 10 = 1 := rfl
theorem iM_10 : 0 < lr_cnt tM 10 := by decide
theorem lM_10 : lr_al tM 10 = some 4 := rfl
theorem nM_11 : lr_cnt tM 11 = 1 := rfl
theorem iM_11 : 0 < lr_cnt tM 11 := by decide
theorem lM_11 : lr_al tM 11 = some 4 := rfl
theorem nM_12 : lr_cnt tM 12 = 1 := rfl
theorem iM_12 : 0 < lr_cnt tM 12 := by decide
theorem lM_12 : lr_al tM 12 = some 4 := rfl
theorem nM_13 : lr_cnt tM 13 = 1 := rfl
theorem iM_13 : 0 < lr_cnt tM 13 := by decide
theorem lM_13 : lr_al tM 13 = some 160 := rfl
theorem nM_14 : lr_cnt tM 14 = 1 := rfl
theorem iM_14 : 0 < lr_cnt tM 14 := by decide
theorem lM_14 : lr_al tM 14 = some 50 := rfl
theorem nM_15 : lr_cnt tM 15 = 1 := rfl
theorem iM_15 : 0 < lr_cnt tM 15 := by decide
theorem lM_15 : lr_al tM 15 = some 96 := rfl
theorem nM_16 : lr_cnt tM 16 = 1 := rfl
theorem iM_16 : 0 < lr_cnt tM 16 := by decide
theorem lM_16 : lr_al tM 16 = some 200 := rfl
theorem nM_17 : lr_cnt tM 17 = 1 := rfl
theorem iM_17 : 0 < lr_cnt tM 17 := by decide
theorem lM_17 : lr_al tM 17 = some 200 := rfl
theorem nM_18 : lr_cnt tM 18 = 1 := rfl
theorem iM_18 : 0 < lr_cnt tM 18 := by decide
theorem lM_18 : lr_al tM 18 = some 6 := rfl
theorem nM_19 : lr_cnt tM 19 = 1 := rfl
theorem iM_19 : 0 < lr_cnt tM 19 := by decide
theorem lM_19 : lr_al tM 19 = some 64 := rfl
theorem nM_20 : lr_cnt tM 20 = 1 := rfl
theorem iM_20 : 0 < lr_cnt tM 20 := by decide
theorem lM_20 : lr_al tM 20 = some 64 := rfl
theorem nM_21 : lr_cnt tM 21 = 1 := rfl
theorem iM_21 : 0 < lr_cnt tM 21 := by decide
theorem lM_21 : lr_al tM 21 = some 8 := rfl
theorem nM_22 : lr_cnt tM 22 = 1 := rfl
theorem iM_22 : 0 < lr_cnt tM 22 := by decide
theorem lM_22 : lr_al tM 22 = some 8 := rfl
theorem nM_23 : lr_cnt tM 23 = 1 := rfl
theorem iM_23 : 0 < lr_cnt tM 23 := by decide
theorem lM_23 : lr_al tM 23 = some 9 := rfl
theorem nM_24 : lr_cnt tM 24 = 1 := rfl
theorem iM_24 : 0 < lr_cnt tM 24 := by decide
theorem lM_24 : lr_al tM 24 = some 9 := rfl
theorem nM_25 : lr_cnt tM 25 = 1 := rfl
theorem iM_25 : 0 < lr_cnt tM 25 := by decide
theorem lM_25 : lr_al tM 25 = some 8 := rfl
def s0 : Nat → Bool := fun _ => false
/-- the law's stack is scratch -/
def sC : Nat → Bool := fun t => t == 11
/-- the reference's stack and names are scratch -/
def sM : Nat → Bool := fun t => t == 17 || t == 18
abbrev RP := Option AV → Mem → Prop
def qI (E : Int32) (M : Mem) : RP := fun r M' => r = some (vi E) ∧ M' = M
def qL (E : Int64) (M : Mem) : RP := fun r M' => r = some (vl E) ∧ M' = M
def qB (P : Prop) (M : Mem) : RP := fun r M' => M' = M ∧ ((P ∧ r = some (vi 1)) ∨ (¬ P ∧ r = some (vi 0)))
def qN (M : Mem) : RP := fun r M' => r = none ∧ M' = M
def qX (P : Int32 → Mem → Prop) : RP := fun r M' => ∃ y, r = some (vi y) ∧ P y M'
def qV (P : Mem → Prop) : RP := fun r M' => r = none ∧ P M'
def qO (t : Nat) (P : Nat → Prop) (M : Mem) : RP := fun r M' => ∃ i, r = some (vo t i) ∧ P i ∧ M' = M
theorem rI {x E : Int32} {M M' : Mem} (h : x = E) (hM : M' = M) : qI E M (some (vi x)) M' := ⟨by rw [h], hM⟩
theorem rL {x E : Int64} {M M' : Mem} (h : x = E) (hM : M' = M) : qL E M (some (vl x)) M' := ⟨by rw [h], hM⟩
theorem rB1 {P : Prop} {M : Mem} (h : P) : qB P M (some (vi 1)) M := ⟨rfl, Or.inl ⟨h, rfl⟩⟩
theorem rB0 {P : Prop} {M : Mem} (h : ¬ P) : qB P M (some (vi 0)) M := ⟨rfl, Or.inr ⟨h, rfl⟩⟩
theorem rX {P : Int32 → Mem → Prop} {x : Int32} {M : Mem} (h : P x M) : qX P (some (vi x)) M := ⟨x, rfl, h⟩
theorem rV {P : Mem → Prop} {M : Mem} (h : P M) : qV P none M := ⟨rfl, h⟩
theorem rN {M : Mem} : qN M none M := ⟨rfl, rfl⟩
theorem rO {t i : Nat} {P : Nat → Prop} {M : Mem} (h : P i) : qO t P M (some (vo t i)) M := ⟨i, rfl, h, rfl⟩
theorem vp_in_lit {x : Int32} {n : Nat} (h : 0 ≤ x) (h2 : x.toNatClampNeg < n) : vp_in x n := fun q => q.elim (fun q => absurd h (Int32.not_le.mpr q)) (fun q => absurd h2 (Nat.not_lt.mpr q))
section RC
variable {T : Tb} {S : Nat → Bool} {w : Wd} {d : Nat} {j : MI} {pc n : Nat} {ls : List (Option AV)} {st : List AV} {M : Mem} {Q : RP}
theorem ri_dup2 {u v : AV} (hd : lr_F j pc .dup2 1 n) (hv : ∀ x, v ≠ vl x) (hu : ∀ x, u ≠ vl x) (nx : lr_W T S w d j n ls (v :: u :: v :: u :: st) M Q) : lr_W T S w d j pc ls (v :: u :: st) M Q := by
  intro p e s m args below meth c H locs A X hP hS hL
  obtain ⟨h, rfl⟩ := hd
  have one : ∀ v : AV, (∀ x, v ≠ vl x) → (emb w v).category = 1 := by
    intro v hv
    rcases v with x | x | x | x
    · rfl
    · exact absurd rfl (hv x)
    · rfl
    · cases x <;> rfl
  exact lv_dup2_11 X.1 X.2.1 h (one v hv) (one u hu) (nx p e s m args below meth c H locs A X hP hS hL)
theorem ri_cVpi {idx d' t i nx : Nat} {j' : MI} {as rest : List AV} {E : Int32} (hd : lr_F j pc (.invokevirtual idx) 3 nx) (hM : lr_MV j' as.length) (hl : lr_ML j.1.cls idx j'.1) (hr : lr_Rc T j'.1.cls t i) (hdd : d' + 1 ≤ d) (hok : lr_Ok T S w d' j' (vo t i :: as) M (qI E M)) (hrs : (rest.map lr_c2).sum ≤ 8) (hst : st = as.reverse ++ vo t i :: rest) (k : ∀ y, y = E → lr_W T S w d j nx ls (vi y :: rest) M Q) : lr_W T S w d j pc ls st M Q := by
  refine ri_cV hd hM hl hr hdd hok hrs hst ?_
  rintro r M' ⟨rfl, rfl⟩
  exact k E rfl
theorem ri_cVpl {idx d' t i nx : Nat} {j' : MI} {as rest : List AV} {E : Int64} (hd : lr_F j pc (.invokevirtual idx) 3 nx) (hM : lr_MV j' as.length) (hl : lr_ML j.1.cls idx j'.1) (hr : lr_Rc T j'.1.cls t i) (hdd : d' + 1 ≤ d) (hok : lr_Ok T S w d' j' (vo t i :: as) M (qL E M)) (hrs : (rest.map lr_c2).sum ≤ 8) (hst : st = as.reverse ++ vo t i :: rest) (k : ∀ y, y = E → lr_W T S w d j nx ls (vl y :: rest) M Q) : lr_W T S w d j pc ls st M Q := by
  refine ri_cV hd hM hl hr hdd hok hrs hst ?_
  rintro r M' ⟨rfl, rfl⟩
  exact k E rfl
theorem ri_cVpb {idx d' t i nx : Nat} {j' : MI} {as rest : List AV} {P : Prop} (hd : lr_F j pc (.invokevirtual idx) 3 nx) (hM : lr_MV j' as.length) (hl : lr_ML j.1.cls idx j'.1) (hr : lr_Rc T j'.1.cls t i) (hdd : d' + 1 ≤ d) (hok : lr_Ok T S w d' j' (vo t i :: as) M (qB P M)) (hrs : (rest.map lr_c2).sum ≤ 8) (hst : st = as.reverse ++ vo t i :: rest) (k1 : P → lr_W T S w d j nx ls (vi 1 :: rest) M Q) (k0 : ¬ P → lr_W T S w d j nx ls (vi 0 :: rest) M Q) : lr_W T S w d j pc ls st M Q := by
  refine ri_cV hd hM hl hr hdd hok hrs hst ?_
  rintro r M' ⟨rfl, ⟨hp, rfl⟩ | ⟨hp, rfl⟩⟩
  · exact k1 hp
  · exact k0 hp
theorem ri_cVxi {idx d' t i nx : Nat} {j' : MI} {as rest : List AV} {P : Int32 → Mem → Prop} (hd : lr_F j pc (.invokevirtual idx) 3 nx) (hM : lr_MV j' as.length) (hl : lr_ML j.1.cls idx j'.1) (hr : lr_Rc T j'.1.cls t i) (hdd : d' + 1 ≤ d) (hok : lr_Ok T S w d' j' (vo t i :: as) M (qX P)) (hrs : (rest.map lr_c2).sum ≤ 8) (hst : st = as.reverse ++ vo t i :: rest) (k : ∀ y M1, P y M1 → lr_W T S w d j nx ls (vi y :: rest) M1 Q) : lr_W T S w d j pc ls st M Q := by
  refine ri_cV hd hM hl hr hdd hok hrs hst ?_
  rintro r M' ⟨y, rfl, hp⟩
  exact k y M' hp
theorem ri_cVxv {idx d' t i nx : Nat} {j' : MI} {as rest : List AV} {P : Mem → Prop} (hd : lr_F j pc (.invokevirtual idx) 3 nx) (hM : lr_MV j' as.length) (hl : lr_ML j.1.cls idx j'.1) (hr : lr_Rc T j'.1.cls t i) (hdd : d' + 1 ≤ d) (hok : lr_Ok T S w d' j' (vo t i :: as) M (qV P)) (hrs : (rest.map lr_c2).sum ≤ 8) (hst : st = as.reverse ++ vo t i :: rest) (k : ∀ M1, P M1 → lr_W T S w d j nx ls rest M1 Q) : lr_W T S w d j pc ls st M Q := by
  refine ri_cV hd hM hl hr hdd hok hrs hst ?_
  rintro r M' ⟨rfl, hp⟩
  exact k M' hp
theorem ri_cVpv {idx d' t i nx : Nat} {j' : MI} {as rest : List AV}  (hd : lr_F j pc (.invokevirtual idx) 3 nx) (hM : lr_MV j' as.length) (hl : lr_ML j.1.cls idx j'.1) (hr : lr_Rc T j'.1.cls t i) (hdd : d' + 1 ≤ d) (hok : lr_Ok T S w d' j' (vo t i :: as) M (qN M)) (hrs : (rest.map lr_c2).sum ≤ 8) (hst : st = as.reverse ++ vo t i :: rest) (k : lr_W T S w d j nx ls rest M Q) : lr_W T S w d j pc ls st M Q := by
  refine ri_cV hd hM hl hr hdd hok hrs hst ?_
  rintro r M' ⟨rfl, rfl⟩
  exact k
theorem ri_cVpo {idx d' t i nx : Nat} {j' : MI} {as rest : List AV} {t2 : Nat} {P : Nat → Prop} (hd : lr_F j pc (.invokevirtual idx) 3 nx) (hM : lr_MV j' as.length) (hl : lr_ML j.1.cls idx j'.1) (hr : lr_Rc T j'.1.cls t i) (hdd : d' + 1 ≤ d) (hok : lr_Ok T S w d' j' (vo t i :: as) M (qO t2 P M)) (hrs : (rest.map lr_c2).sum ≤ 8) (hst : st = as.reverse ++ vo t i :: rest) (k : ∀ i2, P i2 → lr_W T S w d j nx ls (vo t2 i2 :: rest) M Q) : lr_W T S w d j pc ls st M Q := by
  refine ri_cV hd hM hl hr hdd hok hrs hst ?_
  rintro r M' ⟨i2, rfl, hp, rfl⟩
  exact k i2 hp
theorem ri_cSpi {idx d' nx : Nat} {j' : MI} {as rest : List AV} {E : Int32} (hd : lr_F j pc (.invokestatic idx) 3 nx) (hM : lr_MS j' as.length) (hl : lr_ML j.1.cls idx j'.1) (hdd : d' + 1 ≤ d) (hok : lr_Ok T S w d' j' as M (qI E M)) (hrs : (rest.map lr_c2).sum ≤ 8) (hst : st = as.reverse ++ rest) (k : ∀ y, y = E → lr_W T S w d j nx ls (vi y :: rest) M Q) : lr_W T S w d j pc ls st M Q := by
  refine ri_cS hd hM hl hdd hok hrs hst ?_
  rintro r M' ⟨rfl, rfl⟩
  exact k E rfl
theorem ri_cSpl {idx d' nx : Nat} {j' : MI} {as rest : List AV} {E : Int64} (hd : lr_F j pc (.invokestatic idx) 3 nx) (hM : lr_MS j' as.length) (hl : lr_ML j.1.cls idx j'.1) (hdd : d' + 1 ≤ d) (hok : lr_Ok T S w d' j' as M (qL E M)) (hrs : (rest.map lr_c2).sum ≤ 8) (hst : st = as.reverse ++ rest) (k : ∀ y, y = E → lr_W T S w d j nx ls (vl y :: rest) M Q) : lr_W T S w d j pc ls st M Q := by
  refine ri_cS hd hM hl hdd hok hrs hst ?_
  rintro r M' ⟨rfl, rfl⟩
  exact k E rfl
theorem ri_cSpb {idx d' nx : Nat} {j' : MI} {as rest : List AV} {P : Prop} (hd : lr_F j pc (.invokestatic idx) 3 nx) (hM : lr_MS j' as.length) (hl : lr_ML j.1.cls idx j'.1) (hdd : d' + 1 ≤ d) (hok : lr_Ok T S w d' j' as M (qB P M)) (hrs : (rest.map lr_c2).sum ≤ 8) (hst : st = as.reverse ++ rest) (k1 : P → lr_W T S w d j nx ls (vi 1 :: rest) M Q) (k0 : ¬ P → lr_W T S w d j nx ls (vi 0 :: rest) M Q) : lr_W T S w d j pc ls st M Q := by
  refine ri_cS hd hM hl hdd hok hrs hst ?_
  rintro r M' ⟨rfl, ⟨hp, rfl⟩ | ⟨hp, rfl⟩⟩
  · exact k1 hp
  · exact k0 hp
theorem ri_cSxi {idx d' nx : Nat} {j' : MI} {as rest : List AV} {P : Int32 → Mem → Prop} (hd : lr_F j pc (.invokestatic idx) 3 nx) (hM : lr_MS j' as.length) (hl : lr_ML j.1.cls idx j'.1) (hdd : d' + 1 ≤ d) (hok : lr_Ok T S w d' j' as M (qX P)) (hrs : (rest.map lr_c2).sum ≤ 8) (hst : st = as.reverse ++ rest) (k : ∀ y M1, P y M1 → lr_W T S w d j nx ls (vi y :: rest) M1 Q) : lr_W T S w d j pc ls st M Q := by
  refine ri_cS hd hM hl hdd hok hrs hst ?_
  rintro r M' ⟨y, rfl, hp⟩
  exact k y M' hp
theorem ri_cSxv {idx d' nx : Nat} {j' : MI} {as rest : List AV} {P : Mem → Prop} (hd : lr_F j pc (.invokestatic idx) 3 nx) (hM : lr_MS j' as.length) (hl : lr_ML j.1.cls idx j'.1) (hdd : d' + 1 ≤ d) (hok : lr_Ok T S w d' j' as M (qV P)) (hrs : (rest.map lr_c2).sum ≤ 8) (hst : st = as.reverse ++ rest) (k : ∀ M1, P M1 → lr_W T S w d j nx ls rest M1 Q) : lr_W T S w d j pc ls st M Q := by
  refine ri_cS hd hM hl hdd hok hrs hst ?_
  rintro r M' ⟨rfl, hp⟩
  exact k M' hp
theorem ri_cSpv {idx d' nx : Nat} {j' : MI} {as rest : List AV}  (hd : lr_F j pc (.invokestatic idx) 3 nx) (hM : lr_MS j' as.length) (hl : lr_ML j.1.cls idx j'.1) (hdd : d' + 1 ≤ d) (hok : lr_Ok T S w d' j' as M (qN M)) (hrs : (rest.map lr_c2).sum ≤ 8) (hst : st = as.reverse ++ rest) (k : lr_W T S w d j nx ls rest M Q) : lr_W T S w d j pc ls st M Q := by
  refine ri_cS hd hM hl hdd hok hrs hst ?_
  rintro r M' ⟨rfl, rfl⟩
  exact k
theorem ri_cSpo {idx d' nx : Nat} {j' : MI} {as rest : List AV} {t2 : Nat} {P : Nat → Prop} (hd : lr_F j pc (.invokestatic idx) 3 nx) (hM : lr_MS j' as.length) (hl : lr_ML j.1.cls idx j'.1) (hdd : d' + 1 ≤ d) (hok : lr_Ok T S w d' j' as M (qO t2 P M)) (hrs : (rest.map lr_c2).sum ≤ 8) (hst : st = as.reverse ++ rest) (k : ∀ i2, P i2 → lr_W T S w d j nx ls (vo t2 i2 :: rest) M Q) : lr_W T S w d j pc ls st M Q := by
  refine ri_cS hd hM hl hdd hok hrs hst ?_
  rintro r M' ⟨i2, rfl, hp, rfl⟩
  exact k i2 hp
end RC
