/-! what stands at each place of the code, and what the tables say of it (by program, wip/tool/facts.py) -/
def jX0_init : MI := (yX0_init, cX0_init, 1, none)
def jX0_becomeLike : MI := (yX0_becomeLike, cX0_becomeLike, 2, none)
def jX0_has : MI := (yX0_has, cX0_has, 2, (some .boolean))
def jX0_quarrel : MI := (yX0_quarrel, cX0_quarrel, 3, (some .boolean))
def jX0_setQuarrel : MI := (yX0_setQuarrel, cX0_setQuarrel, 4, none)
def jX0_rungOf : MI := (yX0_rungOf, cX0_rungOf, 3, (some .int))
def jX0_savedBits : MI := (yX0_savedBits, cX0_savedBits, 3, (some .int))
def jX0_save : MI := (yX0_save, cX0_save, 2, none)
def jX0_saveByFire : MI := (yX0_saveByFire, cX0_saveByFire, 2, none)
def jX1_init : MI := (yX1_init, cX1_init, 1, none)
def jX1_clear : MI := (yX1_clear, cX1_clear, 1, none)
def jX1_append : MI := (yX1_append, cX1_append, 2, none)
def jX1_endPart : MI := (yX1_endPart, cX1_endPart, 2, none)
def jX1_value : MI := (yX1_value, cX1_value, 9, (some .int))
def jX1_named : MI := (yX1_named, cX1_named, 4, (some .int))
def jX1_joined : MI := (yX1_joined, cX1_joined, 3, (some .int))
def jX2_init : MI := (yX2_init, cX2_init, 2, none)
def jX2_hear : MI := (yX2_hear, cX2_hear, 2, none)
def jX2_read : MI := (yX2_read, cX2_read, 3, (some .int))
def jX2_either : MI := (yX2_either, cX2_either, 3, none)
def jX2_both : MI := (yX2_both, cX2_both, 3, none)
def jX2_perhapsNot : MI := (yX2_perhapsNot, cX2_perhapsNot, 2, none)
def jX2_negation : MI := (yX2_negation, cX2_negation, 2, none)
def jX2_comparison : MI := (yX2_comparison, cX2_comparison, 3, none)
def jX2_sum : MI := (yX2_sum, cX2_sum, 4, none)
def jX2_term : MI := (yX2_term, cX2_term, 3, none)
def jX2_one : MI := (yX2_one, cX2_one, 2, none)
def jX2_opposite : MI := (yX2_opposite, cX2_opposite, 2, none)
def jX2_bracket : MI := (yX2_bracket, cX2_bracket, 2, none)
def jX2_mayOpen : MI := (yX2_mayOpen, cX2_mayOpen, 2, (some .boolean))
def jX2_expect : MI := (yX2_expect, cX2_expect, 2, none)
def jX2_fail : MI := (yX2_fail, cX2_fail, 1, none)
def jX2_advance : MI := (yX2_advance, cX2_advance, 1, none)
def jX2_takeNumber : MI := (yX2_takeNumber, cX2_takeNumber, 1, none)
def jX2_takeWord : MI := (yX2_takeWord, cX2_takeWord, 2, none)
def jX2_isWord : MI := (yX2_isWord, cX2_isWord, 3, (some .boolean))
def jX2_isDigit : MI := (yX2_isDigit, cX2_isDigit, 1, (some .boolean))
def jX2_isLetter : MI := (yX2_isLetter, cX2_isLetter, 1, (some .boolean))
def jX3_init : MI := (yX3_init, cX3_init, 1, none)
def jX3_run : MI := (yX3_run, cX3_run, 3, none)
def jX3_climb : MI := (yX3_climb, cX3_climb, 13, none)
def jX4_init : MI := (yX4_init, cX4_init, 1, none)
def jX4_becomeZeros : MI := (yX4_becomeZeros, cX4_becomeZeros, 3, none)
def jX4_has : MI := (yX4_has, cX4_has, 2, (some .boolean))
def jX4_hasAll : MI := (yX4_hasAll, cX4_hasAll, 3, (some .boolean))
def jX4_write : MI := (yX4_write, cX4_write, 3, none)
def jX5_wordOf : MI := (yX5_wordOf, cX5_wordOf, 1, (some (.object "java/lang/String")))
def jX5_isSign : MI := (yX5_isSign, cX5_isSign, 1, (some .boolean))
def jX5_isName : MI := (yX5_isName, cX5_isName, 1, (some .boolean))
def jJ6_bitCount_0f7a4 : MI := (yJ6_bitCount_0f7a4, cJ6_bitCount_0f7a4, 1, (some .int))
def jJ9_max_7cf53 : MI := (yJ9_max_7cf53, cJ9_max_7cf53, 2, (some .int))
def jJ9_min_7cf53 : MI := (yJ9_min_7cf53, cJ9_min_7cf53, 2, (some .int))
def jJ0_length_8abf5 : MI := (yJ0_length_8abf5, cJ0_length_8abf5, 1, (some .int))
def jJ0_charAt_5068e : MI := (yJ0_charAt_5068e, cJ0_charAt_5068e, 2, (some .char))
def jJ0_coder_7d493 : MI := (yJ0_coder_7d493, cJ0_coder_7d493, 1, (some .byte))
def jJ0_isLatin1_aae02 : MI := (yJ0_isLatin1_aae02, cJ0_isLatin1_aae02, 1, (some .boolean))
def jJ0_checkIndex_df160 : MI := (yJ0_checkIndex_df160, cJ0_checkIndex_df160, 2, none)
def jJ1_charAt_3b067 : MI := (yJ1_charAt_3b067, cJ1_charAt_3b067, 2, (some .char))
def jJ2_getChar_3b067 : MI := (yJ2_getChar_3b067, cJ2_getChar_3b067, 2, (some .char))
def jJ2_length_9d52b : MI := (yJ2_length_9d52b, cJ2_length_9d52b, 1, (some .int))
def jJ2_charAt_3b067 : MI := (yJ2_charAt_3b067, cJ2_charAt_3b067, 2, (some .char))
def jJ2_checkIndex_2214a : MI := (yJ2_checkIndex_2214a, cJ2_checkIndex_2214a, 2, none)
def jJ7_fill_53178 : MI := (yJ7_fill_53178, cJ7_fill_53178, 4, none)
def jJ3_checkIndex_8e157 : MI := (yJ3_checkIndex_8e157, cJ3_checkIndex_8e157, 3, (some .int))
theorem a_X0_init_0 : lr_ALd jX0_init 0 0 1 := Or.inl ⟨0, rfl, by decide +kernel, rfl⟩
theorem a_X0_init_1 : lr_F jX0_init 1 (.invokespecial 3) 3 4 := ⟨by decide +kernel, rfl⟩
theorem a_X0_init_4 : lr_ALd jX0_init 4 0 5 := Or.inl ⟨0, rfl, by decide +kernel, rfl⟩
theorem a_X0_init_5 : lr_IC jX0_init 5 8 7 := Or.inr (Or.inl ⟨8, by decide, by decide +kernel, rfl⟩)
theorem a_X0_init_7 : lr_F jX0_init 7 (.newarray .int) 2 9 := ⟨by decide +kernel, rfl⟩
theorem a_X0_init_9 : lr_F jX0_init 9 (.putfield 9) 3 12 := ⟨by decide +kernel, rfl⟩
theorem a_X0_init_12 : lr_ALd jX0_init 12 0 13 := Or.inl ⟨0, rfl, by decide +kernel, rfl⟩
theorem a_X0_init_13 : lr_IC jX0_init 13 8 15 := Or.inr (Or.inl ⟨8, by decide, by decide +kernel, rfl⟩)
theorem a_X0_init_15 : lr_F jX0_init 15 (.newarray .int) 2 17 := ⟨by decide +kernel, rfl⟩
theorem a_X0_init_17 : lr_F jX0_init 17 (.putfield 15) 3 20 := ⟨by decide +kernel, rfl⟩
theorem a_X0_init_20 : lr_ALd jX0_init 20 0 21 := Or.inl ⟨0, rfl, by decide +kernel, rfl⟩
theorem a_X0_init_21 : lr_IC jX0_init 21 8 23 := Or.inr (Or.inl ⟨8, by decide, by decide +kernel, rfl⟩)
theorem a_X0_init_23 : lr_F jX0_init 23 (.newarray .int) 2 25 := ⟨by decide +kernel, rfl⟩
theorem a_X0_init_25 : lr_F jX0_init 25 (.putfield 18) 3 28 := ⟨by decide +kernel, rfl⟩
theorem a_X0_init_28 : lr_ALd jX0_init 28 0 29 := Or.inl ⟨0, rfl, by decide +kernel, rfl⟩
theorem a_X0_init_29 : lr_IC jX0_init 29 8 31 := Or.inr (Or.inl ⟨8, by decide, by decide +kernel, rfl⟩)
theorem a_X0_init_31 : lr_F jX0_init 31 (.newarray .int) 2 33 := ⟨by decide +kernel, rfl⟩
theorem a_X0_init_33 : lr_F jX0_init 33 (.putfield 21) 3 36 := ⟨by decide +kernel, rfl⟩
theorem a_X0_init_36 : lr_ALd jX0_init 36 0 37 := Or.inl ⟨0, rfl, by decide +kernel, rfl⟩
theorem a_X0_init_37 : lr_IC jX0_init 37 8 39 := Or.inr (Or.inl ⟨8, by decide, by decide +kernel, rfl⟩)
theorem a_X0_init_39 : lr_F jX0_init 39 (.newarray .int) 2 41 := ⟨by decide +kernel, rfl⟩
theorem a_X0_init_41 : lr_F jX0_init 41 (.putfield 24) 3 44 := ⟨by decide +kernel, rfl⟩
theorem a_X0_init_44 : lr_ALd jX0_init 44 0 45 := Or.inl ⟨0, rfl, by decide +kernel, rfl⟩
theorem a_X0_init_45 : lr_IC jX0_init 45 8 47 := Or.inr (Or.inl ⟨8, by decide, by decide +kernel, rfl⟩)
theorem a_X0_init_47 : lr_F jX0_init 47 (.newarray .int) 2 49 := ⟨by decide +kernel, rfl⟩
theorem a_X0_init_49 : lr_F jX0_init 49 (.putfield 27) 3 52 := ⟨by decide +kernel, rfl⟩
theorem a_X0_init_52 : lr_ALd jX0_init 52 0 53 := Or.inl ⟨0, rfl, by decide +kernel, rfl⟩
theorem a_X0_init_53 : lr_IC jX0_init 53 0 54 := Or.inl ⟨0, by decide, by decide +kernel, rfl⟩
theorem a_X0_init_54 : lr_F jX0_init 54 (.putfield 30) 3 57 := ⟨by decide +kernel, rfl⟩
theorem a_X0_init_57 : lr_ALd jX0_init 57 0 58 := Or.inl ⟨0, rfl, by decide +kernel, rfl⟩
theorem a_X0_init_58 : lr_IC jX0_init 58 0 59 := Or.inl ⟨0, by decide, by decide +kernel, rfl⟩
theorem a_X0_init_59 : lr_F jX0_init 59 (.putfield 34) 3 62 := ⟨by decide +kernel, rfl⟩
theorem a_X0_init_62 : lr_ALd jX0_init 62 0 63 := Or.inl ⟨0, rfl, by decide +kernel, rfl⟩
theorem a_X0_init_63 : lr_IC jX0_init 63 0 64 := Or.inl ⟨0, by decide, by decide +kernel, rfl⟩
theorem a_X0_init_64 : lr_F jX0_init 64 (.putfield 37) 3 67 := ⟨by decide +kernel, rfl⟩
theorem a_X0_init_67 : lr_ALd jX0_init 67 0 68 := Or.inl ⟨0, rfl, by decide +kernel, rfl⟩
theorem a_X0_init_68 : lr_IC jX0_init 68 0 69 := Or.inl ⟨0, by decide, by decide +kernel, rfl⟩
theorem a_X0_init_69 : lr_F jX0_init 69 (.putfield 40) 3 72 := ⟨by decide +kernel, rfl⟩
theorem a_X0_init_72 : lr_F jX0_init 72 (.return_) 1 73 := ⟨by decide +kernel, rfl⟩
theorem a_X0_becomeLike_0 : lr_ALd jX0_becomeLike 0 1 1 := Or.inl ⟨1, rfl, by decide +kernel, rfl⟩
theorem a_X0_becomeLike_1 : lr_F jX0_becomeLike 1 (.getfield 9) 3 4 := ⟨by decide +kernel, rfl⟩
theorem a_X0_becomeLike_4 : lr_IC jX0_becomeLike 4 0 5 := Or.inl ⟨0, by decide, by decide +kernel, rfl⟩
theorem a_X0_becomeLike_5 : lr_ALd jX0_becomeLike 5 0 6 := Or.inl ⟨0, rfl, by decide +kernel, rfl⟩
theorem a_X0_becomeLike_6 : lr_F jX0_becomeLike 6 (.getfield 9) 3 9 := ⟨by decide +kernel, rfl⟩
theorem a_X0_becomeLike_9 : lr_IC jX0_becomeLike 9 0 10 := Or.inl ⟨0, by decide, by decide +kernel, rfl⟩
theorem a_X0_becomeLike_10 : lr_IC jX0_becomeLike 10 8 12 := Or.inr (Or.inl ⟨8, by decide, by decide +kernel, rfl⟩)
theorem a_X0_becomeLike_12 : lr_F jX0_becomeLike 12 (.invokestatic 43) 3 15 := ⟨by decide +kernel, rfl⟩
theorem a_X0_becomeLike_15 : lr_ALd jX0_becomeLike 15 1 16 := Or.inl ⟨1, rfl, by decide +kernel, rfl⟩
theorem a_X0_becomeLike_16 : lr_F jX0_becomeLike 16 (.getfield 15) 3 19 := ⟨by decide +kernel, rfl⟩
theorem a_X0_becomeLike_19 : lr_IC jX0_becomeLike 19 0 20 := Or.inl ⟨0, by decide, by decide +kernel, rfl⟩
theorem a_X0_becomeLike_20 : lr_ALd jX0_becomeLike 20 0 21 := Or.inl ⟨0, rfl, by decide +kernel, rfl⟩
theorem a_X0_becomeLike_21 : lr_F jX0_becomeLike 21 (.getfield 15) 3 24 := ⟨by decide +kernel, rfl⟩
theorem a_X0_becomeLike_24 : lr_IC jX0_becomeLike 24 0 25 := Or.inl ⟨0, by decide, by decide +kernel, rfl⟩
theorem a_X0_becomeLike_25 : lr_IC jX0_becomeLike 25 8 27 := Or.inr (Or.inl ⟨8, by decide, by decide +kernel, rfl⟩)
theorem a_X0_becomeLike_27 : lr_F jX0_becomeLike 27 (.invokestatic 43) 3 30 := ⟨by decide +kernel, rfl⟩
theorem a_X0_becomeLike_30 : lr_ALd jX0_becomeLike 30 1 31 := Or.inl ⟨1, rfl, by decide +kernel, rfl⟩
theorem a_X0_becomeLike_31 : lr_F jX0_becomeLike 31 (.getfield 18) 3 34 := ⟨by decide +kernel, rfl⟩
theorem a_X0_becomeLike_34 : lr_IC jX0_becomeLike 34 0 35 := Or.inl ⟨0, by decide, by decide +kernel, rfl⟩
theorem a_X0_becomeLike_35 : lr_ALd jX0_becomeLike 35 0 36 := Or.inl ⟨0, rfl, by decide +kernel, rfl⟩
theorem a_X0_becomeLike_36 : lr_F jX0_becomeLike 36 (.getfield 18) 3 39 := ⟨by decide +kernel, rfl⟩
theorem a_X0_becomeLike_39 : lr_IC jX0_becomeLike 39 0 40 := Or.inl ⟨0, by decide, by decide +kernel, rfl⟩
theorem a_X0_becomeLike_40 : lr_IC jX0_becomeLike 40 8 42 := Or.inr (Or.inl ⟨8, by decide, by decide +kernel, rfl⟩)
theorem a_X0_becomeLike_42 : lr_F jX0_becomeLike 42 (.invokestatic 43) 3 45 := ⟨by decide +kernel, rfl⟩
theorem a_X0_becomeLike_45 : lr_ALd jX0_becomeLike 45 1 46 := Or.inl ⟨1, rfl, by decide +kernel, rfl⟩
theorem a_X0_becomeLike_46 : lr_F jX0_becomeLike 46 (.getfield 21) 3 49 := ⟨by decide +kernel, rfl⟩
theorem a_X0_becomeLike_49 : lr_IC jX0_becomeLike 49 0 50 := Or.inl ⟨0, by decide, by decide +kernel, rfl⟩
theorem a_X0_becomeLike_50 : lr_ALd jX0_becomeLike 50 0 51 := Or.inl ⟨0, rfl, by decide +kernel, rfl⟩
theorem a_X0_becomeLike_51 : lr_F jX0_becomeLike 51 (.getfield 21) 3 54 := ⟨by decide +kernel, rfl⟩
theorem a_X0_becomeLike_54 : lr_IC jX0_becomeLike 54 0 55 := Or.inl ⟨0, by decide, by decide +kernel, rfl⟩
theorem a_X0_becomeLike_55 : lr_IC jX0_becomeLike 55 8 57 := Or.inr (Or.inl ⟨8, by decide, by decide +kernel, rfl⟩)
theorem a_X0_becomeLike_57 : lr_F jX0_becomeLike 57 (.invokestatic 43) 3 60 := ⟨by decide +kernel, rfl⟩
theorem a_X0_becomeLike_60 : lr_ALd jX0_becomeLike 60 1 61 := Or.inl ⟨1, rfl, by decide +kernel, rfl⟩
theorem a_X0_becomeLike_61 : lr_F jX0_becomeLike 61 (.getfield 24) 3 64 := ⟨by decide +kernel, rfl⟩
theorem a_X0_becomeLike_64 : lr_IC jX0_becomeLike 64 0 65 := Or.inl ⟨0, by decide, by decide +kernel, rfl⟩
theorem a_X0_becomeLike_65 : lr_ALd jX0_becomeLike 65 0 66 := Or.inl ⟨0, rfl, by decide +kernel, rfl⟩
theorem a_X0_becomeLike_66 : lr_F jX0_becomeLike 66 (.getfield 24) 3 69 := ⟨by decide +kernel, rfl⟩
theorem a_X0_becomeLike_69 : lr_IC jX0_becomeLike 69 0 70 := Or.inl ⟨0, by decide, by decide +kernel, rfl⟩
theorem a_X0_becomeLike_70 : lr_IC jX0_becomeLike 70 8 72 := Or.inr (Or.inl ⟨8, by decide, by decide +kernel, rfl⟩)
theorem a_X0_becomeLike_72 : lr_F jX0_becomeLike 72 (.invokestatic 43) 3 75 := ⟨by decide +kernel, rfl⟩
theorem a_X0_becomeLike_75 : lr_ALd jX0_becomeLike 75 1 76 := Or.inl ⟨1, rfl, by decide +kernel, rfl⟩
theorem a_X0_becomeLike_76 : lr_F jX0_becomeLike 76 (.getfield 27) 3 79 := ⟨by decide +kernel, rfl⟩
theorem a_X0_becomeLike_79 : lr_IC jX0_becomeLike 79 0 80 := Or.inl ⟨0, by decide, by decide +kernel, rfl⟩
theorem a_X0_becomeLike_80 : lr_ALd jX0_becomeLike 80 0 81 := Or.inl ⟨0, rfl, by decide +kernel, rfl⟩
theorem a_X0_becomeLike_81 : lr_F jX0_becomeLike 81 (.getfield 27) 3 84 := ⟨by decide +kernel, rfl⟩
theorem a_X0_becomeLike_84 : lr_IC jX0_becomeLike 84 0 85 := Or.inl ⟨0, by decide, by decide +kernel, rfl⟩
theorem a_X0_becomeLike_85 : lr_IC jX0_becomeLike 85 8 87 := Or.inr (Or.inl ⟨8, by decide, by decide +kernel, rfl⟩)
theorem a_X0_becomeLike_87 : lr_F jX0_becomeLike 87 (.invokestatic 43) 3 90 := ⟨by decide +kernel, rfl⟩
theorem a_X0_becomeLike_90 : lr_ALd jX0_becomeLike 90 0 91 := Or.inl ⟨0, rfl, by decide +kernel, rfl⟩
theorem a_X0_becomeLike_91 : lr_ALd jX0_becomeLike 91 1 92 := Or.inl ⟨1, rfl, by decide +kernel, rfl⟩
theorem a_X0_becomeLike_92 : lr_F jX0_becomeLike 92 (.getfield 30) 3 95 := ⟨by decide +kernel, rfl⟩
theorem a_X0_becomeLike_95 : lr_F jX0_becomeLike 95 (.putfield 30) 3 98 := ⟨by decide +kernel, rfl⟩
theorem a_X0_becomeLike_98 : lr_ALd jX0_becomeLike 98 0 99 := Or.inl ⟨0, rfl, by decide +kernel, rfl⟩
theorem a_X0_becomeLike_99 : lr_ALd jX0_becomeLike 99 1 100 := Or.inl ⟨1, rfl, by decide +kernel, rfl⟩
theorem a_X0_becomeLike_100 : lr_F jX0_becomeLike 100 (.getfield 34) 3 103 := ⟨by decide +kernel, rfl⟩
theorem a_X0_becomeLike_103 : lr_F jX0_becomeLike 103 (.putfield 34) 3 106 := ⟨by decide +kernel, rfl⟩
theorem a_X0_becomeLike_106 : lr_ALd jX0_becomeLike 106 0 107 := Or.inl ⟨0, rfl, by decide +kernel, rfl⟩
theorem a_X0_becomeLike_107 : lr_ALd jX0_becomeLike 107 1 108 := Or.inl ⟨1, rfl, by decide +kernel, rfl⟩
theorem a_X0_becomeLike_108 : lr_F jX0_becomeLike 108 (.getfield 37) 3 111 := ⟨by decide +kernel, rfl⟩
theorem a_X0_becomeLike_111 : lr_F jX0_becomeLike 111 (.putfield 37) 3 114 := ⟨by decide +kernel, rfl⟩
theorem a_X0_becomeLike_114 : lr_ALd jX0_becomeLike 114 0 115 := Or.inl ⟨0, rfl, by decide +kernel, rfl⟩
theorem a_X0_becomeLike_115 : lr_ALd jX0_becomeLike 115 1 116 := Or.inl ⟨1, rfl, by decide +kernel, rfl⟩
theorem a_X0_becomeLike_116 : lr_F jX0_becomeLike 116 (.getfield 40) 3 119 := ⟨by decide +kernel, rfl⟩
theorem a_X0_becomeLike_119 : lr_F jX0_becomeLike 119 (.putfield 40) 3 122 := ⟨by decide +kernel, rfl⟩
theorem a_X0_becomeLike_122 : lr_F jX0_becomeLike 122 (.return_) 1 123 := ⟨by decide +kernel, rfl⟩
theorem a_X0_has_0 : lr_ILd jX0_has 0 1 1 := Or.inl ⟨1, rfl, by decide +kernel, rfl⟩
theorem a_X0_has_1 : lr_Br jX0_has 1 (Instr.ifCond .lt) 16 4 := ⟨15, by decide +kernel, by decide, rfl⟩
theorem a_X0_has_4 : lr_ILd jX0_has 4 1 5 := Or.inl ⟨1, rfl, by decide +kernel, rfl⟩
theorem a_X0_has_5 : lr_ALd jX0_has 5 0 6 := Or.inl ⟨0, rfl, by decide +kernel, rfl⟩
theorem a_X0_has_6 : lr_F jX0_has 6 (.getfield 30) 3 9 := ⟨by decide +kernel, rfl⟩
theorem a_X0_has_9 : lr_Br jX0_has 9 (Instr.if_icmp .ge) 16 12 := ⟨7, by decide +kernel, by decide, rfl⟩
theorem a_X0_has_12 : lr_IC jX0_has 12 1 13 := Or.inl ⟨1, by decide, by decide +kernel, rfl⟩
theorem a_X0_has_13 : lr_Br jX0_has 13 (Instr.goto) 17 16 := ⟨4, by decide +kernel, by decide, rfl⟩
theorem a_X0_has_16 : lr_IC jX0_has 16 0 17 := Or.inl ⟨0, by decide, by decide +kernel, rfl⟩
theorem a_X0_has_17 : lr_F jX0_has 17 (.ireturn) 1 18 := ⟨by decide +kernel, rfl⟩
theorem a_X0_quarrel_0 : lr_ALd jX0_quarrel 0 0 1 := Or.inl ⟨0, rfl, by decide +kernel, rfl⟩
theorem a_X0_quarrel_1 : lr_F jX0_quarrel 1 (.getfield 24) 3 4 := ⟨by decide +kernel, rfl⟩
theorem a_X0_quarrel_4 : lr_ILd jX0_quarrel 4 1 5 := Or.inl ⟨1, rfl, by decide +kernel, rfl⟩
theorem a_X0_quarrel_5 : lr_F jX0_quarrel 5 (.iaload) 1 6 := ⟨by decide +kernel, rfl⟩
theorem a_X0_quarrel_6 : lr_ILd jX0_quarrel 6 2 7 := Or.inl ⟨2, rfl, by decide +kernel, rfl⟩
theorem a_X0_quarrel_7 : lr_F jX0_quarrel 7 (.ishr) 1 8 := ⟨by decide +kernel, rfl⟩
theorem a_X0_quarrel_8 : lr_IC jX0_quarrel 8 1 9 := Or.inl ⟨1, by decide, by decide +kernel, rfl⟩
theorem a_X0_quarrel_9 : lr_F jX0_quarrel 9 (.iand) 1 10 := ⟨by decide +kernel, rfl⟩
theorem a_X0_quarrel_10 : lr_Br jX0_quarrel 10 (Instr.ifCond .eq) 17 13 := ⟨7, by decide +kernel, by decide, rfl⟩
theorem a_X0_quarrel_13 : lr_IC jX0_quarrel 13 1 14 := Or.inl ⟨1, by decide, by decide +kernel, rfl⟩
theorem a_X0_quarrel_14 : lr_Br jX0_quarrel 14 (Instr.goto) 18 17 := ⟨4, by decide +kernel, by decide, rfl⟩
theorem a_X0_quarrel_17 : lr_IC jX0_quarrel 17 0 18 := Or.inl ⟨0, by decide, by decide +kernel, rfl⟩
theorem a_X0_quarrel_18 : lr_F jX0_quarrel 18 (.ireturn) 1 19 := ⟨by decide +kernel, rfl⟩
theorem a_X0_setQuarrel_0 : lr_ALd jX0_setQuarrel 0 0 1 := Or.inl ⟨0, rfl, by decide +kernel, rfl⟩
theorem a_X0_setQuarrel_1 : lr_F jX0_setQuarrel 1 (.getfield 24) 3 4 := ⟨by decide +kernel, rfl⟩
theorem a_X0_setQuarrel_4 : lr_ILd jX0_setQuarrel 4 1 5 := Or.inl ⟨1, rfl, by decide +kernel, rfl⟩
theorem a_X0_setQuarrel_5 : lr_ALd jX0_setQuarrel 5 0 6 := Or.inl ⟨0, rfl, by decide +kernel, rfl⟩
theorem a_X0_setQuarrel_6 : lr_F jX0_setQuarrel 6 (.getfield 24) 3 9 := ⟨by decide +kernel, rfl⟩
theorem a_X0_setQuarrel_9 : lr_ILd jX0_setQuarrel 9 1 10 := Or.inl ⟨1, rfl, by decide +kernel, rfl⟩
theorem a_X0_setQuarrel_10 : lr_F jX0_setQuarrel 10 (.iaload) 1 11 := ⟨by decide +kernel, rfl⟩
theorem a_X0_setQuarrel_11 : lr_IC jX0_setQuarrel 11 1 12 := Or.inl ⟨1, by decide, by decide +kernel, rfl⟩
theorem a_X0_setQuarrel_12 : lr_ILd jX0_setQuarrel 12 2 13 := Or.inl ⟨2, rfl, by decide +kernel, rfl⟩
theorem a_X0_setQuarrel_13 : lr_F jX0_setQuarrel 13 (.ishl) 1 14 := ⟨by decide +kernel, rfl⟩
theorem a_X0_setQuarrel_14 : lr_IC jX0_setQuarrel 14 (-1) 15 := Or.inl ⟨(-1), by decide, by decide +kernel, rfl⟩
theorem a_X0_setQuarrel_15 : lr_F jX0_setQuarrel 15 (.ixor) 1 16 := ⟨by decide +kernel, rfl⟩
theorem a_X0_setQuarrel_16 : lr_F jX0_setQuarrel 16 (.iand) 1 17 := ⟨by decide +kernel, rfl⟩
theorem a_X0_setQuarrel_17 : lr_ILd jX0_setQuarrel 17 3 18 := Or.inl ⟨3, rfl, by decide +kernel, rfl⟩
theorem a_X0_setQuarrel_18 : lr_ILd jX0_setQuarrel 18 2 19 := Or.inl ⟨2, rfl, by decide +kernel, rfl⟩
theorem a_X0_setQuarrel_19 : lr_F jX0_setQuarrel 19 (.ishl) 1 20 := ⟨by decide +kernel, rfl⟩
theorem a_X0_setQuarrel_20 : lr_F jX0_setQuarrel 20 (.ior) 1 21 := ⟨by decide +kernel, rfl⟩
theorem a_X0_setQuarrel_21 : lr_F jX0_setQuarrel 21 (.iastore) 1 22 := ⟨by decide +kernel, rfl⟩
theorem a_X0_setQuarrel_22 : lr_F jX0_setQuarrel 22 (.return_) 1 23 := ⟨by decide +kernel, rfl⟩
theorem a_X0_rungOf_0 : lr_IC jX0_rungOf 0 0 1 := Or.inl ⟨0, by decide, by decide +kernel, rfl⟩
theorem a_X0_rungOf_1 : lr_ISt jX0_rungOf 1 2 2 := Or.inl ⟨2, rfl, by decide +kernel, rfl⟩
theorem a_X0_rungOf_2 : lr_ILd jX0_rungOf 2 2 3 := Or.inl ⟨2, rfl, by decide +kernel, rfl⟩
theorem a_X0_rungOf_3 : lr_ALd jX0_rungOf 3 0 4 := Or.inl ⟨0, rfl, by decide +kernel, rfl⟩
theorem a_X0_rungOf_4 : lr_F jX0_rungOf 4 (.getfield 34) 3 7 := ⟨by decide +kernel, rfl⟩
theorem a_X0_rungOf_7 : lr_Br jX0_rungOf 7 (Instr.if_icmp .ge) 28 10 := ⟨21, by decide +kernel, by decide, rfl⟩
theorem a_X0_rungOf_10 : lr_ALd jX0_rungOf 10 0 11 := Or.inl ⟨0, rfl, by decide +kernel, rfl⟩
theorem a_X0_rungOf_11 : lr_F jX0_rungOf 11 (.getfield 27) 3 14 := ⟨by decide +kernel, rfl⟩
theorem a_X0_rungOf_14 : lr_ILd jX0_rungOf 14 2 15 := Or.inl ⟨2, rfl, by decide +kernel, rfl⟩
theorem a_X0_rungOf_15 : lr_F jX0_rungOf 15 (.iaload) 1 16 := ⟨by decide +kernel, rfl⟩
theorem a_X0_rungOf_16 : lr_ILd jX0_rungOf 16 1 17 := Or.inl ⟨1, rfl, by decide +kernel, rfl⟩
theorem a_X0_rungOf_17 : lr_Br jX0_rungOf 17 (Instr.if_icmp .ne) 22 20 := ⟨5, by decide +kernel, by decide, rfl⟩
theorem a_X0_rungOf_20 : lr_ILd jX0_rungOf 20 2 21 := Or.inl ⟨2, rfl, by decide +kernel, rfl⟩
theorem a_X0_rungOf_21 : lr_F jX0_rungOf 21 (.ireturn) 1 22 := ⟨by decide +kernel, rfl⟩
theorem a_X0_rungOf_22 : lr_F jX0_rungOf 22 (.iinc 2 1) 3 25 := ⟨by decide +kernel, rfl⟩
theorem a_X0_rungOf_25 : lr_Br jX0_rungOf 25 (Instr.goto) 2 28 := ⟨(-23), by decide +kernel, by decide, rfl⟩
theorem a_X0_rungOf_28 : lr_IC jX0_rungOf 28 (-1) 29 := Or.inl ⟨(-1), by decide, by decide +kernel, rfl⟩
theorem a_X0_rungOf_29 : lr_F jX0_rungOf 29 (.ireturn) 1 30 := ⟨by decide +kernel, rfl⟩
theorem a_X0_savedBits_0 : lr_IC jX0_savedBits 0 0 1 := Or.inl ⟨0, by decide, by decide +kernel, rfl⟩
theorem a_X0_savedBits_1 : lr_ISt jX0_savedBits 1 1 2 := Or.inl ⟨1, rfl, by decide +kernel, rfl⟩
theorem a_X0_savedBits_2 : lr_IC jX0_savedBits 2 0 3 := Or.inl ⟨0, by decide, by decide +kernel, rfl⟩
theorem a_X0_savedBits_3 : lr_ISt jX0_savedBits 3 2 4 := Or.inl ⟨2, rfl, by decide +kernel, rfl⟩
theorem a_X0_savedBits_4 : lr_ILd jX0_savedBits 4 2 5 := Or.inl ⟨2, rfl, by decide +kernel, rfl⟩
theorem a_X0_savedBits_5 : lr_ALd jX0_savedBits 5 0 6 := Or.inl ⟨0, rfl, by decide +kernel, rfl⟩
theorem a_X0_savedBits_6 : lr_F jX0_savedBits 6 (.getfield 34) 3 9 := ⟨by decide +kernel, rfl⟩
theorem a_X0_savedBits_9 : lr_Br jX0_savedBits 9 (Instr.if_icmp .ge) 29 12 := ⟨20, by decide +kernel, by decide, rfl⟩
theorem a_X0_savedBits_12 : lr_ILd jX0_savedBits 12 1 13 := Or.inl ⟨1, rfl, by decide +kernel, rfl⟩
theorem a_X0_savedBits_13 : lr_IC jX0_savedBits 13 1 14 := Or.inl ⟨1, by decide, by decide +kernel, rfl⟩
theorem a_X0_savedBits_14 : lr_ALd jX0_savedBits 14 0 15 := Or.inl ⟨0, rfl, by decide +kernel, rfl⟩
theorem a_X0_savedBits_15 : lr_F jX0_savedBits 15 (.getfield 27) 3 18 := ⟨by decide +kernel, rfl⟩
theorem a_X0_savedBits_18 : lr_ILd jX0_savedBits 18 2 19 := Or.inl ⟨2, rfl, by decide +kernel, rfl⟩
theorem a_X0_savedBits_19 : lr_F jX0_savedBits 19 (.iaload) 1 20 := ⟨by decide +kernel, rfl⟩
theorem a_X0_savedBits_20 : lr_F jX0_savedBits 20 (.ishl) 1 21 := ⟨by decide +kernel, rfl⟩
theorem a_X0_savedBits_21 : lr_F jX0_savedBits 21 (.ior) 1 22 := ⟨by decide +kernel, rfl⟩
theorem a_X0_savedBits_22 : lr_ISt jX0_savedBits 22 1 23 := Or.inl ⟨1, rfl, by decide +kernel, rfl⟩
theorem a_X0_savedBits_23 : lr_F jX0_savedBits 23 (.iinc 2 1) 3 26 := ⟨by decide +kernel, rfl⟩
theorem a_X0_savedBits_26 : lr_Br jX0_savedBits 26 (Instr.goto) 4 29 := ⟨(-22), by decide +kernel, by decide, rfl⟩
theorem a_X0_savedBits_29 : lr_ILd jX0_savedBits 29 1 30 := Or.inl ⟨1, rfl, by decide +kernel, rfl⟩
theorem a_X0_savedBits_30 : lr_F jX0_savedBits 30 (.ireturn) 1 31 := ⟨by decide +kernel, rfl⟩
theorem a_X0_save_0 : lr_ALd jX0_save 0 0 1 := Or.inl ⟨0, rfl, by decide +kernel, rfl⟩
theorem a_X0_save_1 : lr_F jX0_save 1 (.getfield 34) 3 4 := ⟨by decide +kernel, rfl⟩
theorem a_X0_save_4 : lr_IC jX0_save 4 8 6 := Or.inr (Or.inl ⟨8, by decide, by decide +kernel, rfl⟩)
theorem a_X0_save_6 : lr_Br jX0_save 6 (Instr.if_icmp .ge) 29 9 := ⟨23, by decide +kernel, by decide, rfl⟩
theorem a_X0_save_9 : lr_ALd jX0_save 9 0 10 := Or.inl ⟨0, rfl, by decide +kernel, rfl⟩
theorem a_X0_save_10 : lr_F jX0_save 10 (.getfield 27) 3 13 := ⟨by decide +kernel, rfl⟩
theorem a_X0_save_13 : lr_ALd jX0_save 13 0 14 := Or.inl ⟨0, rfl, by decide +kernel, rfl⟩
theorem a_X0_save_14 : lr_F jX0_save 14 (.getfield 34) 3 17 := ⟨by decide +kernel, rfl⟩
theorem a_X0_save_17 : lr_ILd jX0_save 17 1 18 := Or.inl ⟨1, rfl, by decide +kernel, rfl⟩
theorem a_X0_save_18 : lr_F jX0_save 18 (.iastore) 1 19 := ⟨by decide +kernel, rfl⟩
theorem a_X0_save_19 : lr_ALd jX0_save 19 0 20 := Or.inl ⟨0, rfl, by decide +kernel, rfl⟩
theorem a_X0_save_20 : lr_F jX0_save 20 (.dup) 1 21 := ⟨by decide +kernel, rfl⟩
theorem a_X0_save_21 : lr_F jX0_save 21 (.getfield 34) 3 24 := ⟨by decide +kernel, rfl⟩
theorem a_X0_save_24 : lr_IC jX0_save 24 1 25 := Or.inl ⟨1, by decide, by decide +kernel, rfl⟩
theorem a_X0_save_25 : lr_F jX0_save 25 (.iadd) 1 26 := ⟨by decide +kernel, rfl⟩
theorem a_X0_save_26 : lr_F jX0_save 26 (.putfield 34) 3 29 := ⟨by decide +kernel, rfl⟩
theorem a_X0_save_29 : lr_F jX0_save 29 (.return_) 1 30 := ⟨by decide +kernel, rfl⟩
theorem a_X0_saveByFire_0 : lr_ALd jX0_saveByFire 0 0 1 := Or.inl ⟨0, rfl, by decide +kernel, rfl⟩
theorem a_X0_saveByFire_1 : lr_ILd jX0_saveByFire 1 1 2 := Or.inl ⟨1, rfl, by decide +kernel, rfl⟩
theorem a_X0_saveByFire_2 : lr_F jX0_saveByFire 2 (.invokevirtual 49) 3 5 := ⟨by decide +kernel, rfl⟩
theorem a_X0_saveByFire_5 : lr_ALd jX0_saveByFire 5 0 6 := Or.inl ⟨0, rfl, by decide +kernel, rfl⟩
theorem a_X0_saveByFire_6 : lr_IC jX0_saveByFire 6 0 7 := Or.inl ⟨0, by decide, by decide +kernel, rfl⟩
theorem a_X0_saveByFire_7 : lr_F jX0_saveByFire 7 (.putfield 37) 3 10 := ⟨by decide +kernel, rfl⟩
theorem a_X0_saveByFire_10 : lr_F jX0_saveByFire 10 (.return_) 1 11 := ⟨by decide +kernel, rfl⟩
theorem a_X1_init_0 : lr_ALd jX1_init 0 0 1 := Or.inl ⟨0, rfl, by decide +kernel, rfl⟩
theorem a_X1_init_1 : lr_F jX1_init 1 (.invokespecial 3) 3 4 := ⟨by decide +kernel, rfl⟩
theorem a_X1_init_4 : lr_ALd jX1_init 4 0 5 := Or.inl ⟨0, rfl, by decide +kernel, rfl⟩
theorem a_X1_init_5 : lr_IC jX1_init 5 160 8 := Or.inr (Or.inr (Or.inl ⟨160, by decide, by decide +kernel, rfl⟩))
theorem a_X1_init_8 : lr_F jX1_init 8 (.newarray .int) 2 10 := ⟨by decide +kernel, rfl⟩
theorem a_X1_init_10 : lr_F jX1_init 10 (.putfield 9) 3 13 := ⟨by decide +kernel, rfl⟩
theorem a_X1_init_13 : lr_ALd jX1_init 13 0 14 := Or.inl ⟨0, rfl, by decide +kernel, rfl⟩
theorem a_X1_init_14 : lr_IC jX1_init 14 3 15 := Or.inl ⟨3, by decide, by decide +kernel, rfl⟩
theorem a_X1_init_15 : lr_F jX1_init 15 (.newarray .int) 2 17 := ⟨by decide +kernel, rfl⟩
theorem a_X1_init_17 : lr_F jX1_init 17 (.putfield 15) 3 20 := ⟨by decide +kernel, rfl⟩
theorem a_X1_init_20 : lr_ALd jX1_init 20 0 21 := Or.inl ⟨0, rfl, by decide +kernel, rfl⟩
theorem a_X1_init_21 : lr_IC jX1_init 21 32 23 := Or.inr (Or.inl ⟨32, by decide, by decide +kernel, rfl⟩)
theorem a_X1_init_23 : lr_F jX1_init 23 (.newarray .int) 2 25 := ⟨by decide +kernel, rfl⟩
theorem a_X1_init_25 : lr_F jX1_init 25 (.putfield 18) 3 28 := ⟨by decide +kernel, rfl⟩
theorem a_X1_init_28 : lr_ALd jX1_init 28 0 29 := Or.inl ⟨0, rfl, by decide +kernel, rfl⟩
theorem a_X1_init_29 : lr_IC jX1_init 29 0 30 := Or.inl ⟨0, by decide, by decide +kernel, rfl⟩
theorem a_X1_init_30 : lr_F jX1_init 30 (.putfield 21) 3 33 := ⟨by decide +kernel, rfl⟩
theorem a_X1_init_33 : lr_F jX1_init 33 (.return_) 1 34 := ⟨by decide +kernel, rfl⟩
theorem a_X1_clear_0 : lr_ALd jX1_clear 0 0 1 := Or.inl ⟨0, rfl, by decide +kernel, rfl⟩
theorem a_X1_clear_1 : lr_IC jX1_clear 1 0 2 := Or.inl ⟨0, by decide, by decide +kernel, rfl⟩
theorem a_X1_clear_2 : lr_F jX1_clear 2 (.putfield 21) 3 5 := ⟨by decide +kernel, rfl⟩
theorem a_X1_clear_5 : lr_F jX1_clear 5 (.return_) 1 6 := ⟨by decide +kernel, rfl⟩
theorem a_X1_append_0 : lr_ALd jX1_append 0 0 1 := Or.inl ⟨0, rfl, by decide +kernel, rfl⟩
theorem a_X1_append_1 : lr_F jX1_append 1 (.getfield 21) 3 4 := ⟨by decide +kernel, rfl⟩
theorem a_X1_append_4 : lr_IC jX1_append 4 160 7 := Or.inr (Or.inr (Or.inl ⟨160, by decide, by decide +kernel, rfl⟩))
theorem a_X1_append_7 : lr_Br jX1_append 7 (Instr.if_icmp .ge) 30 10 := ⟨23, by decide +kernel, by decide, rfl⟩
theorem a_X1_append_10 : lr_ALd jX1_append 10 0 11 := Or.inl ⟨0, rfl, by decide +kernel, rfl⟩
theorem a_X1_append_11 : lr_F jX1_append 11 (.getfield 9) 3 14 := ⟨by decide +kernel, rfl⟩
theorem a_X1_append_14 : lr_ALd jX1_append 14 0 15 := Or.inl ⟨0, rfl, by decide +kernel, rfl⟩
theorem a_X1_append_15 : lr_F jX1_append 15 (.getfield 21) 3 18 := ⟨by decide +kernel, rfl⟩
theorem a_X1_append_18 : lr_ILd jX1_append 18 1 19 := Or.inl ⟨1, rfl, by decide +kernel, rfl⟩
theorem a_X1_append_19 : lr_F jX1_append 19 (.iastore) 1 20 := ⟨by decide +kernel, rfl⟩
theorem a_X1_append_20 : lr_ALd jX1_append 20 0 21 := Or.inl ⟨0, rfl, by decide +kernel, rfl⟩
theorem a_X1_append_21 : lr_F jX1_append 21 (.dup) 1 22 := ⟨by decide +kernel, rfl⟩
theorem a_X1_append_22 : lr_F jX1_append 22 (.getfield 21) 3 25 := ⟨by decide +kernel, rfl⟩
theorem a_X1_append_25 : lr_IC jX1_append 25 1 26 := Or.inl ⟨1, by decide, by decide +kernel, rfl⟩
theorem a_X1_append_26 : lr_F jX1_append 26 (.iadd) 1 27 := ⟨by decide +kernel, rfl⟩
theorem a_X1_append_27 : lr_F jX1_append 27 (.putfield 21) 3 30 := ⟨by decide +kernel, rfl⟩
theorem a_X1_append_30 : lr_F jX1_append 30 (.return_) 1 31 := ⟨by decide +kernel, rfl⟩
theorem a_X1_endPart_0 : lr_ALd jX1_endPart 0 0 1 := Or.inl ⟨0, rfl, by decide +kernel, rfl⟩
theorem a_X1_endPart_1 : lr_F jX1_endPart 1 (.getfield 15) 3 4 := ⟨by decide +kernel, rfl⟩
theorem a_X1_endPart_4 : lr_ILd jX1_endPart 4 1 5 := Or.inl ⟨1, rfl, by decide +kernel, rfl⟩
theorem a_X1_endPart_5 : lr_ALd jX1_endPart 5 0 6 := Or.inl ⟨0, rfl, by decide +kernel, rfl⟩
theorem a_X1_endPart_6 : lr_F jX1_endPart 6 (.getfield 21) 3 9 := ⟨by decide +kernel, rfl⟩
theorem a_X1_endPart_9 : lr_F jX1_endPart 9 (.iastore) 1 10 := ⟨by decide +kernel, rfl⟩
theorem a_X1_endPart_10 : lr_F jX1_endPart 10 (.return_) 1 11 := ⟨by decide +kernel, rfl⟩
theorem a_X1_value_0 : lr_IC jX1_value 0 0 1 := Or.inl ⟨0, by decide, by decide +kernel, rfl⟩
theorem a_X1_value_1 : lr_ISt jX1_value 1 5 3 := Or.inr ⟨by decide +kernel, rfl⟩
theorem a_X1_value_3 : lr_ILd jX1_value 3 1 4 := Or.inl ⟨1, rfl, by decide +kernel, rfl⟩
theorem a_X1_value_4 : lr_Br jX1_value 4 (Instr.ifCond .ne) 11 7 := ⟨7, by decide +kernel, by decide, rfl⟩
theorem a_X1_value_7 : lr_IC jX1_value 7 0 8 := Or.inl ⟨0, by decide, by decide +kernel, rfl⟩
theorem a_X1_value_8 : lr_Br jX1_value 8 (Instr.goto) 19 11 := ⟨11, by decide +kernel, by decide, rfl⟩
theorem a_X1_value_11 : lr_ALd jX1_value 11 0 12 := Or.inl ⟨0, rfl, by decide +kernel, rfl⟩
theorem a_X1_value_12 : lr_F jX1_value 12 (.getfield 15) 3 15 := ⟨by decide +kernel, rfl⟩
theorem a_X1_value_15 : lr_ILd jX1_value 15 1 16 := Or.inl ⟨1, rfl, by decide +kernel, rfl⟩
theorem a_X1_value_16 : lr_IC jX1_value 16 1 17 := Or.inl ⟨1, by decide, by decide +kernel, rfl⟩
theorem a_X1_value_17 : lr_F jX1_value 17 (.isub) 1 18 := ⟨by decide +kernel, rfl⟩
theorem a_X1_value_18 : lr_F jX1_value 18 (.iaload) 1 19 := ⟨by decide +kernel, rfl⟩
theorem a_X1_value_19 : lr_ISt jX1_value 19 6 21 := Or.inr ⟨by decide +kernel, rfl⟩
theorem a_X1_value_21 : lr_ILd jX1_value 21 6 23 := Or.inr ⟨by decide +kernel, rfl⟩
theorem a_X1_value_23 : lr_ALd jX1_value 23 0 24 := Or.inl ⟨0, rfl, by decide +kernel, rfl⟩
theorem a_X1_value_24 : lr_F jX1_value 24 (.getfield 15) 3 27 := ⟨by decide +kernel, rfl⟩
theorem a_X1_value_27 : lr_ILd jX1_value 27 1 28 := Or.inl ⟨1, rfl, by decide +kernel, rfl⟩
theorem a_X1_value_28 : lr_F jX1_value 28 (.iaload) 1 29 := ⟨by decide +kernel, rfl⟩
theorem a_X1_value_29 : lr_Br jX1_value 29 (Instr.if_icmp .ge) 216 32 := ⟨187, by decide +kernel, by decide, rfl⟩
theorem a_X1_value_32 : lr_ALd jX1_value 32 0 33 := Or.inl ⟨0, rfl, by decide +kernel, rfl⟩
theorem a_X1_value_33 : lr_F jX1_value 33 (.getfield 9) 3 36 := ⟨by decide +kernel, rfl⟩
theorem a_X1_value_36 : lr_ILd jX1_value 36 6 38 := Or.inr ⟨by decide +kernel, rfl⟩
theorem a_X1_value_38 : lr_F jX1_value 38 (.iaload) 1 39 := ⟨by decide +kernel, rfl⟩
theorem a_X1_value_39 : lr_F jX1_value 39 (.ineg) 1 40 := ⟨by decide +kernel, rfl⟩
theorem a_X1_value_40 : lr_ISt jX1_value 40 7 42 := Or.inr ⟨by decide +kernel, rfl⟩
theorem a_X1_value_42 : lr_ILd jX1_value 42 7 44 := Or.inr ⟨by decide +kernel, rfl⟩
theorem a_X1_value_44 : lr_Br jX1_value 44 (Instr.ifCond .le) 55 47 := ⟨11, by decide +kernel, by decide, rfl⟩
theorem a_X1_value_47 : lr_ILd jX1_value 47 7 49 := Or.inr ⟨by decide +kernel, rfl⟩
theorem a_X1_value_49 : lr_F jX1_value 49 (.invokestatic 25) 3 52 := ⟨by decide +kernel, rfl⟩
theorem a_X1_value_52 : lr_Br jX1_value 52 (Instr.ifCond .eq) 101 55 := ⟨49, by decide +kernel, by decide, rfl⟩
theorem a_X1_value_55 : lr_ILd jX1_value 55 5 57 := Or.inr ⟨by decide +kernel, rfl⟩
theorem a_X1_value_57 : lr_IC jX1_value 57 32 59 := Or.inr (Or.inl ⟨32, by decide, by decide +kernel, rfl⟩)
theorem a_X1_value_59 : lr_Br jX1_value 59 (Instr.if_icmp .lt) 64 62 := ⟨5, by decide +kernel, by decide, rfl⟩
theorem a_X1_value_62 : lr_IC jX1_value 62 0 63 := Or.inl ⟨0, by decide, by decide +kernel, rfl⟩
theorem a_X1_value_63 : lr_F jX1_value 63 (.ireturn) 1 64 := ⟨by decide +kernel, rfl⟩
theorem a_X1_value_64 : lr_ALd jX1_value 64 0 65 := Or.inl ⟨0, rfl, by decide +kernel, rfl⟩
theorem a_X1_value_65 : lr_F jX1_value 65 (.getfield 18) 3 68 := ⟨by decide +kernel, rfl⟩
theorem a_X1_value_68 : lr_ILd jX1_value 68 5 70 := Or.inr ⟨by decide +kernel, rfl⟩
theorem a_X1_value_70 : lr_ILd jX1_value 70 7 72 := Or.inr ⟨by decide +kernel, rfl⟩
theorem a_X1_value_72 : lr_Br jX1_value 72 (Instr.ifCond .gt) 85 75 := ⟨13, by decide +kernel, by decide, rfl⟩
theorem a_X1_value_75 : lr_ALd jX1_value 75 0 76 := Or.inl ⟨0, rfl, by decide +kernel, rfl⟩
theorem a_X1_value_76 : lr_F jX1_value 76 (.getfield 9) 3 79 := ⟨by decide +kernel, rfl⟩
theorem a_X1_value_79 : lr_ILd jX1_value 79 6 81 := Or.inr ⟨by decide +kernel, rfl⟩
theorem a_X1_value_81 : lr_F jX1_value 81 (.iaload) 1 82 := ⟨by decide +kernel, rfl⟩
theorem a_X1_value_82 : lr_Br jX1_value 82 (Instr.goto) 94 85 := ⟨12, by decide +kernel, by decide, rfl⟩
theorem a_X1_value_85 : lr_ILd jX1_value 85 7 87 := Or.inr ⟨by decide +kernel, rfl⟩
theorem a_X1_value_87 : lr_ALd jX1_value 87 2 88 := Or.inl ⟨2, rfl, by decide +kernel, rfl⟩
theorem a_X1_value_88 : lr_ILd jX1_value 88 3 89 := Or.inl ⟨3, rfl, by decide +kernel, rfl⟩
theorem a_X1_value_89 : lr_ILd jX1_value 89 4 91 := Or.inr ⟨by decide +kernel, rfl⟩
theorem a_X1_value_91 : lr_F jX1_value 91 (.invokestatic 31) 3 94 := ⟨by decide +kernel, rfl⟩
theorem a_X1_value_94 : lr_F jX1_value 94 (.iastore) 1 95 := ⟨by decide +kernel, rfl⟩
theorem a_X1_value_95 : lr_F jX1_value 95 (.iinc 5 1) 3 98 := ⟨by decide +kernel, rfl⟩
theorem a_X1_value_98 : lr_Br jX1_value 98 (Instr.goto) 210 101 := ⟨112, by decide +kernel, by decide, rfl⟩
theorem a_X1_value_101 : lr_ILd jX1_value 101 7 103 := Or.inr ⟨by decide +kernel, rfl⟩
theorem a_X1_value_103 : lr_IC jX1_value 103 9 105 := Or.inr (Or.inl ⟨9, by decide, by decide +kernel, rfl⟩)
theorem a_X1_value_105 : lr_Br jX1_value 105 (Instr.if_icmp .eq) 115 108 := ⟨10, by decide +kernel, by decide, rfl⟩
theorem a_X1_value_108 : lr_ILd jX1_value 108 7 110 := Or.inr ⟨by decide +kernel, rfl⟩
theorem a_X1_value_110 : lr_IC jX1_value 110 126 112 := Or.inr (Or.inl ⟨126, by decide, by decide +kernel, rfl⟩)
theorem a_X1_value_112 : lr_Br jX1_value 112 (Instr.if_icmp .ne) 169 115 := ⟨57, by decide +kernel, by decide, rfl⟩
theorem a_X1_value_115 : lr_ILd jX1_value 115 5 117 := Or.inr ⟨by decide +kernel, rfl⟩
theorem a_X1_value_117 : lr_IC jX1_value 117 1 118 := Or.inl ⟨1, by decide, by decide +kernel, rfl⟩
theorem a_X1_value_118 : lr_Br jX1_value 118 (Instr.if_icmp .ge) 123 121 := ⟨5, by decide +kernel, by decide, rfl⟩
theorem a_X1_value_121 : lr_IC jX1_value 121 0 122 := Or.inl ⟨0, by decide, by decide +kernel, rfl⟩
theorem a_X1_value_122 : lr_F jX1_value 122 (.ireturn) 1 123 := ⟨by decide +kernel, rfl⟩
theorem a_X1_value_123 : lr_ALd jX1_value 123 0 124 := Or.inl ⟨0, rfl, by decide +kernel, rfl⟩
theorem a_X1_value_124 : lr_F jX1_value 124 (.getfield 18) 3 127 := ⟨by decide +kernel, rfl⟩
theorem a_X1_value_127 : lr_ILd jX1_value 127 5 129 := Or.inr ⟨by decide +kernel, rfl⟩
theorem a_X1_value_129 : lr_IC jX1_value 129 1 130 := Or.inl ⟨1, by decide, by decide +kernel, rfl⟩
theorem a_X1_value_130 : lr_F jX1_value 130 (.isub) 1 131 := ⟨by decide +kernel, rfl⟩
theorem a_X1_value_131 : lr_F jX1_value 131 (.iaload) 1 132 := ⟨by decide +kernel, rfl⟩
theorem a_X1_value_132 : lr_ISt jX1_value 132 8 134 := Or.inr ⟨by decide +kernel, rfl⟩
theorem a_X1_value_134 : lr_ALd jX1_value 134 0 135 := Or.inl ⟨0, rfl, by decide +kernel, rfl⟩
theorem a_X1_value_135 : lr_F jX1_value 135 (.getfield 18) 3 138 := ⟨by decide +kernel, rfl⟩
theorem a_X1_value_138 : lr_ILd jX1_value 138 5 140 := Or.inr ⟨by decide +kernel, rfl⟩
theorem a_X1_value_140 : lr_IC jX1_value 140 1 141 := Or.inl ⟨1, by decide, by decide +kernel, rfl⟩
theorem a_X1_value_141 : lr_F jX1_value 141 (.isub) 1 142 := ⟨by decide +kernel, rfl⟩
theorem a_X1_value_142 : lr_ILd jX1_value 142 7 144 := Or.inr ⟨by decide +kernel, rfl⟩
theorem a_X1_value_144 : lr_IC jX1_value 144 126 146 := Or.inr (Or.inl ⟨126, by decide, by decide +kernel, rfl⟩)
theorem a_X1_value_146 : lr_Br jX1_value 146 (Instr.if_icmp .ne) 155 149 := ⟨9, by decide +kernel, by decide, rfl⟩
theorem a_X1_value_149 : lr_ILd jX1_value 149 8 151 := Or.inr ⟨by decide +kernel, rfl⟩
theorem a_X1_value_151 : lr_F jX1_value 151 (.ineg) 1 152 := ⟨by decide +kernel, rfl⟩
theorem a_X1_value_152 : lr_Br jX1_value 152 (Instr.goto) 165 155 := ⟨13, by decide +kernel, by decide, rfl⟩
theorem a_X1_value_155 : lr_ILd jX1_value 155 8 157 := Or.inr ⟨by decide +kernel, rfl⟩
theorem a_X1_value_157 : lr_Br jX1_value 157 (Instr.ifCond .ne) 164 160 := ⟨7, by decide +kernel, by decide, rfl⟩
theorem a_X1_value_160 : lr_IC jX1_value 160 1 161 := Or.inl ⟨1, by decide, by decide +kernel, rfl⟩
theorem a_X1_value_161 : lr_Br jX1_value 161 (Instr.goto) 165 164 := ⟨4, by decide +kernel, by decide, rfl⟩
theorem a_X1_value_164 : lr_IC jX1_value 164 0 165 := Or.inl ⟨0, by decide, by decide +kernel, rfl⟩
theorem a_X1_value_165 : lr_F jX1_value 165 (.iastore) 1 166 := ⟨by decide +kernel, rfl⟩
theorem a_X1_value_166 : lr_Br jX1_value 166 (Instr.goto) 210 169 := ⟨44, by decide +kernel, by decide, rfl⟩
theorem a_X1_value_169 : lr_ILd jX1_value 169 5 171 := Or.inr ⟨by decide +kernel, rfl⟩
theorem a_X1_value_171 : lr_IC jX1_value 171 2 172 := Or.inl ⟨2, by decide, by decide +kernel, rfl⟩
theorem a_X1_value_172 : lr_Br jX1_value 172 (Instr.if_icmp .ge) 177 175 := ⟨5, by decide +kernel, by decide, rfl⟩
theorem a_X1_value_175 : lr_IC jX1_value 175 0 176 := Or.inl ⟨0, by decide, by decide +kernel, rfl⟩
theorem a_X1_value_176 : lr_F jX1_value 176 (.ireturn) 1 177 := ⟨by decide +kernel, rfl⟩
theorem a_X1_value_177 : lr_F jX1_value 177 (.iinc 5 (-1)) 3 180 := ⟨by decide +kernel, rfl⟩
theorem a_X1_value_180 : lr_ALd jX1_value 180 0 181 := Or.inl ⟨0, rfl, by decide +kernel, rfl⟩
theorem a_X1_value_181 : lr_F jX1_value 181 (.getfield 18) 3 184 := ⟨by decide +kernel, rfl⟩
theorem a_X1_value_184 : lr_ILd jX1_value 184 5 186 := Or.inr ⟨by decide +kernel, rfl⟩
theorem a_X1_value_186 : lr_IC jX1_value 186 1 187 := Or.inl ⟨1, by decide, by decide +kernel, rfl⟩
theorem a_X1_value_187 : lr_F jX1_value 187 (.isub) 1 188 := ⟨by decide +kernel, rfl⟩
theorem a_X1_value_188 : lr_ILd jX1_value 188 7 190 := Or.inr ⟨by decide +kernel, rfl⟩
theorem a_X1_value_190 : lr_ALd jX1_value 190 0 191 := Or.inl ⟨0, rfl, by decide +kernel, rfl⟩
theorem a_X1_value_191 : lr_F jX1_value 191 (.getfield 18) 3 194 := ⟨by decide +kernel, rfl⟩
theorem a_X1_value_194 : lr_ILd jX1_value 194 5 196 := Or.inr ⟨by decide +kernel, rfl⟩
theorem a_X1_value_196 : lr_IC jX1_value 196 1 197 := Or.inl ⟨1, by decide, by decide +kernel, rfl⟩
theorem a_X1_value_197 : lr_F jX1_value 197 (.isub) 1 198 := ⟨by decide +kernel, rfl⟩
theorem a_X1_value_198 : lr_F jX1_value 198 (.iaload) 1 199 := ⟨by decide +kernel, rfl⟩
theorem a_X1_value_199 : lr_ALd jX1_value 199 0 200 := Or.inl ⟨0, rfl, by decide +kernel, rfl⟩
theorem a_X1_value_200 : lr_F jX1_value 200 (.getfield 18) 3 203 := ⟨by decide +kernel, rfl⟩
theorem a_X1_value_203 : lr_ILd jX1_value 203 5 205 := Or.inr ⟨by decide +kernel, rfl⟩
theorem a_X1_value_205 : lr_F jX1_value 205 (.iaload) 1 206 := ⟨by decide +kernel, rfl⟩
theorem a_X1_value_206 : lr_F jX1_value 206 (.invokestatic 35) 3 209 := ⟨by decide +kernel, rfl⟩
theorem a_X1_value_209 : lr_F jX1_value 209 (.iastore) 1 210 := ⟨by decide +kernel, rfl⟩
theorem a_X1_value_210 : lr_F jX1_value 210 (.iinc 6 1) 3 213 := ⟨by decide +kernel, rfl⟩
theorem a_X1_value_213 : lr_Br jX1_value 213 (Instr.goto) 21 216 := ⟨(-192), by decide +kernel, by decide, rfl⟩
theorem a_X1_value_216 : lr_ILd jX1_value 216 5 218 := Or.inr ⟨by decide +kernel, rfl⟩
theorem a_X1_value_218 : lr_IC jX1_value 218 1 219 := Or.inl ⟨1, by decide, by decide +kernel, rfl⟩
theorem a_X1_value_219 : lr_Br jX1_value 219 (Instr.if_icmp .ge) 226 222 := ⟨7, by decide +kernel, by decide, rfl⟩
theorem a_X1_value_222 : lr_IC jX1_value 222 0 223 := Or.inl ⟨0, by decide, by decide +kernel, rfl⟩
theorem a_X1_value_223 : lr_Br jX1_value 223 (Instr.goto) 235 226 := ⟨12, by decide +kernel, by decide, rfl⟩
theorem a_X1_value_226 : lr_ALd jX1_value 226 0 227 := Or.inl ⟨0, rfl, by decide +kernel, rfl⟩
theorem a_X1_value_227 : lr_F jX1_value 227 (.getfield 18) 3 230 := ⟨by decide +kernel, rfl⟩
theorem a_X1_value_230 : lr_ILd jX1_value 230 5 232 := Or.inr ⟨by decide +kernel, rfl⟩
theorem a_X1_value_232 : lr_IC jX1_value 232 1 233 := Or.inl ⟨1, by decide, by decide +kernel, rfl⟩
theorem a_X1_value_233 : lr_F jX1_value 233 (.isub) 1 234 := ⟨by decide +kernel, rfl⟩
theorem a_X1_value_234 : lr_F jX1_value 234 (.iaload) 1 235 := ⟨by decide +kernel, rfl⟩
theorem a_X1_value_235 : lr_F jX1_value 235 (.ireturn) 1 236 := ⟨by decide +kernel, rfl⟩
theorem a_X1_named_0 : lr_ILd jX1_named 0 0 1 := Or.inl ⟨0, rfl, by decide +kernel, rfl⟩
theorem a_X1_named_1 : lr_TS jX1_named 1 10 [36, 43, 50, 55, 57] 62 := ⟨61, 14, #[35, 42, 49, 54, 56], 35, by decide +kernel, by decide, by decide, rfl⟩
theorem a_X1_named_36 : lr_ALd jX1_named 36 1 37 := Or.inl ⟨1, rfl, by decide +kernel, rfl⟩
theorem a_X1_named_37 : lr_F jX1_named 37 (.getfield 39) 3 40 := ⟨by decide +kernel, rfl⟩
theorem a_X1_named_40 : lr_ILd jX1_named 40 2 41 := Or.inl ⟨2, rfl, by decide +kernel, rfl⟩
theorem a_X1_named_41 : lr_F jX1_named 41 (.iaload) 1 42 := ⟨by decide +kernel, rfl⟩
theorem a_X1_named_42 : lr_F jX1_named 42 (.ireturn) 1 43 := ⟨by decide +kernel, rfl⟩
theorem a_X1_named_43 : lr_ALd jX1_named 43 1 44 := Or.inl ⟨1, rfl, by decide +kernel, rfl⟩
theorem a_X1_named_44 : lr_F jX1_named 44 (.getfield 44) 3 47 := ⟨by decide +kernel, rfl⟩
theorem a_X1_named_47 : lr_ILd jX1_named 47 2 48 := Or.inl ⟨2, rfl, by decide +kernel, rfl⟩
theorem a_X1_named_48 : lr_F jX1_named 48 (.iaload) 1 49 := ⟨by decide +kernel, rfl⟩
theorem a_X1_named_49 : lr_F jX1_named 49 (.ireturn) 1 50 := ⟨by decide +kernel, rfl⟩
theorem a_X1_named_50 : lr_ALd jX1_named 50 1 51 := Or.inl ⟨1, rfl, by decide +kernel, rfl⟩
theorem a_X1_named_51 : lr_F jX1_named 51 (.getfield 47) 3 54 := ⟨by decide +kernel, rfl⟩
theorem a_X1_named_54 : lr_F jX1_named 54 (.ireturn) 1 55 := ⟨by decide +kernel, rfl⟩
theorem a_X1_named_55 : lr_ILd jX1_named 55 3 56 := Or.inl ⟨3, rfl, by decide +kernel, rfl⟩
theorem a_X1_named_56 : lr_F jX1_named 56 (.ireturn) 1 57 := ⟨by decide +kernel, rfl⟩
theorem a_X1_named_57 : lr_ALd jX1_named 57 1 58 := Or.inl ⟨1, rfl, by decide +kernel, rfl⟩
theorem a_X1_named_58 : lr_F jX1_named 58 (.getfield 50) 3 61 := ⟨by decide +kernel, rfl⟩
theorem a_X1_named_61 : lr_F jX1_named 61 (.ireturn) 1 62 := ⟨by decide +kernel, rfl⟩
theorem a_X1_named_62 : lr_ALd jX1_named 62 1 63 := Or.inl ⟨1, rfl, by decide +kernel, rfl⟩
theorem a_X1_named_63 : lr_F jX1_named 63 (.getfield 53) 3 66 := ⟨by decide +kernel, rfl⟩
theorem a_X1_named_66 : lr_ILd jX1_named 66 2 67 := Or.inl ⟨2, rfl, by decide +kernel, rfl⟩
theorem a_X1_named_67 : lr_F jX1_named 67 (.iaload) 1 68 := ⟨by decide +kernel, rfl⟩
theorem a_X1_named_68 : lr_F jX1_named 68 (.ireturn) 1 69 := ⟨by decide +kernel, rfl⟩
theorem a_X1_joined_0 : lr_ILd jX1_joined 0 0 1 := Or.inl ⟨0, rfl, by decide +kernel, rfl⟩
theorem a_X1_joined_1 : lr_LS jX1_joined 1 [(8, 94), (42, 60), (43, 64), (45, 68), (60, 72), (61, 83)] 108 := ⟨107, #[(8, 93), (42, 59), (43, 63), (45, 67), (60, 71), (61, 82)], 59, by decide +kernel, by decide +kernel, by decide, rfl⟩
theorem a_X1_joined_60 : lr_ILd jX1_joined 60 1 61 := Or.inl ⟨1, rfl, by decide +kernel, rfl⟩
theorem a_X1_joined_61 : lr_ILd jX1_joined 61 2 62 := Or.inl ⟨2, rfl, by decide +kernel, rfl⟩
theorem a_X1_joined_62 : lr_F jX1_joined 62 (.imul) 1 63 := ⟨by decide +kernel, rfl⟩
theorem a_X1_joined_63 : lr_F jX1_joined 63 (.ireturn) 1 64 := ⟨by decide +kernel, rfl⟩
theorem a_X1_joined_64 : lr_ILd jX1_joined 64 1 65 := Or.inl ⟨1, rfl, by decide +kernel, rfl⟩
theorem a_X1_joined_65 : lr_ILd jX1_joined 65 2 66 := Or.inl ⟨2, rfl, by decide +kernel, rfl⟩
theorem a_X1_joined_66 : lr_F jX1_joined 66 (.iadd) 1 67 := ⟨by decide +kernel, rfl⟩
theorem a_X1_joined_67 : lr_F jX1_joined 67 (.ireturn) 1 68 := ⟨by decide +kernel, rfl⟩
theorem a_X1_joined_68 : lr_ILd jX1_joined 68 1 69 := Or.inl ⟨1, rfl, by decide +kernel, rfl⟩
theorem a_X1_joined_69 : lr_ILd jX1_joined 69 2 70 := Or.inl ⟨2, rfl, by decide +kernel, rfl⟩
theorem a_X1_joined_70 : lr_F jX1_joined 70 (.isub) 1 71 := ⟨by decide +kernel, rfl⟩
theorem a_X1_joined_71 : lr_F jX1_joined 71 (.ireturn) 1 72 := ⟨by decide +kernel, rfl⟩
theorem a_X1_joined_72 : lr_ILd jX1_joined 72 1 73 := Or.inl ⟨1, rfl, by decide +kernel, rfl⟩
theorem a_X1_joined_73 : lr_ILd jX1_joined 73 2 74 := Or.inl ⟨2, rfl, by decide +kernel, rfl⟩
theorem a_X1_joined_74 : lr_Br jX1_joined 74 (Instr.if_icmp .ge) 81 77 := ⟨7, by decide +kernel, by decide, rfl⟩
theorem a_X1_joined_77 : lr_IC jX1_joined 77 1 78 := Or.inl ⟨1, by decide, by decide +kernel, rfl⟩
theorem a_X1_joined_78 : lr_Br jX1_joined 78 (Instr.goto) 82 81 := ⟨4, by decide +kernel, by decide, rfl⟩
theorem a_X1_joined_81 : lr_IC jX1_joined 81 0 82 := Or.inl ⟨0, by decide, by decide +kernel, rfl⟩
theorem a_X1_joined_82 : lr_F jX1_joined 82 (.ireturn) 1 83 := ⟨by decide +kernel, rfl⟩
theorem a_X1_joined_83 : lr_ILd jX1_joined 83 1 84 := Or.inl ⟨1, rfl, by decide +kernel, rfl⟩
theorem a_X1_joined_84 : lr_ILd jX1_joined 84 2 85 := Or.inl ⟨2, rfl, by decide +kernel, rfl⟩
theorem a_X1_joined_85 : lr_Br jX1_joined 85 (Instr.if_icmp .ne) 92 88 := ⟨7, by decide +kernel, by decide, rfl⟩
theorem a_X1_joined_88 : lr_IC jX1_joined 88 1 89 := Or.inl ⟨1, by decide, by decide +kernel, rfl⟩
theorem a_X1_joined_89 : lr_Br jX1_joined 89 (Instr.goto) 93 92 := ⟨4, by decide +kernel, by decide, rfl⟩
theorem a_X1_joined_92 : lr_IC jX1_joined 92 0 93 := Or.inl ⟨0, by decide, by decide +kernel, rfl⟩
theorem a_X1_joined_93 : lr_F jX1_joined 93 (.ireturn) 1 94 := ⟨by decide +kernel, rfl⟩
theorem a_X1_joined_94 : lr_ILd jX1_joined 94 1 95 := Or.inl ⟨1, rfl, by decide +kernel, rfl⟩
theorem a_X1_joined_95 : lr_Br jX1_joined 95 (Instr.ifCond .eq) 106 98 := ⟨11, by decide +kernel, by decide, rfl⟩
theorem a_X1_joined_98 : lr_ILd jX1_joined 98 2 99 := Or.inl ⟨2, rfl, by decide +kernel, rfl⟩
theorem a_X1_joined_99 : lr_Br jX1_joined 99 (Instr.ifCond .eq) 106 102 := ⟨7, by decide +kernel, by decide, rfl⟩
theorem a_X1_joined_102 : lr_IC jX1_joined 102 1 103 := Or.inl ⟨1, by decide, by decide +kernel, rfl⟩
theorem a_X1_joined_103 : lr_Br jX1_joined 103 (Instr.goto) 107 106 := ⟨4, by decide +kernel, by decide, rfl⟩
theorem a_X1_joined_106 : lr_IC jX1_joined 106 0 107 := Or.inl ⟨0, by decide, by decide +kernel, rfl⟩
theorem a_X1_joined_107 : lr_F jX1_joined 107 (.ireturn) 1 108 := ⟨by decide +kernel, rfl⟩
theorem a_X1_joined_108 : lr_ILd jX1_joined 108 1 109 := Or.inl ⟨1, rfl, by decide +kernel, rfl⟩
theorem a_X1_joined_109 : lr_Br jX1_joined 109 (Instr.ifCond .ne) 116 112 := ⟨7, by decide +kernel, by decide, rfl⟩
theorem a_X1_joined_112 : lr_ILd jX1_joined 112 2 113 := Or.inl ⟨2, rfl, by decide +kernel, rfl⟩
theorem a_X1_joined_113 : lr_Br jX1_joined 113 (Instr.ifCond .eq) 120 116 := ⟨7, by decide +kernel, by decide, rfl⟩
theorem a_X1_joined_116 : lr_IC jX1_joined 116 1 117 := Or.inl ⟨1, by decide, by decide +kernel, rfl⟩
theorem a_X1_joined_117 : lr_Br jX1_joined 117 (Instr.goto) 121 120 := ⟨4, by decide +kernel, by decide, rfl⟩
theorem a_X1_joined_120 : lr_IC jX1_joined 120 0 121 := Or.inl ⟨0, by decide, by decide +kernel, rfl⟩
theorem a_X1_joined_121 : lr_F jX1_joined 121 (.ireturn) 1 122 := ⟨by decide +kernel, rfl⟩
theorem a_X2_init_0 : lr_ALd jX2_init 0 0 1 := Or.inl ⟨0, rfl, by decide +kernel, rfl⟩
theorem a_X2_init_1 : lr_F jX2_init 1 (.invokespecial 3) 3 4 := ⟨by decide +kernel, rfl⟩
theorem a_X2_init_4 : lr_ALd jX2_init 4 0 5 := Or.inl ⟨0, rfl, by decide +kernel, rfl⟩
theorem a_X2_init_5 : lr_IC jX2_init 5 160 8 := Or.inr (Or.inr (Or.inl ⟨160, by decide, by decide +kernel, rfl⟩))
theorem a_X2_init_8 : lr_F jX2_init 8 (.newarray .int) 2 10 := ⟨by decide +kernel, rfl⟩
theorem a_X2_init_10 : lr_F jX2_init 10 (.putfield 9) 3 13 := ⟨by decide +kernel, rfl⟩
theorem a_X2_init_13 : lr_ALd jX2_init 13 0 14 := Or.inl ⟨0, rfl, by decide +kernel, rfl⟩
theorem a_X2_init_14 : lr_IC jX2_init 14 0 15 := Or.inl ⟨0, by decide, by decide +kernel, rfl⟩
theorem a_X2_init_15 : lr_F jX2_init 15 (.putfield 15) 3 18 := ⟨by decide +kernel, rfl⟩
theorem a_X2_init_18 : lr_ALd jX2_init 18 0 19 := Or.inl ⟨0, rfl, by decide +kernel, rfl⟩
theorem a_X2_init_19 : lr_IC jX2_init 19 0 20 := Or.inl ⟨0, by decide, by decide +kernel, rfl⟩
theorem a_X2_init_20 : lr_F jX2_init 20 (.putfield 19) 3 23 := ⟨by decide +kernel, rfl⟩
theorem a_X2_init_23 : lr_ALd jX2_init 23 0 24 := Or.inl ⟨0, rfl, by decide +kernel, rfl⟩
theorem a_X2_init_24 : lr_IC jX2_init 24 1 25 := Or.inl ⟨1, by decide, by decide +kernel, rfl⟩
theorem a_X2_init_25 : lr_F jX2_init 25 (.putfield 24) 3 28 := ⟨by decide +kernel, rfl⟩
theorem a_X2_init_28 : lr_ALd jX2_init 28 0 29 := Or.inl ⟨0, rfl, by decide +kernel, rfl⟩
theorem a_X2_init_29 : lr_IC jX2_init 29 0 30 := Or.inl ⟨0, by decide, by decide +kernel, rfl⟩
theorem a_X2_init_30 : lr_F jX2_init 30 (.putfield 27) 3 33 := ⟨by decide +kernel, rfl⟩
theorem a_X2_init_33 : lr_ALd jX2_init 33 0 34 := Or.inl ⟨0, rfl, by decide +kernel, rfl⟩
theorem a_X2_init_34 : lr_IC jX2_init 34 0 35 := Or.inl ⟨0, by decide, by decide +kernel, rfl⟩
theorem a_X2_init_35 : lr_F jX2_init 35 (.putfield 30) 3 38 := ⟨by decide +kernel, rfl⟩
theorem a_X2_init_38 : lr_ALd jX2_init 38 0 39 := Or.inl ⟨0, rfl, by decide +kernel, rfl⟩
theorem a_X2_init_39 : lr_IC jX2_init 39 (-1) 40 := Or.inl ⟨(-1), by decide, by decide +kernel, rfl⟩
theorem a_X2_init_40 : lr_F jX2_init 40 (.putfield 33) 3 43 := ⟨by decide +kernel, rfl⟩
theorem a_X2_init_43 : lr_ALd jX2_init 43 0 44 := Or.inl ⟨0, rfl, by decide +kernel, rfl⟩
theorem a_X2_init_44 : lr_ALd jX2_init 44 1 45 := Or.inl ⟨1, rfl, by decide +kernel, rfl⟩
theorem a_X2_init_45 : lr_F jX2_init 45 (.putfield 36) 3 48 := ⟨by decide +kernel, rfl⟩
theorem a_X2_init_48 : lr_F jX2_init 48 (.return_) 1 49 := ⟨by decide +kernel, rfl⟩
theorem a_X2_hear_0 : lr_ALd jX2_hear 0 0 1 := Or.inl ⟨0, rfl, by decide +kernel, rfl⟩
theorem a_X2_hear_1 : lr_F jX2_hear 1 (.getfield 15) 3 4 := ⟨by decide +kernel, rfl⟩
theorem a_X2_hear_4 : lr_IC jX2_hear 4 160 7 := Or.inr (Or.inr (Or.inl ⟨160, by decide, by decide +kernel, rfl⟩))
theorem a_X2_hear_7 : lr_Br jX2_hear 7 (Instr.if_icmp .ge) 30 10 := ⟨23, by decide +kernel, by decide, rfl⟩
theorem a_X2_hear_10 : lr_ALd jX2_hear 10 0 11 := Or.inl ⟨0, rfl, by decide +kernel, rfl⟩
theorem a_X2_hear_11 : lr_F jX2_hear 11 (.getfield 9) 3 14 := ⟨by decide +kernel, rfl⟩
theorem a_X2_hear_14 : lr_ALd jX2_hear 14 0 15 := Or.inl ⟨0, rfl, by decide +kernel, rfl⟩
theorem a_X2_hear_15 : lr_F jX2_hear 15 (.getfield 15) 3 18 := ⟨by decide +kernel, rfl⟩
theorem a_X2_hear_18 : lr_ILd jX2_hear 18 1 19 := Or.inl ⟨1, rfl, by decide +kernel, rfl⟩
theorem a_X2_hear_19 : lr_F jX2_hear 19 (.iastore) 1 20 := ⟨by decide +kernel, rfl⟩
theorem a_X2_hear_20 : lr_ALd jX2_hear 20 0 21 := Or.inl ⟨0, rfl, by decide +kernel, rfl⟩
theorem a_X2_hear_21 : lr_F jX2_hear 21 (.dup) 1 22 := ⟨by decide +kernel, rfl⟩
theorem a_X2_hear_22 : lr_F jX2_hear 22 (.getfield 15) 3 25 := ⟨by decide +kernel, rfl⟩
theorem a_X2_hear_25 : lr_IC jX2_hear 25 1 26 := Or.inl ⟨1, by decide, by decide +kernel, rfl⟩
theorem a_X2_hear_26 : lr_F jX2_hear 26 (.iadd) 1 27 := ⟨by decide +kernel, rfl⟩
theorem a_X2_hear_27 : lr_F jX2_hear 27 (.putfield 15) 3 30 := ⟨by decide +kernel, rfl⟩
theorem a_X2_hear_30 : lr_F jX2_hear 30 (.return_) 1 31 := ⟨by decide +kernel, rfl⟩
theorem a_X2_read_0 : lr_ALd jX2_read 0 0 1 := Or.inl ⟨0, rfl, by decide +kernel, rfl⟩
theorem a_X2_read_1 : lr_ALd jX2_read 1 1 2 := Or.inl ⟨1, rfl, by decide +kernel, rfl⟩
theorem a_X2_read_2 : lr_F jX2_read 2 (.putfield 36) 3 5 := ⟨by decide +kernel, rfl⟩
theorem a_X2_read_5 : lr_ALd jX2_read 5 0 6 := Or.inl ⟨0, rfl, by decide +kernel, rfl⟩
theorem a_X2_read_6 : lr_F jX2_read 6 (.getfield 36) 3 9 := ⟨by decide +kernel, rfl⟩
theorem a_X2_read_9 : lr_F jX2_read 9 (.invokevirtual 40) 3 12 := ⟨by decide +kernel, rfl⟩
theorem a_X2_read_12 : lr_ALd jX2_read 12 0 13 := Or.inl ⟨0, rfl, by decide +kernel, rfl⟩
theorem a_X2_read_13 : lr_IC jX2_read 13 0 14 := Or.inl ⟨0, by decide, by decide +kernel, rfl⟩
theorem a_X2_read_14 : lr_F jX2_read 14 (.putfield 19) 3 17 := ⟨by decide +kernel, rfl⟩
theorem a_X2_read_17 : lr_ALd jX2_read 17 0 18 := Or.inl ⟨0, rfl, by decide +kernel, rfl⟩
theorem a_X2_read_18 : lr_IC jX2_read 18 (-1) 19 := Or.inl ⟨(-1), by decide, by decide +kernel, rfl⟩
theorem a_X2_read_19 : lr_F jX2_read 19 (.putfield 33) 3 22 := ⟨by decide +kernel, rfl⟩
theorem a_X2_read_22 : lr_ALd jX2_read 22 0 23 := Or.inl ⟨0, rfl, by decide +kernel, rfl⟩
theorem a_X2_read_23 : lr_F jX2_read 23 (.invokevirtual 45) 3 26 := ⟨by decide +kernel, rfl⟩
theorem a_X2_read_26 : lr_IC jX2_read 26 0 27 := Or.inl ⟨0, by decide, by decide +kernel, rfl⟩
theorem a_X2_read_27 : lr_ISt jX2_read 27 2 28 := Or.inl ⟨2, rfl, by decide +kernel, rfl⟩
theorem a_X2_read_28 : lr_ILd jX2_read 28 2 29 := Or.inl ⟨2, rfl, by decide +kernel, rfl⟩
theorem a_X2_read_29 : lr_IC jX2_read 29 2 30 := Or.inl ⟨2, by decide, by decide +kernel, rfl⟩
theorem a_X2_read_30 : lr_Br jX2_read 30 (Instr.if_icmp .gt) 65 33 := ⟨35, by decide +kernel, by decide, rfl⟩
theorem a_X2_read_33 : lr_ALd jX2_read 33 0 34 := Or.inl ⟨0, rfl, by decide +kernel, rfl⟩
theorem a_X2_read_34 : lr_IC jX2_read 34 4 35 := Or.inl ⟨4, by decide, by decide +kernel, rfl⟩
theorem a_X2_read_35 : lr_ILd jX2_read 35 2 36 := Or.inl ⟨2, rfl, by decide +kernel, rfl⟩
theorem a_X2_read_36 : lr_F jX2_read 36 (.iadd) 1 37 := ⟨by decide +kernel, rfl⟩
theorem a_X2_read_37 : lr_F jX2_read 37 (.invokevirtual 48) 3 40 := ⟨by decide +kernel, rfl⟩
theorem a_X2_read_40 : lr_ALd jX2_read 40 0 41 := Or.inl ⟨0, rfl, by decide +kernel, rfl⟩
theorem a_X2_read_41 : lr_IC jX2_read 41 0 42 := Or.inl ⟨0, by decide, by decide +kernel, rfl⟩
theorem a_X2_read_42 : lr_F jX2_read 42 (.invokevirtual 52) 3 45 := ⟨by decide +kernel, rfl⟩
theorem a_X2_read_45 : lr_ALd jX2_read 45 0 46 := Or.inl ⟨0, rfl, by decide +kernel, rfl⟩
theorem a_X2_read_46 : lr_IC jX2_read 46 59 48 := Or.inr (Or.inl ⟨59, by decide, by decide +kernel, rfl⟩)
theorem a_X2_read_48 : lr_F jX2_read 48 (.invokevirtual 48) 3 51 := ⟨by decide +kernel, rfl⟩
theorem a_X2_read_51 : lr_ALd jX2_read 51 0 52 := Or.inl ⟨0, rfl, by decide +kernel, rfl⟩
theorem a_X2_read_52 : lr_F jX2_read 52 (.getfield 36) 3 55 := ⟨by decide +kernel, rfl⟩
theorem a_X2_read_55 : lr_ILd jX2_read 55 2 56 := Or.inl ⟨2, rfl, by decide +kernel, rfl⟩
theorem a_X2_read_56 : lr_F jX2_read 56 (.invokevirtual 55) 3 59 := ⟨by decide +kernel, rfl⟩
theorem a_X2_read_59 : lr_F jX2_read 59 (.iinc 2 1) 3 62 := ⟨by decide +kernel, rfl⟩
theorem a_X2_read_62 : lr_Br jX2_read 62 (Instr.goto) 28 65 := ⟨(-34), by decide +kernel, by decide, rfl⟩
theorem a_X2_read_65 : lr_ALd jX2_read 65 0 66 := Or.inl ⟨0, rfl, by decide +kernel, rfl⟩
theorem a_X2_read_66 : lr_IC jX2_read 66 1 67 := Or.inl ⟨1, by decide, by decide +kernel, rfl⟩
theorem a_X2_read_67 : lr_F jX2_read 67 (.invokevirtual 48) 3 70 := ⟨by decide +kernel, rfl⟩
theorem a_X2_read_70 : lr_ALd jX2_read 70 0 71 := Or.inl ⟨0, rfl, by decide +kernel, rfl⟩
theorem a_X2_read_71 : lr_IC jX2_read 71 0 72 := Or.inl ⟨0, by decide, by decide +kernel, rfl⟩
theorem a_X2_read_72 : lr_F jX2_read 72 (.putfield 15) 3 75 := ⟨by decide +kernel, rfl⟩
theorem a_X2_read_75 : lr_ALd jX2_read 75 0 76 := Or.inl ⟨0, rfl, by decide +kernel, rfl⟩
theorem a_X2_read_76 : lr_F jX2_read 76 (.getfield 33) 3 79 := ⟨by decide +kernel, rfl⟩
theorem a_X2_read_79 : lr_F jX2_read 79 (.ireturn) 1 80 := ⟨by decide +kernel, rfl⟩
theorem a_X2_either_0 : lr_ALd jX2_either 0 0 1 := Or.inl ⟨0, rfl, by decide +kernel, rfl⟩
theorem a_X2_either_1 : lr_ILd jX2_either 1 1 2 := Or.inl ⟨1, rfl, by decide +kernel, rfl⟩
theorem a_X2_either_2 : lr_F jX2_either 2 (.invokevirtual 58) 3 5 := ⟨by decide +kernel, rfl⟩
theorem a_X2_either_5 : lr_IC jX2_either 5 0 6 := Or.inl ⟨0, by decide, by decide +kernel, rfl⟩
theorem a_X2_either_6 : lr_ISt jX2_either 6 2 7 := Or.inl ⟨2, rfl, by decide +kernel, rfl⟩
theorem a_X2_either_7 : lr_ILd jX2_either 7 2 8 := Or.inl ⟨2, rfl, by decide +kernel, rfl⟩
theorem a_X2_either_8 : lr_IC jX2_either 8 160 11 := Or.inr (Or.inr (Or.inl ⟨160, by decide, by decide +kernel, rfl⟩))
theorem a_X2_either_11 : lr_Br jX2_either 11 (Instr.if_icmp .ge) 47 14 := ⟨36, by decide +kernel, by decide, rfl⟩
theorem a_X2_either_14 : lr_ALd jX2_either 14 0 15 := Or.inl ⟨0, rfl, by decide +kernel, rfl⟩
theorem a_X2_either_15 : lr_F jX2_either 15 (.getfield 24) 3 18 := ⟨by decide +kernel, rfl⟩
theorem a_X2_either_18 : lr_IC jX2_either 18 7 20 := Or.inr (Or.inl ⟨7, by decide, by decide +kernel, rfl⟩)
theorem a_X2_either_20 : lr_Br jX2_either 20 (Instr.if_icmp .ne) 47 23 := ⟨27, by decide +kernel, by decide, rfl⟩
theorem a_X2_either_23 : lr_ALd jX2_either 23 0 24 := Or.inl ⟨0, rfl, by decide +kernel, rfl⟩
theorem a_X2_either_24 : lr_F jX2_either 24 (.invokevirtual 45) 3 27 := ⟨by decide +kernel, rfl⟩
theorem a_X2_either_27 : lr_ALd jX2_either 27 0 28 := Or.inl ⟨0, rfl, by decide +kernel, rfl⟩
theorem a_X2_either_28 : lr_ILd jX2_either 28 1 29 := Or.inl ⟨1, rfl, by decide +kernel, rfl⟩
theorem a_X2_either_29 : lr_F jX2_either 29 (.invokevirtual 58) 3 32 := ⟨by decide +kernel, rfl⟩
theorem a_X2_either_32 : lr_ALd jX2_either 32 0 33 := Or.inl ⟨0, rfl, by decide +kernel, rfl⟩
theorem a_X2_either_33 : lr_F jX2_either 33 (.getfield 36) 3 36 := ⟨by decide +kernel, rfl⟩
theorem a_X2_either_36 : lr_IC jX2_either 36 (-7) 38 := Or.inr (Or.inl ⟨(-7), by decide, by decide +kernel, rfl⟩)
theorem a_X2_either_38 : lr_F jX2_either 38 (.invokevirtual 61) 3 41 := ⟨by decide +kernel, rfl⟩
theorem a_X2_either_41 : lr_F jX2_either 41 (.iinc 2 1) 3 44 := ⟨by decide +kernel, rfl⟩
theorem a_X2_either_44 : lr_Br jX2_either 44 (Instr.goto) 7 47 := ⟨(-37), by decide +kernel, by decide, rfl⟩
theorem a_X2_either_47 : lr_F jX2_either 47 (.return_) 1 48 := ⟨by decide +kernel, rfl⟩
theorem a_X2_both_0 : lr_ALd jX2_both 0 0 1 := Or.inl ⟨0, rfl, by decide +kernel, rfl⟩
theorem a_X2_both_1 : lr_ILd jX2_both 1 1 2 := Or.inl ⟨1, rfl, by decide +kernel, rfl⟩
theorem a_X2_both_2 : lr_F jX2_both 2 (.invokevirtual 64) 3 5 := ⟨by decide +kernel, rfl⟩
theorem a_X2_both_5 : lr_IC jX2_both 5 0 6 := Or.inl ⟨0, by decide, by decide +kernel, rfl⟩
theorem a_X2_both_6 : lr_ISt jX2_both 6 2 7 := Or.inl ⟨2, rfl, by decide +kernel, rfl⟩
theorem a_X2_both_7 : lr_ILd jX2_both 7 2 8 := Or.inl ⟨2, rfl, by decide +kernel, rfl⟩
theorem a_X2_both_8 : lr_IC jX2_both 8 160 11 := Or.inr (Or.inr (Or.inl ⟨160, by decide, by decide +kernel, rfl⟩))
theorem a_X2_both_11 : lr_Br jX2_both 11 (Instr.if_icmp .ge) 47 14 := ⟨36, by decide +kernel, by decide, rfl⟩
theorem a_X2_both_14 : lr_ALd jX2_both 14 0 15 := Or.inl ⟨0, rfl, by decide +kernel, rfl⟩
theorem a_X2_both_15 : lr_F jX2_both 15 (.getfield 24) 3 18 := ⟨by decide +kernel, rfl⟩
theorem a_X2_both_18 : lr_IC jX2_both 18 8 20 := Or.inr (Or.inl ⟨8, by decide, by decide +kernel, rfl⟩)
theorem a_X2_both_20 : lr_Br jX2_both 20 (Instr.if_icmp .ne) 47 23 := ⟨27, by decide +kernel, by decide, rfl⟩
theorem a_X2_both_23 : lr_ALd jX2_both 23 0 24 := Or.inl ⟨0, rfl, by decide +kernel, rfl⟩
theorem a_X2_both_24 : lr_F jX2_both 24 (.invokevirtual 45) 3 27 := ⟨by decide +kernel, rfl⟩
theorem a_X2_both_27 : lr_ALd jX2_both 27 0 28 := Or.inl ⟨0, rfl, by decide +kernel, rfl⟩
theorem a_X2_both_28 : lr_ILd jX2_both 28 1 29 := Or.inl ⟨1, rfl, by decide +kernel, rfl⟩
theorem a_X2_both_29 : lr_F jX2_both 29 (.invokevirtual 64) 3 32 := ⟨by decide +kernel, rfl⟩
theorem a_X2_both_32 : lr_ALd jX2_both 32 0 33 := Or.inl ⟨0, rfl, by decide +kernel, rfl⟩
theorem a_X2_both_33 : lr_F jX2_both 33 (.getfield 36) 3 36 := ⟨by decide +kernel, rfl⟩
theorem a_X2_both_36 : lr_IC jX2_both 36 (-8) 38 := Or.inr (Or.inl ⟨(-8), by decide, by decide +kernel, rfl⟩)
theorem a_X2_both_38 : lr_F jX2_both 38 (.invokevirtual 61) 3 41 := ⟨by decide +kernel, rfl⟩
theorem a_X2_both_41 : lr_F jX2_both 41 (.iinc 2 1) 3 44 := ⟨by decide +kernel, rfl⟩
theorem a_X2_both_44 : lr_Br jX2_both 44 (Instr.goto) 7 47 := ⟨(-37), by decide +kernel, by decide, rfl⟩
theorem a_X2_both_47 : lr_F jX2_both 47 (.return_) 1 48 := ⟨by decide +kernel, rfl⟩
theorem a_X2_perhapsNot_0 : lr_ALd jX2_perhapsNot 0 0 1 := Or.inl ⟨0, rfl, by decide +kernel, rfl⟩
theorem a_X2_perhapsNot_1 : lr_F jX2_perhapsNot 1 (.getfield 24) 3 4 := ⟨by decide +kernel, rfl⟩
theorem a_X2_perhapsNot_4 : lr_IC jX2_perhapsNot 4 9 6 := Or.inr (Or.inl ⟨9, by decide, by decide +kernel, rfl⟩)
theorem a_X2_perhapsNot_6 : lr_Br jX2_perhapsNot 6 (Instr.if_icmp .ne) 17 9 := ⟨11, by decide +kernel, by decide, rfl⟩
theorem a_X2_perhapsNot_9 : lr_ALd jX2_perhapsNot 9 0 10 := Or.inl ⟨0, rfl, by decide +kernel, rfl⟩
theorem a_X2_perhapsNot_10 : lr_ILd jX2_perhapsNot 10 1 11 := Or.inl ⟨1, rfl, by decide +kernel, rfl⟩
theorem a_X2_perhapsNot_11 : lr_F jX2_perhapsNot 11 (.invokevirtual 67) 3 14 := ⟨by decide +kernel, rfl⟩
theorem a_X2_perhapsNot_14 : lr_Br jX2_perhapsNot 14 (Instr.goto) 22 17 := ⟨8, by decide +kernel, by decide, rfl⟩
theorem a_X2_perhapsNot_17 : lr_ALd jX2_perhapsNot 17 0 18 := Or.inl ⟨0, rfl, by decide +kernel, rfl⟩
theorem a_X2_perhapsNot_18 : lr_ILd jX2_perhapsNot 18 1 19 := Or.inl ⟨1, rfl, by decide +kernel, rfl⟩
theorem a_X2_perhapsNot_19 : lr_F jX2_perhapsNot 19 (.invokevirtual 70) 3 22 := ⟨by decide +kernel, rfl⟩
theorem a_X2_perhapsNot_22 : lr_F jX2_perhapsNot 22 (.return_) 1 23 := ⟨by decide +kernel, rfl⟩
theorem a_X2_negation_0 : lr_ALd jX2_negation 0 0 1 := Or.inl ⟨0, rfl, by decide +kernel, rfl⟩
theorem a_X2_negation_1 : lr_ILd jX2_negation 1 1 2 := Or.inl ⟨1, rfl, by decide +kernel, rfl⟩
theorem a_X2_negation_2 : lr_F jX2_negation 2 (.invokevirtual 73) 3 5 := ⟨by decide +kernel, rfl⟩
theorem a_X2_negation_5 : lr_Br jX2_negation 5 (Instr.ifCond .eq) 28 8 := ⟨23, by decide +kernel, by decide, rfl⟩
theorem a_X2_negation_8 : lr_ALd jX2_negation 8 0 9 := Or.inl ⟨0, rfl, by decide +kernel, rfl⟩
theorem a_X2_negation_9 : lr_F jX2_negation 9 (.invokevirtual 45) 3 12 := ⟨by decide +kernel, rfl⟩
theorem a_X2_negation_12 : lr_ALd jX2_negation 12 0 13 := Or.inl ⟨0, rfl, by decide +kernel, rfl⟩
theorem a_X2_negation_13 : lr_ILd jX2_negation 13 1 14 := Or.inl ⟨1, rfl, by decide +kernel, rfl⟩
theorem a_X2_negation_14 : lr_IC jX2_negation 14 1 15 := Or.inl ⟨1, by decide, by decide +kernel, rfl⟩
theorem a_X2_negation_15 : lr_F jX2_negation 15 (.iadd) 1 16 := ⟨by decide +kernel, rfl⟩
theorem a_X2_negation_16 : lr_F jX2_negation 16 (.invokevirtual 64) 3 19 := ⟨by decide +kernel, rfl⟩
theorem a_X2_negation_19 : lr_ALd jX2_negation 19 0 20 := Or.inl ⟨0, rfl, by decide +kernel, rfl⟩
theorem a_X2_negation_20 : lr_F jX2_negation 20 (.getfield 36) 3 23 := ⟨by decide +kernel, rfl⟩
theorem a_X2_negation_23 : lr_IC jX2_negation 23 (-9) 25 := Or.inr (Or.inl ⟨(-9), by decide, by decide +kernel, rfl⟩)
theorem a_X2_negation_25 : lr_F jX2_negation 25 (.invokevirtual 61) 3 28 := ⟨by decide +kernel, rfl⟩
theorem a_X2_negation_28 : lr_F jX2_negation 28 (.return_) 1 29 := ⟨by decide +kernel, rfl⟩
theorem a_X2_comparison_0 : lr_ALd jX2_comparison 0 0 1 := Or.inl ⟨0, rfl, by decide +kernel, rfl⟩
theorem a_X2_comparison_1 : lr_ILd jX2_comparison 1 1 2 := Or.inl ⟨1, rfl, by decide +kernel, rfl⟩
theorem a_X2_comparison_2 : lr_F jX2_comparison 2 (.invokevirtual 77) 3 5 := ⟨by decide +kernel, rfl⟩
theorem a_X2_comparison_5 : lr_ALd jX2_comparison 5 0 6 := Or.inl ⟨0, rfl, by decide +kernel, rfl⟩
theorem a_X2_comparison_6 : lr_F jX2_comparison 6 (.getfield 24) 3 9 := ⟨by decide +kernel, rfl⟩
theorem a_X2_comparison_9 : lr_IC jX2_comparison 9 60 11 := Or.inr (Or.inl ⟨60, by decide, by decide +kernel, rfl⟩)
theorem a_X2_comparison_11 : lr_Br jX2_comparison 11 (Instr.if_icmp .eq) 23 14 := ⟨12, by decide +kernel, by decide, rfl⟩
theorem a_X2_comparison_14 : lr_ALd jX2_comparison 14 0 15 := Or.inl ⟨0, rfl, by decide +kernel, rfl⟩
theorem a_X2_comparison_15 : lr_F jX2_comparison 15 (.getfield 24) 3 18 := ⟨by decide +kernel, rfl⟩
theorem a_X2_comparison_18 : lr_IC jX2_comparison 18 61 20 := Or.inr (Or.inl ⟨61, by decide, by decide +kernel, rfl⟩)
theorem a_X2_comparison_20 : lr_Br jX2_comparison 20 (Instr.if_icmp .ne) 46 23 := ⟨26, by decide +kernel, by decide, rfl⟩
theorem a_X2_comparison_23 : lr_ALd jX2_comparison 23 0 24 := Or.inl ⟨0, rfl, by decide +kernel, rfl⟩
theorem a_X2_comparison_24 : lr_F jX2_comparison 24 (.getfield 24) 3 27 := ⟨by decide +kernel, rfl⟩
theorem a_X2_comparison_27 : lr_ISt jX2_comparison 27 2 28 := Or.inl ⟨2, rfl, by decide +kernel, rfl⟩
theorem a_X2_comparison_28 : lr_ALd jX2_comparison 28 0 29 := Or.inl ⟨0, rfl, by decide +kernel, rfl⟩
theorem a_X2_comparison_29 : lr_F jX2_comparison 29 (.invokevirtual 45) 3 32 := ⟨by decide +kernel, rfl⟩
theorem a_X2_comparison_32 : lr_ALd jX2_comparison 32 0 33 := Or.inl ⟨0, rfl, by decide +kernel, rfl⟩
theorem a_X2_comparison_33 : lr_ILd jX2_comparison 33 1 34 := Or.inl ⟨1, rfl, by decide +kernel, rfl⟩
theorem a_X2_comparison_34 : lr_F jX2_comparison 34 (.invokevirtual 77) 3 37 := ⟨by decide +kernel, rfl⟩
theorem a_X2_comparison_37 : lr_ALd jX2_comparison 37 0 38 := Or.inl ⟨0, rfl, by decide +kernel, rfl⟩
theorem a_X2_comparison_38 : lr_F jX2_comparison 38 (.getfield 36) 3 41 := ⟨by decide +kernel, rfl⟩
theorem a_X2_comparison_41 : lr_ILd jX2_comparison 41 2 42 := Or.inl ⟨2, rfl, by decide +kernel, rfl⟩
theorem a_X2_comparison_42 : lr_F jX2_comparison 42 (.ineg) 1 43 := ⟨by decide +kernel, rfl⟩
theorem a_X2_comparison_43 : lr_F jX2_comparison 43 (.invokevirtual 61) 3 46 := ⟨by decide +kernel, rfl⟩
theorem a_X2_comparison_46 : lr_F jX2_comparison 46 (.return_) 1 47 := ⟨by decide +kernel, rfl⟩
theorem a_X2_sum_0 : lr_ALd jX2_sum 0 0 1 := Or.inl ⟨0, rfl, by decide +kernel, rfl⟩
theorem a_X2_sum_1 : lr_ILd jX2_sum 1 1 2 := Or.inl ⟨1, rfl, by decide +kernel, rfl⟩
theorem a_X2_sum_2 : lr_F jX2_sum 2 (.invokevirtual 80) 3 5 := ⟨by decide +kernel, rfl⟩
theorem a_X2_sum_5 : lr_IC jX2_sum 5 0 6 := Or.inl ⟨0, by decide, by decide +kernel, rfl⟩
theorem a_X2_sum_6 : lr_ISt jX2_sum 6 2 7 := Or.inl ⟨2, rfl, by decide +kernel, rfl⟩
theorem a_X2_sum_7 : lr_ILd jX2_sum 7 2 8 := Or.inl ⟨2, rfl, by decide +kernel, rfl⟩
theorem a_X2_sum_8 : lr_IC jX2_sum 8 160 11 := Or.inr (Or.inr (Or.inl ⟨160, by decide, by decide +kernel, rfl⟩))
theorem a_X2_sum_11 : lr_Br jX2_sum 11 (Instr.if_icmp .ge) 61 14 := ⟨50, by decide +kernel, by decide, rfl⟩
theorem a_X2_sum_14 : lr_ALd jX2_sum 14 0 15 := Or.inl ⟨0, rfl, by decide +kernel, rfl⟩
theorem a_X2_sum_15 : lr_F jX2_sum 15 (.getfield 24) 3 18 := ⟨by decide +kernel, rfl⟩
theorem a_X2_sum_18 : lr_IC jX2_sum 18 43 20 := Or.inr (Or.inl ⟨43, by decide, by decide +kernel, rfl⟩)
theorem a_X2_sum_20 : lr_Br jX2_sum 20 (Instr.if_icmp .eq) 32 23 := ⟨12, by decide +kernel, by decide, rfl⟩
theorem a_X2_sum_23 : lr_ALd jX2_sum 23 0 24 := Or.inl ⟨0, rfl, by decide +kernel, rfl⟩
theorem a_X2_sum_24 : lr_F jX2_sum 24 (.getfield 24) 3 27 := ⟨by decide +kernel, rfl⟩
theorem a_X2_sum_27 : lr_IC jX2_sum 27 45 29 := Or.inr (Or.inl ⟨45, by decide, by decide +kernel, rfl⟩)
theorem a_X2_sum_29 : lr_Br jX2_sum 29 (Instr.if_icmp .ne) 61 32 := ⟨32, by decide +kernel, by decide, rfl⟩
theorem a_X2_sum_32 : lr_ALd jX2_sum 32 0 33 := Or.inl ⟨0, rfl, by decide +kernel, rfl⟩
theorem a_X2_sum_33 : lr_F jX2_sum 33 (.getfield 24) 3 36 := ⟨by decide +kernel, rfl⟩
theorem a_X2_sum_36 : lr_ISt jX2_sum 36 3 37 := Or.inl ⟨3, rfl, by decide +kernel, rfl⟩
theorem a_X2_sum_37 : lr_ALd jX2_sum 37 0 38 := Or.inl ⟨0, rfl, by decide +kernel, rfl⟩
theorem a_X2_sum_38 : lr_F jX2_sum 38 (.invokevirtual 45) 3 41 := ⟨by decide +kernel, rfl⟩
theorem a_X2_sum_41 : lr_ALd jX2_sum 41 0 42 := Or.inl ⟨0, rfl, by decide +kernel, rfl⟩
theorem a_X2_sum_42 : lr_ILd jX2_sum 42 1 43 := Or.inl ⟨1, rfl, by decide +kernel, rfl⟩
theorem a_X2_sum_43 : lr_F jX2_sum 43 (.invokevirtual 80) 3 46 := ⟨by decide +kernel, rfl⟩
theorem a_X2_sum_46 : lr_ALd jX2_sum 46 0 47 := Or.inl ⟨0, rfl, by decide +kernel, rfl⟩
theorem a_X2_sum_47 : lr_F jX2_sum 47 (.getfield 36) 3 50 := ⟨by decide +kernel, rfl⟩
theorem a_X2_sum_50 : lr_ILd jX2_sum 50 3 51 := Or.inl ⟨3, rfl, by decide +kernel, rfl⟩
theorem a_X2_sum_51 : lr_F jX2_sum 51 (.ineg) 1 52 := ⟨by decide +kernel, rfl⟩
theorem a_X2_sum_52 : lr_F jX2_sum 52 (.invokevirtual 61) 3 55 := ⟨by decide +kernel, rfl⟩
theorem a_X2_sum_55 : lr_F jX2_sum 55 (.iinc 2 1) 3 58 := ⟨by decide +kernel, rfl⟩
theorem a_X2_sum_58 : lr_Br jX2_sum 58 (Instr.goto) 7 61 := ⟨(-51), by decide +kernel, by decide, rfl⟩
theorem a_X2_sum_61 : lr_F jX2_sum 61 (.return_) 1 62 := ⟨by decide +kernel, rfl⟩
theorem a_X2_term_0 : lr_ALd jX2_term 0 0 1 := Or.inl ⟨0, rfl, by decide +kernel, rfl⟩
theorem a_X2_term_1 : lr_ILd jX2_term 1 1 2 := Or.inl ⟨1, rfl, by decide +kernel, rfl⟩
theorem a_X2_term_2 : lr_F jX2_term 2 (.invokevirtual 83) 3 5 := ⟨by decide +kernel, rfl⟩
theorem a_X2_term_5 : lr_IC jX2_term 5 0 6 := Or.inl ⟨0, by decide, by decide +kernel, rfl⟩
theorem a_X2_term_6 : lr_ISt jX2_term 6 2 7 := Or.inl ⟨2, rfl, by decide +kernel, rfl⟩
theorem a_X2_term_7 : lr_ILd jX2_term 7 2 8 := Or.inl ⟨2, rfl, by decide +kernel, rfl⟩
theorem a_X2_term_8 : lr_IC jX2_term 8 160 11 := Or.inr (Or.inr (Or.inl ⟨160, by decide, by decide +kernel, rfl⟩))
theorem a_X2_term_11 : lr_Br jX2_term 11 (Instr.if_icmp .ge) 47 14 := ⟨36, by decide +kernel, by decide, rfl⟩
theorem a_X2_term_14 : lr_ALd jX2_term 14 0 15 := Or.inl ⟨0, rfl, by decide +kernel, rfl⟩
theorem a_X2_term_15 : lr_F jX2_term 15 (.getfield 24) 3 18 := ⟨by decide +kernel, rfl⟩
theorem a_X2_term_18 : lr_IC jX2_term 18 42 20 := Or.inr (Or.inl ⟨42, by decide, by decide +kernel, rfl⟩)
theorem a_X2_term_20 : lr_Br jX2_term 20 (Instr.if_icmp .ne) 47 23 := ⟨27, by decide +kernel, by decide, rfl⟩
theorem a_X2_term_23 : lr_ALd jX2_term 23 0 24 := Or.inl ⟨0, rfl, by decide +kernel, rfl⟩
theorem a_X2_term_24 : lr_F jX2_term 24 (.invokevirtual 45) 3 27 := ⟨by decide +kernel, rfl⟩
theorem a_X2_term_27 : lr_ALd jX2_term 27 0 28 := Or.inl ⟨0, rfl, by decide +kernel, rfl⟩
theorem a_X2_term_28 : lr_ILd jX2_term 28 1 29 := Or.inl ⟨1, rfl, by decide +kernel, rfl⟩
theorem a_X2_term_29 : lr_F jX2_term 29 (.invokevirtual 83) 3 32 := ⟨by decide +kernel, rfl⟩
theorem a_X2_term_32 : lr_ALd jX2_term 32 0 33 := Or.inl ⟨0, rfl, by decide +kernel, rfl⟩
theorem a_X2_term_33 : lr_F jX2_term 33 (.getfield 36) 3 36 := ⟨by decide +kernel, rfl⟩
theorem a_X2_term_36 : lr_IC jX2_term 36 (-42) 38 := Or.inr (Or.inl ⟨(-42), by decide, by decide +kernel, rfl⟩)
theorem a_X2_term_38 : lr_F jX2_term 38 (.invokevirtual 61) 3 41 := ⟨by decide +kernel, rfl⟩
theorem a_X2_term_41 : lr_F jX2_term 41 (.iinc 2 1) 3 44 := ⟨by decide +kernel, rfl⟩
theorem a_X2_term_44 : lr_Br jX2_term 44 (Instr.goto) 7 47 := ⟨(-37), by decide +kernel, by decide, rfl⟩
theorem a_X2_term_47 : lr_F jX2_term 47 (.return_) 1 48 := ⟨by decide +kernel, rfl⟩
theorem a_X2_one_0 : lr_ALd jX2_one 0 0 1 := Or.inl ⟨0, rfl, by decide +kernel, rfl⟩
theorem a_X2_one_1 : lr_F jX2_one 1 (.getfield 24) 3 4 := ⟨by decide +kernel, rfl⟩
theorem a_X2_one_4 : lr_IC jX2_one 4 3 5 := Or.inl ⟨3, by decide, by decide +kernel, rfl⟩
theorem a_X2_one_5 : lr_Br jX2_one 5 (Instr.if_icmp .ne) 26 8 := ⟨21, by decide +kernel, by decide, rfl⟩
theorem a_X2_one_8 : lr_ALd jX2_one 8 0 9 := Or.inl ⟨0, rfl, by decide +kernel, rfl⟩
theorem a_X2_one_9 : lr_F jX2_one 9 (.getfield 36) 3 12 := ⟨by decide +kernel, rfl⟩
theorem a_X2_one_12 : lr_ALd jX2_one 12 0 13 := Or.inl ⟨0, rfl, by decide +kernel, rfl⟩
theorem a_X2_one_13 : lr_F jX2_one 13 (.getfield 30) 3 16 := ⟨by decide +kernel, rfl⟩
theorem a_X2_one_16 : lr_F jX2_one 16 (.invokevirtual 61) 3 19 := ⟨by decide +kernel, rfl⟩
theorem a_X2_one_19 : lr_ALd jX2_one 19 0 20 := Or.inl ⟨0, rfl, by decide +kernel, rfl⟩
theorem a_X2_one_20 : lr_F jX2_one 20 (.invokevirtual 45) 3 23 := ⟨by decide +kernel, rfl⟩
theorem a_X2_one_23 : lr_Br jX2_one 23 (Instr.goto) 93 26 := ⟨70, by decide +kernel, by decide, rfl⟩
theorem a_X2_one_26 : lr_ALd jX2_one 26 0 27 := Or.inl ⟨0, rfl, by decide +kernel, rfl⟩
theorem a_X2_one_27 : lr_F jX2_one 27 (.getfield 24) 3 30 := ⟨by decide +kernel, rfl⟩
theorem a_X2_one_30 : lr_F jX2_one 30 (.invokestatic 86) 3 33 := ⟨by decide +kernel, rfl⟩
theorem a_X2_one_33 : lr_Br jX2_one 33 (Instr.ifCond .eq) 55 36 := ⟨22, by decide +kernel, by decide, rfl⟩
theorem a_X2_one_36 : lr_ALd jX2_one 36 0 37 := Or.inl ⟨0, rfl, by decide +kernel, rfl⟩
theorem a_X2_one_37 : lr_F jX2_one 37 (.getfield 36) 3 40 := ⟨by decide +kernel, rfl⟩
theorem a_X2_one_40 : lr_ALd jX2_one 40 0 41 := Or.inl ⟨0, rfl, by decide +kernel, rfl⟩
theorem a_X2_one_41 : lr_F jX2_one 41 (.getfield 24) 3 44 := ⟨by decide +kernel, rfl⟩
theorem a_X2_one_44 : lr_F jX2_one 44 (.ineg) 1 45 := ⟨by decide +kernel, rfl⟩
theorem a_X2_one_45 : lr_F jX2_one 45 (.invokevirtual 61) 3 48 := ⟨by decide +kernel, rfl⟩
theorem a_X2_one_48 : lr_ALd jX2_one 48 0 49 := Or.inl ⟨0, rfl, by decide +kernel, rfl⟩
theorem a_X2_one_49 : lr_F jX2_one 49 (.invokevirtual 45) 3 52 := ⟨by decide +kernel, rfl⟩
theorem a_X2_one_52 : lr_Br jX2_one 52 (Instr.goto) 93 55 := ⟨41, by decide +kernel, by decide, rfl⟩
theorem a_X2_one_55 : lr_ALd jX2_one 55 0 56 := Or.inl ⟨0, rfl, by decide +kernel, rfl⟩
theorem a_X2_one_56 : lr_F jX2_one 56 (.getfield 24) 3 59 := ⟨by decide +kernel, rfl⟩
theorem a_X2_one_59 : lr_IC jX2_one 59 45 61 := Or.inr (Or.inl ⟨45, by decide, by decide +kernel, rfl⟩)
theorem a_X2_one_61 : lr_Br jX2_one 61 (Instr.if_icmp .ne) 72 64 := ⟨11, by decide +kernel, by decide, rfl⟩
theorem a_X2_one_64 : lr_ALd jX2_one 64 0 65 := Or.inl ⟨0, rfl, by decide +kernel, rfl⟩
theorem a_X2_one_65 : lr_ILd jX2_one 65 1 66 := Or.inl ⟨1, rfl, by decide +kernel, rfl⟩
theorem a_X2_one_66 : lr_F jX2_one 66 (.invokevirtual 89) 3 69 := ⟨by decide +kernel, rfl⟩
theorem a_X2_one_69 : lr_Br jX2_one 69 (Instr.goto) 93 72 := ⟨24, by decide +kernel, by decide, rfl⟩
theorem a_X2_one_72 : lr_ALd jX2_one 72 0 73 := Or.inl ⟨0, rfl, by decide +kernel, rfl⟩
theorem a_X2_one_73 : lr_F jX2_one 73 (.getfield 24) 3 76 := ⟨by decide +kernel, rfl⟩
theorem a_X2_one_76 : lr_IC jX2_one 76 40 78 := Or.inr (Or.inl ⟨40, by decide, by decide +kernel, rfl⟩)
theorem a_X2_one_78 : lr_Br jX2_one 78 (Instr.if_icmp .ne) 89 81 := ⟨11, by decide +kernel, by decide, rfl⟩
theorem a_X2_one_81 : lr_ALd jX2_one 81 0 82 := Or.inl ⟨0, rfl, by decide +kernel, rfl⟩
theorem a_X2_one_82 : lr_ILd jX2_one 82 1 83 := Or.inl ⟨1, rfl, by decide +kernel, rfl⟩
theorem a_X2_one_83 : lr_F jX2_one 83 (.invokevirtual 92) 3 86 := ⟨by decide +kernel, rfl⟩
theorem a_X2_one_86 : lr_Br jX2_one 86 (Instr.goto) 93 89 := ⟨7, by decide +kernel, by decide, rfl⟩
theorem a_X2_one_89 : lr_ALd jX2_one 89 0 90 := Or.inl ⟨0, rfl, by decide +kernel, rfl⟩
theorem a_X2_one_90 : lr_F jX2_one 90 (.invokevirtual 95) 3 93 := ⟨by decide +kernel, rfl⟩
theorem a_X2_one_93 : lr_F jX2_one 93 (.return_) 1 94 := ⟨by decide +kernel, rfl⟩
theorem a_X2_opposite_0 : lr_ALd jX2_opposite 0 0 1 := Or.inl ⟨0, rfl, by decide +kernel, rfl⟩
theorem a_X2_opposite_1 : lr_ILd jX2_opposite 1 1 2 := Or.inl ⟨1, rfl, by decide +kernel, rfl⟩
theorem a_X2_opposite_2 : lr_F jX2_opposite 2 (.invokevirtual 73) 3 5 := ⟨by decide +kernel, rfl⟩
theorem a_X2_opposite_5 : lr_Br jX2_opposite 5 (Instr.ifCond .eq) 28 8 := ⟨23, by decide +kernel, by decide, rfl⟩
theorem a_X2_opposite_8 : lr_ALd jX2_opposite 8 0 9 := Or.inl ⟨0, rfl, by decide +kernel, rfl⟩
theorem a_X2_opposite_9 : lr_F jX2_opposite 9 (.invokevirtual 45) 3 12 := ⟨by decide +kernel, rfl⟩
theorem a_X2_opposite_12 : lr_ALd jX2_opposite 12 0 13 := Or.inl ⟨0, rfl, by decide +kernel, rfl⟩
theorem a_X2_opposite_13 : lr_ILd jX2_opposite 13 1 14 := Or.inl ⟨1, rfl, by decide +kernel, rfl⟩
theorem a_X2_opposite_14 : lr_IC jX2_opposite 14 1 15 := Or.inl ⟨1, by decide, by decide +kernel, rfl⟩
theorem a_X2_opposite_15 : lr_F jX2_opposite 15 (.iadd) 1 16 := ⟨by decide +kernel, rfl⟩
theorem a_X2_opposite_16 : lr_F jX2_opposite 16 (.invokevirtual 83) 3 19 := ⟨by decide +kernel, rfl⟩
theorem a_X2_opposite_19 : lr_ALd jX2_opposite 19 0 20 := Or.inl ⟨0, rfl, by decide +kernel, rfl⟩
theorem a_X2_opposite_20 : lr_F jX2_opposite 20 (.getfield 36) 3 23 := ⟨by decide +kernel, rfl⟩
theorem a_X2_opposite_23 : lr_IC jX2_opposite 23 (-126) 25 := Or.inr (Or.inl ⟨(-126), by decide, by decide +kernel, rfl⟩)
theorem a_X2_opposite_25 : lr_F jX2_opposite 25 (.invokevirtual 61) 3 28 := ⟨by decide +kernel, rfl⟩
theorem a_X2_opposite_28 : lr_F jX2_opposite 28 (.return_) 1 29 := ⟨by decide +kernel, rfl⟩
theorem a_X2_bracket_0 : lr_ALd jX2_bracket 0 0 1 := Or.inl ⟨0, rfl, by decide +kernel, rfl⟩
theorem a_X2_bracket_1 : lr_ILd jX2_bracket 1 1 2 := Or.inl ⟨1, rfl, by decide +kernel, rfl⟩
theorem a_X2_bracket_2 : lr_F jX2_bracket 2 (.invokevirtual 73) 3 5 := ⟨by decide +kernel, rfl⟩
theorem a_X2_bracket_5 : lr_Br jX2_bracket 5 (Instr.ifCond .eq) 25 8 := ⟨20, by decide +kernel, by decide, rfl⟩
theorem a_X2_bracket_8 : lr_ALd jX2_bracket 8 0 9 := Or.inl ⟨0, rfl, by decide +kernel, rfl⟩
theorem a_X2_bracket_9 : lr_F jX2_bracket 9 (.invokevirtual 45) 3 12 := ⟨by decide +kernel, rfl⟩
theorem a_X2_bracket_12 : lr_ALd jX2_bracket 12 0 13 := Or.inl ⟨0, rfl, by decide +kernel, rfl⟩
theorem a_X2_bracket_13 : lr_ILd jX2_bracket 13 1 14 := Or.inl ⟨1, rfl, by decide +kernel, rfl⟩
theorem a_X2_bracket_14 : lr_IC jX2_bracket 14 1 15 := Or.inl ⟨1, by decide, by decide +kernel, rfl⟩
theorem a_X2_bracket_15 : lr_F jX2_bracket 15 (.iadd) 1 16 := ⟨by decide +kernel, rfl⟩
theorem a_X2_bracket_16 : lr_F jX2_bracket 16 (.invokevirtual 52) 3 19 := ⟨by decide +kernel, rfl⟩
theorem a_X2_bracket_19 : lr_ALd jX2_bracket 19 0 20 := Or.inl ⟨0, rfl, by decide +kernel, rfl⟩
theorem a_X2_bracket_20 : lr_IC jX2_bracket 20 41 22 := Or.inr (Or.inl ⟨41, by decide, by decide +kernel, rfl⟩)
theorem a_X2_bracket_22 : lr_F jX2_bracket 22 (.invokevirtual 48) 3 25 := ⟨by decide +kernel, rfl⟩
theorem a_X2_bracket_25 : lr_F jX2_bracket 25 (.return_) 1 26 := ⟨by decide +kernel, rfl⟩
theorem a_X2_mayOpen_0 : lr_ILd jX2_mayOpen 0 1 1 := Or.inl ⟨1, rfl, by decide +kernel, rfl⟩
theorem a_X2_mayOpen_1 : lr_IC jX2_mayOpen 1 5 2 := Or.inl ⟨5, by decide, by decide +kernel, rfl⟩
theorem a_X2_mayOpen_2 : lr_Br jX2_mayOpen 2 (Instr.if_icmp .lt) 9 5 := ⟨7, by decide +kernel, by decide, rfl⟩
theorem a_X2_mayOpen_5 : lr_ALd jX2_mayOpen 5 0 6 := Or.inl ⟨0, rfl, by decide +kernel, rfl⟩
theorem a_X2_mayOpen_6 : lr_F jX2_mayOpen 6 (.invokevirtual 95) 3 9 := ⟨by decide +kernel, rfl⟩
theorem a_X2_mayOpen_9 : lr_ILd jX2_mayOpen 9 1 10 := Or.inl ⟨1, rfl, by decide +kernel, rfl⟩
theorem a_X2_mayOpen_10 : lr_IC jX2_mayOpen 10 5 11 := Or.inl ⟨5, by decide, by decide +kernel, rfl⟩
theorem a_X2_mayOpen_11 : lr_Br jX2_mayOpen 11 (Instr.if_icmp .ge) 18 14 := ⟨7, by decide +kernel, by decide, rfl⟩
theorem a_X2_mayOpen_14 : lr_IC jX2_mayOpen 14 1 15 := Or.inl ⟨1, by decide, by decide +kernel, rfl⟩
theorem a_X2_mayOpen_15 : lr_Br jX2_mayOpen 15 (Instr.goto) 19 18 := ⟨4, by decide +kernel, by decide, rfl⟩
theorem a_X2_mayOpen_18 : lr_IC jX2_mayOpen 18 0 19 := Or.inl ⟨0, by decide, by decide +kernel, rfl⟩
theorem a_X2_mayOpen_19 : lr_F jX2_mayOpen 19 (.ireturn) 1 20 := ⟨by decide +kernel, rfl⟩
theorem a_X2_expect_0 : lr_ALd jX2_expect 0 0 1 := Or.inl ⟨0, rfl, by decide +kernel, rfl⟩
theorem a_X2_expect_1 : lr_F jX2_expect 1 (.getfield 24) 3 4 := ⟨by decide +kernel, rfl⟩
theorem a_X2_expect_4 : lr_ILd jX2_expect 4 1 5 := Or.inl ⟨1, rfl, by decide +kernel, rfl⟩
theorem a_X2_expect_5 : lr_Br jX2_expect 5 (Instr.if_icmp .eq) 15 8 := ⟨10, by decide +kernel, by decide, rfl⟩
theorem a_X2_expect_8 : lr_ALd jX2_expect 8 0 9 := Or.inl ⟨0, rfl, by decide +kernel, rfl⟩
theorem a_X2_expect_9 : lr_F jX2_expect 9 (.invokevirtual 95) 3 12 := ⟨by decide +kernel, rfl⟩
theorem a_X2_expect_12 : lr_Br jX2_expect 12 (Instr.goto) 24 15 := ⟨12, by decide +kernel, by decide, rfl⟩
theorem a_X2_expect_15 : lr_ILd jX2_expect 15 1 16 := Or.inl ⟨1, rfl, by decide +kernel, rfl⟩
theorem a_X2_expect_16 : lr_IC jX2_expect 16 1 17 := Or.inl ⟨1, by decide, by decide +kernel, rfl⟩
theorem a_X2_expect_17 : lr_Br jX2_expect 17 (Instr.if_icmp .eq) 24 20 := ⟨7, by decide +kernel, by decide, rfl⟩
theorem a_X2_expect_20 : lr_ALd jX2_expect 20 0 21 := Or.inl ⟨0, rfl, by decide +kernel, rfl⟩
theorem a_X2_expect_21 : lr_F jX2_expect 21 (.invokevirtual 45) 3 24 := ⟨by decide +kernel, rfl⟩
theorem a_X2_expect_24 : lr_F jX2_expect 24 (.return_) 1 25 := ⟨by decide +kernel, rfl⟩
theorem a_X2_fail_0 : lr_ALd jX2_fail 0 0 1 := Or.inl ⟨0, rfl, by decide +kernel, rfl⟩
theorem a_X2_fail_1 : lr_F jX2_fail 1 (.getfield 33) 3 4 := ⟨by decide +kernel, rfl⟩
theorem a_X2_fail_4 : lr_IC jX2_fail 4 (-1) 5 := Or.inl ⟨(-1), by decide, by decide +kernel, rfl⟩
theorem a_X2_fail_5 : lr_Br jX2_fail 5 (Instr.if_icmp .ne) 16 8 := ⟨11, by decide +kernel, by decide, rfl⟩
theorem a_X2_fail_8 : lr_ALd jX2_fail 8 0 9 := Or.inl ⟨0, rfl, by decide +kernel, rfl⟩
theorem a_X2_fail_9 : lr_ALd jX2_fail 9 0 10 := Or.inl ⟨0, rfl, by decide +kernel, rfl⟩
theorem a_X2_fail_10 : lr_F jX2_fail 10 (.getfield 27) 3 13 := ⟨by decide +kernel, rfl⟩
theorem a_X2_fail_13 : lr_F jX2_fail 13 (.putfield 33) 3 16 := ⟨by decide +kernel, rfl⟩
theorem a_X2_fail_16 : lr_ALd jX2_fail 16 0 17 := Or.inl ⟨0, rfl, by decide +kernel, rfl⟩
theorem a_X2_fail_17 : lr_IC jX2_fail 17 2 18 := Or.inl ⟨2, by decide, by decide +kernel, rfl⟩
theorem a_X2_fail_18 : lr_F jX2_fail 18 (.putfield 24) 3 21 := ⟨by decide +kernel, rfl⟩
theorem a_X2_fail_21 : lr_F jX2_fail 21 (.return_) 1 22 := ⟨by decide +kernel, rfl⟩
theorem a_X2_advance_0 : lr_ALd jX2_advance 0 0 1 := Or.inl ⟨0, rfl, by decide +kernel, rfl⟩
theorem a_X2_advance_1 : lr_F jX2_advance 1 (.getfield 33) 3 4 := ⟨by decide +kernel, rfl⟩
theorem a_X2_advance_4 : lr_IC jX2_advance 4 (-1) 5 := Or.inl ⟨(-1), by decide, by decide +kernel, rfl⟩
theorem a_X2_advance_5 : lr_Br jX2_advance 5 (Instr.if_icmp .eq) 9 8 := ⟨4, by decide +kernel, by decide, rfl⟩
theorem a_X2_advance_8 : lr_F jX2_advance 8 (.return_) 1 9 := ⟨by decide +kernel, rfl⟩
theorem a_X2_advance_9 : lr_ALd jX2_advance 9 0 10 := Or.inl ⟨0, rfl, by decide +kernel, rfl⟩
theorem a_X2_advance_10 : lr_F jX2_advance 10 (.getfield 19) 3 13 := ⟨by decide +kernel, rfl⟩
theorem a_X2_advance_13 : lr_ALd jX2_advance 13 0 14 := Or.inl ⟨0, rfl, by decide +kernel, rfl⟩
theorem a_X2_advance_14 : lr_F jX2_advance 14 (.getfield 15) 3 17 := ⟨by decide +kernel, rfl⟩
theorem a_X2_advance_17 : lr_Br jX2_advance 17 (Instr.if_icmp .ge) 61 20 := ⟨44, by decide +kernel, by decide, rfl⟩
theorem a_X2_advance_20 : lr_ALd jX2_advance 20 0 21 := Or.inl ⟨0, rfl, by decide +kernel, rfl⟩
theorem a_X2_advance_21 : lr_F jX2_advance 21 (.getfield 9) 3 24 := ⟨by decide +kernel, rfl⟩
theorem a_X2_advance_24 : lr_ALd jX2_advance 24 0 25 := Or.inl ⟨0, rfl, by decide +kernel, rfl⟩
theorem a_X2_advance_25 : lr_F jX2_advance 25 (.getfield 19) 3 28 := ⟨by decide +kernel, rfl⟩
theorem a_X2_advance_28 : lr_F jX2_advance 28 (.iaload) 1 29 := ⟨by decide +kernel, rfl⟩
theorem a_X2_advance_29 : lr_IC jX2_advance 29 32 31 := Or.inr (Or.inl ⟨32, by decide, by decide +kernel, rfl⟩)
theorem a_X2_advance_31 : lr_Br jX2_advance 31 (Instr.if_icmp .eq) 48 34 := ⟨17, by decide +kernel, by decide, rfl⟩
theorem a_X2_advance_34 : lr_ALd jX2_advance 34 0 35 := Or.inl ⟨0, rfl, by decide +kernel, rfl⟩
theorem a_X2_advance_35 : lr_F jX2_advance 35 (.getfield 9) 3 38 := ⟨by decide +kernel, rfl⟩
theorem a_X2_advance_38 : lr_ALd jX2_advance 38 0 39 := Or.inl ⟨0, rfl, by decide +kernel, rfl⟩
theorem a_X2_advance_39 : lr_F jX2_advance 39 (.getfield 19) 3 42 := ⟨by decide +kernel, rfl⟩
theorem a_X2_advance_42 : lr_F jX2_advance 42 (.iaload) 1 43 := ⟨by decide +kernel, rfl⟩
theorem a_X2_advance_43 : lr_IC jX2_advance 43 10 45 := Or.inr (Or.inl ⟨10, by decide, by decide +kernel, rfl⟩)
theorem a_X2_advance_45 : lr_Br jX2_advance 45 (Instr.if_icmp .ne) 61 48 := ⟨16, by decide +kernel, by decide, rfl⟩
theorem a_X2_advance_48 : lr_ALd jX2_advance 48 0 49 := Or.inl ⟨0, rfl, by decide +kernel, rfl⟩
theorem a_X2_advance_49 : lr_F jX2_advance 49 (.dup) 1 50 := ⟨by decide +kernel, rfl⟩
theorem a_X2_advance_50 : lr_F jX2_advance 50 (.getfield 19) 3 53 := ⟨by decide +kernel, rfl⟩
theorem a_X2_advance_53 : lr_IC jX2_advance 53 1 54 := Or.inl ⟨1, by decide, by decide +kernel, rfl⟩
theorem a_X2_advance_54 : lr_F jX2_advance 54 (.iadd) 1 55 := ⟨by decide +kernel, rfl⟩
theorem a_X2_advance_55 : lr_F jX2_advance 55 (.putfield 19) 3 58 := ⟨by decide +kernel, rfl⟩
theorem a_X2_advance_58 : lr_Br jX2_advance 58 (Instr.goto) 9 61 := ⟨(-49), by decide +kernel, by decide, rfl⟩
theorem a_X2_advance_61 : lr_ALd jX2_advance 61 0 62 := Or.inl ⟨0, rfl, by decide +kernel, rfl⟩
theorem a_X2_advance_62 : lr_ALd jX2_advance 62 0 63 := Or.inl ⟨0, rfl, by decide +kernel, rfl⟩
theorem a_X2_advance_63 : lr_F jX2_advance 63 (.getfield 19) 3 66 := ⟨by decide +kernel, rfl⟩
theorem a_X2_advance_66 : lr_F jX2_advance 66 (.putfield 27) 3 69 := ⟨by decide +kernel, rfl⟩
theorem a_X2_advance_69 : lr_ALd jX2_advance 69 0 70 := Or.inl ⟨0, rfl, by decide +kernel, rfl⟩
theorem a_X2_advance_70 : lr_F jX2_advance 70 (.getfield 19) 3 73 := ⟨by decide +kernel, rfl⟩
theorem a_X2_advance_73 : lr_ALd jX2_advance 73 0 74 := Or.inl ⟨0, rfl, by decide +kernel, rfl⟩
theorem a_X2_advance_74 : lr_F jX2_advance 74 (.getfield 15) 3 77 := ⟨by decide +kernel, rfl⟩
theorem a_X2_advance_77 : lr_Br jX2_advance 77 (Instr.if_icmp .lt) 88 80 := ⟨11, by decide +kernel, by decide, rfl⟩
theorem a_X2_advance_80 : lr_ALd jX2_advance 80 0 81 := Or.inl ⟨0, rfl, by decide +kernel, rfl⟩
theorem a_X2_advance_81 : lr_IC jX2_advance 81 1 82 := Or.inl ⟨1, by decide, by decide +kernel, rfl⟩
theorem a_X2_advance_82 : lr_F jX2_advance 82 (.putfield 24) 3 85 := ⟨by decide +kernel, rfl⟩
theorem a_X2_advance_85 : lr_Br jX2_advance 85 (Instr.goto) 174 88 := ⟨89, by decide +kernel, by decide, rfl⟩
theorem a_X2_advance_88 : lr_ALd jX2_advance 88 0 89 := Or.inl ⟨0, rfl, by decide +kernel, rfl⟩
theorem a_X2_advance_89 : lr_F jX2_advance 89 (.getfield 9) 3 92 := ⟨by decide +kernel, rfl⟩
theorem a_X2_advance_92 : lr_ALd jX2_advance 92 0 93 := Or.inl ⟨0, rfl, by decide +kernel, rfl⟩
theorem a_X2_advance_93 : lr_F jX2_advance 93 (.getfield 19) 3 96 := ⟨by decide +kernel, rfl⟩
theorem a_X2_advance_96 : lr_F jX2_advance 96 (.iaload) 1 97 := ⟨by decide +kernel, rfl⟩
theorem a_X2_advance_97 : lr_F jX2_advance 97 (.invokestatic 98) 3 100 := ⟨by decide +kernel, rfl⟩
theorem a_X2_advance_100 : lr_Br jX2_advance 100 (Instr.ifCond .eq) 110 103 := ⟨10, by decide +kernel, by decide, rfl⟩
theorem a_X2_advance_103 : lr_ALd jX2_advance 103 0 104 := Or.inl ⟨0, rfl, by decide +kernel, rfl⟩
theorem a_X2_advance_104 : lr_F jX2_advance 104 (.invokevirtual 101) 3 107 := ⟨by decide +kernel, rfl⟩
theorem a_X2_advance_107 : lr_Br jX2_advance 107 (Instr.goto) 174 110 := ⟨67, by decide +kernel, by decide, rfl⟩
theorem a_X2_advance_110 : lr_ALd jX2_advance 110 0 111 := Or.inl ⟨0, rfl, by decide +kernel, rfl⟩
theorem a_X2_advance_111 : lr_F jX2_advance 111 (.getfield 9) 3 114 := ⟨by decide +kernel, rfl⟩
theorem a_X2_advance_114 : lr_ALd jX2_advance 114 0 115 := Or.inl ⟨0, rfl, by decide +kernel, rfl⟩
theorem a_X2_advance_115 : lr_F jX2_advance 115 (.getfield 19) 3 118 := ⟨by decide +kernel, rfl⟩
theorem a_X2_advance_118 : lr_F jX2_advance 118 (.iaload) 1 119 := ⟨by decide +kernel, rfl⟩
theorem a_X2_advance_119 : lr_F jX2_advance 119 (.invokestatic 104) 3 122 := ⟨by decide +kernel, rfl⟩
theorem a_X2_advance_122 : lr_Br jX2_advance 122 (Instr.ifCond .eq) 132 125 := ⟨10, by decide +kernel, by decide, rfl⟩
theorem a_X2_advance_125 : lr_ALd jX2_advance 125 0 126 := Or.inl ⟨0, rfl, by decide +kernel, rfl⟩
theorem a_X2_advance_126 : lr_F jX2_advance 126 (.invokevirtual 107) 3 129 := ⟨by decide +kernel, rfl⟩
theorem a_X2_advance_129 : lr_Br jX2_advance 129 (Instr.goto) 174 132 := ⟨45, by decide +kernel, by decide, rfl⟩
theorem a_X2_advance_132 : lr_ALd jX2_advance 132 0 133 := Or.inl ⟨0, rfl, by decide +kernel, rfl⟩
theorem a_X2_advance_133 : lr_ALd jX2_advance 133 0 134 := Or.inl ⟨0, rfl, by decide +kernel, rfl⟩
theorem a_X2_advance_134 : lr_F jX2_advance 134 (.getfield 9) 3 137 := ⟨by decide +kernel, rfl⟩
theorem a_X2_advance_137 : lr_ALd jX2_advance 137 0 138 := Or.inl ⟨0, rfl, by decide +kernel, rfl⟩
theorem a_X2_advance_138 : lr_F jX2_advance 138 (.getfield 19) 3 141 := ⟨by decide +kernel, rfl⟩
theorem a_X2_advance_141 : lr_F jX2_advance 141 (.iaload) 1 142 := ⟨by decide +kernel, rfl⟩
theorem a_X2_advance_142 : lr_F jX2_advance 142 (.invokestatic 110) 3 145 := ⟨by decide +kernel, rfl⟩
theorem a_X2_advance_145 : lr_Br jX2_advance 145 (Instr.ifCond .eq) 160 148 := ⟨15, by decide +kernel, by decide, rfl⟩
theorem a_X2_advance_148 : lr_ALd jX2_advance 148 0 149 := Or.inl ⟨0, rfl, by decide +kernel, rfl⟩
theorem a_X2_advance_149 : lr_F jX2_advance 149 (.getfield 9) 3 152 := ⟨by decide +kernel, rfl⟩
theorem a_X2_advance_152 : lr_ALd jX2_advance 152 0 153 := Or.inl ⟨0, rfl, by decide +kernel, rfl⟩
theorem a_X2_advance_153 : lr_F jX2_advance 153 (.getfield 19) 3 156 := ⟨by decide +kernel, rfl⟩
theorem a_X2_advance_156 : lr_F jX2_advance 156 (.iaload) 1 157 := ⟨by decide +kernel, rfl⟩
theorem a_X2_advance_157 : lr_Br jX2_advance 157 (Instr.goto) 161 160 := ⟨4, by decide +kernel, by decide, rfl⟩
theorem a_X2_advance_160 : lr_IC jX2_advance 160 2 161 := Or.inl ⟨2, by decide, by decide +kernel, rfl⟩
theorem a_X2_advance_161 : lr_F jX2_advance 161 (.putfield 24) 3 164 := ⟨by decide +kernel, rfl⟩
theorem a_X2_advance_164 : lr_ALd jX2_advance 164 0 165 := Or.inl ⟨0, rfl, by decide +kernel, rfl⟩
theorem a_X2_advance_165 : lr_F jX2_advance 165 (.dup) 1 166 := ⟨by decide +kernel, rfl⟩
theorem a_X2_advance_166 : lr_F jX2_advance 166 (.getfield 19) 3 169 := ⟨by decide +kernel, rfl⟩
theorem a_X2_advance_169 : lr_IC jX2_advance 169 1 170 := Or.inl ⟨1, by decide, by decide +kernel, rfl⟩
theorem a_X2_advance_170 : lr_F jX2_advance 170 (.iadd) 1 171 := ⟨by decide +kernel, rfl⟩
theorem a_X2_advance_171 : lr_F jX2_advance 171 (.putfield 19) 3 174 := ⟨by decide +kernel, rfl⟩
theorem a_X2_advance_174 : lr_F jX2_advance 174 (.return_) 1 175 := ⟨by decide +kernel, rfl⟩
theorem a_X2_takeNumber_0 : lr_ALd jX2_takeNumber 0 0 1 := Or.inl ⟨0, rfl, by decide +kernel, rfl⟩
theorem a_X2_takeNumber_1 : lr_IC jX2_takeNumber 1 0 2 := Or.inl ⟨0, by decide, by decide +kernel, rfl⟩
theorem a_X2_takeNumber_2 : lr_F jX2_takeNumber 2 (.putfield 30) 3 5 := ⟨by decide +kernel, rfl⟩
theorem a_X2_takeNumber_5 : lr_ALd jX2_takeNumber 5 0 6 := Or.inl ⟨0, rfl, by decide +kernel, rfl⟩
theorem a_X2_takeNumber_6 : lr_F jX2_takeNumber 6 (.getfield 19) 3 9 := ⟨by decide +kernel, rfl⟩
theorem a_X2_takeNumber_9 : lr_ALd jX2_takeNumber 9 0 10 := Or.inl ⟨0, rfl, by decide +kernel, rfl⟩
theorem a_X2_takeNumber_10 : lr_F jX2_takeNumber 10 (.getfield 15) 3 13 := ⟨by decide +kernel, rfl⟩
theorem a_X2_takeNumber_13 : lr_Br jX2_takeNumber 13 (Instr.if_icmp .ge) 88 16 := ⟨75, by decide +kernel, by decide, rfl⟩
theorem a_X2_takeNumber_16 : lr_ALd jX2_takeNumber 16 0 17 := Or.inl ⟨0, rfl, by decide +kernel, rfl⟩
theorem a_X2_takeNumber_17 : lr_F jX2_takeNumber 17 (.getfield 9) 3 20 := ⟨by decide +kernel, rfl⟩
theorem a_X2_takeNumber_20 : lr_ALd jX2_takeNumber 20 0 21 := Or.inl ⟨0, rfl, by decide +kernel, rfl⟩
theorem a_X2_takeNumber_21 : lr_F jX2_takeNumber 21 (.getfield 19) 3 24 := ⟨by decide +kernel, rfl⟩
theorem a_X2_takeNumber_24 : lr_F jX2_takeNumber 24 (.iaload) 1 25 := ⟨by decide +kernel, rfl⟩
theorem a_X2_takeNumber_25 : lr_F jX2_takeNumber 25 (.invokestatic 98) 3 28 := ⟨by decide +kernel, rfl⟩
theorem a_X2_takeNumber_28 : lr_Br jX2_takeNumber 28 (Instr.ifCond .eq) 88 31 := ⟨60, by decide +kernel, by decide, rfl⟩
theorem a_X2_takeNumber_31 : lr_ALd jX2_takeNumber 31 0 32 := Or.inl ⟨0, rfl, by decide +kernel, rfl⟩
theorem a_X2_takeNumber_32 : lr_ALd jX2_takeNumber 32 0 33 := Or.inl ⟨0, rfl, by decide +kernel, rfl⟩
theorem a_X2_takeNumber_33 : lr_F jX2_takeNumber 33 (.getfield 19) 3 36 := ⟨by decide +kernel, rfl⟩
theorem a_X2_takeNumber_36 : lr_ALd jX2_takeNumber 36 0 37 := Or.inl ⟨0, rfl, by decide +kernel, rfl⟩
theorem a_X2_takeNumber_37 : lr_F jX2_takeNumber 37 (.getfield 27) 3 40 := ⟨by decide +kernel, rfl⟩
theorem a_X2_takeNumber_40 : lr_F jX2_takeNumber 40 (.isub) 1 41 := ⟨by decide +kernel, rfl⟩
theorem a_X2_takeNumber_41 : lr_IC jX2_takeNumber 41 4 42 := Or.inl ⟨4, by decide, by decide +kernel, rfl⟩
theorem a_X2_takeNumber_42 : lr_Br jX2_takeNumber 42 (Instr.if_icmp .ge) 68 45 := ⟨26, by decide +kernel, by decide, rfl⟩
theorem a_X2_takeNumber_45 : lr_ALd jX2_takeNumber 45 0 46 := Or.inl ⟨0, rfl, by decide +kernel, rfl⟩
theorem a_X2_takeNumber_46 : lr_F jX2_takeNumber 46 (.getfield 30) 3 49 := ⟨by decide +kernel, rfl⟩
theorem a_X2_takeNumber_49 : lr_IC jX2_takeNumber 49 10 51 := Or.inr (Or.inl ⟨10, by decide, by decide +kernel, rfl⟩)
theorem a_X2_takeNumber_51 : lr_F jX2_takeNumber 51 (.imul) 1 52 := ⟨by decide +kernel, rfl⟩
theorem a_X2_takeNumber_52 : lr_ALd jX2_takeNumber 52 0 53 := Or.inl ⟨0, rfl, by decide +kernel, rfl⟩
theorem a_X2_takeNumber_53 : lr_F jX2_takeNumber 53 (.getfield 9) 3 56 := ⟨by decide +kernel, rfl⟩
theorem a_X2_takeNumber_56 : lr_ALd jX2_takeNumber 56 0 57 := Or.inl ⟨0, rfl, by decide +kernel, rfl⟩
theorem a_X2_takeNumber_57 : lr_F jX2_takeNumber 57 (.getfield 19) 3 60 := ⟨by decide +kernel, rfl⟩
theorem a_X2_takeNumber_60 : lr_F jX2_takeNumber 60 (.iaload) 1 61 := ⟨by decide +kernel, rfl⟩
theorem a_X2_takeNumber_61 : lr_F jX2_takeNumber 61 (.iadd) 1 62 := ⟨by decide +kernel, rfl⟩
theorem a_X2_takeNumber_62 : lr_IC jX2_takeNumber 62 48 64 := Or.inr (Or.inl ⟨48, by decide, by decide +kernel, rfl⟩)
theorem a_X2_takeNumber_64 : lr_F jX2_takeNumber 64 (.isub) 1 65 := ⟨by decide +kernel, rfl⟩
theorem a_X2_takeNumber_65 : lr_Br jX2_takeNumber 65 (Instr.goto) 72 68 := ⟨7, by decide +kernel, by decide, rfl⟩
theorem a_X2_takeNumber_68 : lr_ALd jX2_takeNumber 68 0 69 := Or.inl ⟨0, rfl, by decide +kernel, rfl⟩
theorem a_X2_takeNumber_69 : lr_F jX2_takeNumber 69 (.getfield 30) 3 72 := ⟨by decide +kernel, rfl⟩
theorem a_X2_takeNumber_72 : lr_F jX2_takeNumber 72 (.putfield 30) 3 75 := ⟨by decide +kernel, rfl⟩
theorem a_X2_takeNumber_75 : lr_ALd jX2_takeNumber 75 0 76 := Or.inl ⟨0, rfl, by decide +kernel, rfl⟩
theorem a_X2_takeNumber_76 : lr_F jX2_takeNumber 76 (.dup) 1 77 := ⟨by decide +kernel, rfl⟩
theorem a_X2_takeNumber_77 : lr_F jX2_takeNumber 77 (.getfield 19) 3 80 := ⟨by decide +kernel, rfl⟩
theorem a_X2_takeNumber_80 : lr_IC jX2_takeNumber 80 1 81 := Or.inl ⟨1, by decide, by decide +kernel, rfl⟩
theorem a_X2_takeNumber_81 : lr_F jX2_takeNumber 81 (.iadd) 1 82 := ⟨by decide +kernel, rfl⟩
theorem a_X2_takeNumber_82 : lr_F jX2_takeNumber 82 (.putfield 19) 3 85 := ⟨by decide +kernel, rfl⟩
theorem a_X2_takeNumber_85 : lr_Br jX2_takeNumber 85 (Instr.goto) 5 88 := ⟨(-80), by decide +kernel, by decide, rfl⟩
theorem a_X2_takeNumber_88 : lr_ALd jX2_takeNumber 88 0 89 := Or.inl ⟨0, rfl, by decide +kernel, rfl⟩
theorem a_X2_takeNumber_89 : lr_ALd jX2_takeNumber 89 0 90 := Or.inl ⟨0, rfl, by decide +kernel, rfl⟩
theorem a_X2_takeNumber_90 : lr_F jX2_takeNumber 90 (.getfield 19) 3 93 := ⟨by decide +kernel, rfl⟩
theorem a_X2_takeNumber_93 : lr_ALd jX2_takeNumber 93 0 94 := Or.inl ⟨0, rfl, by decide +kernel, rfl⟩
theorem a_X2_takeNumber_94 : lr_F jX2_takeNumber 94 (.getfield 27) 3 97 := ⟨by decide +kernel, rfl⟩
theorem a_X2_takeNumber_97 : lr_F jX2_takeNumber 97 (.isub) 1 98 := ⟨by decide +kernel, rfl⟩
theorem a_X2_takeNumber_98 : lr_IC jX2_takeNumber 98 4 99 := Or.inl ⟨4, by decide, by decide +kernel, rfl⟩
theorem a_X2_takeNumber_99 : lr_Br jX2_takeNumber 99 (Instr.if_icmp .le) 106 102 := ⟨7, by decide +kernel, by decide, rfl⟩
theorem a_X2_takeNumber_102 : lr_IC jX2_takeNumber 102 2 103 := Or.inl ⟨2, by decide, by decide +kernel, rfl⟩
theorem a_X2_takeNumber_103 : lr_Br jX2_takeNumber 103 (Instr.goto) 107 106 := ⟨4, by decide +kernel, by decide, rfl⟩
theorem a_X2_takeNumber_106 : lr_IC jX2_takeNumber 106 3 107 := Or.inl ⟨3, by decide, by decide +kernel, rfl⟩
theorem a_X2_takeNumber_107 : lr_F jX2_takeNumber 107 (.putfield 24) 3 110 := ⟨by decide +kernel, rfl⟩
theorem a_X2_takeNumber_110 : lr_F jX2_takeNumber 110 (.return_) 1 111 := ⟨by decide +kernel, rfl⟩
theorem a_X2_takeWord_0 : lr_ALd jX2_takeWord 0 0 1 := Or.inl ⟨0, rfl, by decide +kernel, rfl⟩
theorem a_X2_takeWord_1 : lr_F jX2_takeWord 1 (.getfield 19) 3 4 := ⟨by decide +kernel, rfl⟩
theorem a_X2_takeWord_4 : lr_ALd jX2_takeWord 4 0 5 := Or.inl ⟨0, rfl, by decide +kernel, rfl⟩
theorem a_X2_takeWord_5 : lr_F jX2_takeWord 5 (.getfield 15) 3 8 := ⟨by decide +kernel, rfl⟩
theorem a_X2_takeWord_8 : lr_Br jX2_takeWord 8 (Instr.if_icmp .ge) 39 11 := ⟨31, by decide +kernel, by decide, rfl⟩
theorem a_X2_takeWord_11 : lr_ALd jX2_takeWord 11 0 12 := Or.inl ⟨0, rfl, by decide +kernel, rfl⟩
theorem a_X2_takeWord_12 : lr_F jX2_takeWord 12 (.getfield 9) 3 15 := ⟨by decide +kernel, rfl⟩
theorem a_X2_takeWord_15 : lr_ALd jX2_takeWord 15 0 16 := Or.inl ⟨0, rfl, by decide +kernel, rfl⟩
theorem a_X2_takeWord_16 : lr_F jX2_takeWord 16 (.getfield 19) 3 19 := ⟨by decide +kernel, rfl⟩
theorem a_X2_takeWord_19 : lr_F jX2_takeWord 19 (.iaload) 1 20 := ⟨by decide +kernel, rfl⟩
theorem a_X2_takeWord_20 : lr_F jX2_takeWord 20 (.invokestatic 104) 3 23 := ⟨by decide +kernel, rfl⟩
theorem a_X2_takeWord_23 : lr_Br jX2_takeWord 23 (Instr.ifCond .eq) 39 26 := ⟨16, by decide +kernel, by decide, rfl⟩
theorem a_X2_takeWord_26 : lr_ALd jX2_takeWord 26 0 27 := Or.inl ⟨0, rfl, by decide +kernel, rfl⟩
theorem a_X2_takeWord_27 : lr_F jX2_takeWord 27 (.dup) 1 28 := ⟨by decide +kernel, rfl⟩
theorem a_X2_takeWord_28 : lr_F jX2_takeWord 28 (.getfield 19) 3 31 := ⟨by decide +kernel, rfl⟩
theorem a_X2_takeWord_31 : lr_IC jX2_takeWord 31 1 32 := Or.inl ⟨1, by decide, by decide +kernel, rfl⟩
theorem a_X2_takeWord_32 : lr_F jX2_takeWord 32 (.iadd) 1 33 := ⟨by decide +kernel, rfl⟩
theorem a_X2_takeWord_33 : lr_F jX2_takeWord 33 (.putfield 19) 3 36 := ⟨by decide +kernel, rfl⟩
theorem a_X2_takeWord_36 : lr_Br jX2_takeWord 36 (Instr.goto) 0 39 := ⟨(-36), by decide +kernel, by decide, rfl⟩
theorem a_X2_takeWord_39 : lr_ALd jX2_takeWord 39 0 40 := Or.inl ⟨0, rfl, by decide +kernel, rfl⟩
theorem a_X2_takeWord_40 : lr_IC jX2_takeWord 40 2 41 := Or.inl ⟨2, by decide, by decide +kernel, rfl⟩
theorem a_X2_takeWord_41 : lr_F jX2_takeWord 41 (.putfield 24) 3 44 := ⟨by decide +kernel, rfl⟩
theorem a_X2_takeWord_44 : lr_IC jX2_takeWord 44 4 45 := Or.inl ⟨4, by decide, by decide +kernel, rfl⟩
theorem a_X2_takeWord_45 : lr_ISt jX2_takeWord 45 1 46 := Or.inl ⟨1, rfl, by decide +kernel, rfl⟩
theorem a_X2_takeWord_46 : lr_ILd jX2_takeWord 46 1 47 := Or.inl ⟨1, rfl, by decide +kernel, rfl⟩
theorem a_X2_takeWord_47 : lr_IC jX2_takeWord 47 15 49 := Or.inr (Or.inl ⟨15, by decide, by decide +kernel, rfl⟩)
theorem a_X2_takeWord_49 : lr_Br jX2_takeWord 49 (Instr.if_icmp .gt) 74 52 := ⟨25, by decide +kernel, by decide, rfl⟩
theorem a_X2_takeWord_52 : lr_ALd jX2_takeWord 52 0 53 := Or.inl ⟨0, rfl, by decide +kernel, rfl⟩
theorem a_X2_takeWord_53 : lr_ILd jX2_takeWord 53 1 54 := Or.inl ⟨1, rfl, by decide +kernel, rfl⟩
theorem a_X2_takeWord_54 : lr_F jX2_takeWord 54 (.invokestatic 113) 3 57 := ⟨by decide +kernel, rfl⟩
theorem a_X2_takeWord_57 : lr_F jX2_takeWord 57 (.invokevirtual 117) 3 60 := ⟨by decide +kernel, rfl⟩
theorem a_X2_takeWord_60 : lr_Br jX2_takeWord 60 (Instr.ifCond .eq) 68 63 := ⟨8, by decide +kernel, by decide, rfl⟩
theorem a_X2_takeWord_63 : lr_ALd jX2_takeWord 63 0 64 := Or.inl ⟨0, rfl, by decide +kernel, rfl⟩
theorem a_X2_takeWord_64 : lr_ILd jX2_takeWord 64 1 65 := Or.inl ⟨1, rfl, by decide +kernel, rfl⟩
theorem a_X2_takeWord_65 : lr_F jX2_takeWord 65 (.putfield 24) 3 68 := ⟨by decide +kernel, rfl⟩
theorem a_X2_takeWord_68 : lr_F jX2_takeWord 68 (.iinc 1 1) 3 71 := ⟨by decide +kernel, rfl⟩
theorem a_X2_takeWord_71 : lr_Br jX2_takeWord 71 (Instr.goto) 46 74 := ⟨(-25), by decide +kernel, by decide, rfl⟩
theorem a_X2_takeWord_74 : lr_F jX2_takeWord 74 (.return_) 1 75 := ⟨by decide +kernel, rfl⟩
theorem a_X2_isWord_0 : lr_ALd jX2_isWord 0 1 1 := Or.inl ⟨1, rfl, by decide +kernel, rfl⟩
theorem a_X2_isWord_1 : lr_F jX2_isWord 1 (.invokevirtual 121) 3 4 := ⟨by decide +kernel, rfl⟩
theorem a_X2_isWord_4 : lr_ALd jX2_isWord 4 0 5 := Or.inl ⟨0, rfl, by decide +kernel, rfl⟩
theorem a_X2_isWord_5 : lr_F jX2_isWord 5 (.getfield 19) 3 8 := ⟨by decide +kernel, rfl⟩
theorem a_X2_isWord_8 : lr_ALd jX2_isWord 8 0 9 := Or.inl ⟨0, rfl, by decide +kernel, rfl⟩
theorem a_X2_isWord_9 : lr_F jX2_isWord 9 (.getfield 27) 3 12 := ⟨by decide +kernel, rfl⟩
theorem a_X2_isWord_12 : lr_F jX2_isWord 12 (.isub) 1 13 := ⟨by decide +kernel, rfl⟩
theorem a_X2_isWord_13 : lr_Br jX2_isWord 13 (Instr.if_icmp .eq) 18 16 := ⟨5, by decide +kernel, by decide, rfl⟩
theorem a_X2_isWord_16 : lr_IC jX2_isWord 16 0 17 := Or.inl ⟨0, by decide, by decide +kernel, rfl⟩
theorem a_X2_isWord_17 : lr_F jX2_isWord 17 (.ireturn) 1 18 := ⟨by decide +kernel, rfl⟩
theorem a_X2_isWord_18 : lr_IC jX2_isWord 18 0 19 := Or.inl ⟨0, by decide, by decide +kernel, rfl⟩
theorem a_X2_isWord_19 : lr_ISt jX2_isWord 19 2 20 := Or.inl ⟨2, rfl, by decide +kernel, rfl⟩
theorem a_X2_isWord_20 : lr_ILd jX2_isWord 20 2 21 := Or.inl ⟨2, rfl, by decide +kernel, rfl⟩
theorem a_X2_isWord_21 : lr_ALd jX2_isWord 21 1 22 := Or.inl ⟨1, rfl, by decide +kernel, rfl⟩
theorem a_X2_isWord_22 : lr_F jX2_isWord 22 (.invokevirtual 121) 3 25 := ⟨by decide +kernel, rfl⟩
theorem a_X2_isWord_25 : lr_Br jX2_isWord 25 (Instr.if_icmp .ge) 55 28 := ⟨30, by decide +kernel, by decide, rfl⟩
theorem a_X2_isWord_28 : lr_ALd jX2_isWord 28 0 29 := Or.inl ⟨0, rfl, by decide +kernel, rfl⟩
theorem a_X2_isWord_29 : lr_F jX2_isWord 29 (.getfield 9) 3 32 := ⟨by decide +kernel, rfl⟩
theorem a_X2_isWord_32 : lr_ALd jX2_isWord 32 0 33 := Or.inl ⟨0, rfl, by decide +kernel, rfl⟩
theorem a_X2_isWord_33 : lr_F jX2_isWord 33 (.getfield 27) 3 36 := ⟨by decide +kernel, rfl⟩
theorem a_X2_isWord_36 : lr_ILd jX2_isWord 36 2 37 := Or.inl ⟨2, rfl, by decide +kernel, rfl⟩
theorem a_X2_isWord_37 : lr_F jX2_isWord 37 (.iadd) 1 38 := ⟨by decide +kernel, rfl⟩
theorem a_X2_isWord_38 : lr_F jX2_isWord 38 (.iaload) 1 39 := ⟨by decide +kernel, rfl⟩
theorem a_X2_isWord_39 : lr_ALd jX2_isWord 39 1 40 := Or.inl ⟨1, rfl, by decide +kernel, rfl⟩
theorem a_X2_isWord_40 : lr_ILd jX2_isWord 40 2 41 := Or.inl ⟨2, rfl, by decide +kernel, rfl⟩
theorem a_X2_isWord_41 : lr_F jX2_isWord 41 (.invokevirtual 127) 3 44 := ⟨by decide +kernel, rfl⟩
theorem a_X2_isWord_44 : lr_Br jX2_isWord 44 (Instr.if_icmp .eq) 49 47 := ⟨5, by decide +kernel, by decide, rfl⟩
theorem a_X2_isWord_47 : lr_IC jX2_isWord 47 0 48 := Or.inl ⟨0, by decide, by decide +kernel, rfl⟩
theorem a_X2_isWord_48 : lr_F jX2_isWord 48 (.ireturn) 1 49 := ⟨by decide +kernel, rfl⟩
theorem a_X2_isWord_49 : lr_F jX2_isWord 49 (.iinc 2 1) 3 52 := ⟨by decide +kernel, rfl⟩
theorem a_X2_isWord_52 : lr_Br jX2_isWord 52 (Instr.goto) 20 55 := ⟨(-32), by decide +kernel, by decide, rfl⟩
theorem a_X2_isWord_55 : lr_IC jX2_isWord 55 1 56 := Or.inl ⟨1, by decide, by decide +kernel, rfl⟩
theorem a_X2_isWord_56 : lr_F jX2_isWord 56 (.ireturn) 1 57 := ⟨by decide +kernel, rfl⟩
theorem a_X2_isDigit_0 : lr_ILd jX2_isDigit 0 0 1 := Or.inl ⟨0, rfl, by decide +kernel, rfl⟩
theorem a_X2_isDigit_1 : lr_IC jX2_isDigit 1 48 3 := Or.inr (Or.inl ⟨48, by decide, by decide +kernel, rfl⟩)
theorem a_X2_isDigit_3 : lr_Br jX2_isDigit 3 (Instr.if_icmp .lt) 16 6 := ⟨13, by decide +kernel, by decide, rfl⟩
theorem a_X2_isDigit_6 : lr_ILd jX2_isDigit 6 0 7 := Or.inl ⟨0, rfl, by decide +kernel, rfl⟩
theorem a_X2_isDigit_7 : lr_IC jX2_isDigit 7 57 9 := Or.inr (Or.inl ⟨57, by decide, by decide +kernel, rfl⟩)
theorem a_X2_isDigit_9 : lr_Br jX2_isDigit 9 (Instr.if_icmp .gt) 16 12 := ⟨7, by decide +kernel, by decide, rfl⟩
theorem a_X2_isDigit_12 : lr_IC jX2_isDigit 12 1 13 := Or.inl ⟨1, by decide, by decide +kernel, rfl⟩
theorem a_X2_isDigit_13 : lr_Br jX2_isDigit 13 (Instr.goto) 17 16 := ⟨4, by decide +kernel, by decide, rfl⟩
theorem a_X2_isDigit_16 : lr_IC jX2_isDigit 16 0 17 := Or.inl ⟨0, by decide, by decide +kernel, rfl⟩
theorem a_X2_isDigit_17 : lr_F jX2_isDigit 17 (.ireturn) 1 18 := ⟨by decide +kernel, rfl⟩
theorem a_X2_isLetter_0 : lr_ILd jX2_isLetter 0 0 1 := Or.inl ⟨0, rfl, by decide +kernel, rfl⟩
theorem a_X2_isLetter_1 : lr_IC jX2_isLetter 1 97 3 := Or.inr (Or.inl ⟨97, by decide, by decide +kernel, rfl⟩)
theorem a_X2_isLetter_3 : lr_Br jX2_isLetter 3 (Instr.if_icmp .lt) 16 6 := ⟨13, by decide +kernel, by decide, rfl⟩
theorem a_X2_isLetter_6 : lr_ILd jX2_isLetter 6 0 7 := Or.inl ⟨0, rfl, by decide +kernel, rfl⟩
theorem a_X2_isLetter_7 : lr_IC jX2_isLetter 7 122 9 := Or.inr (Or.inl ⟨122, by decide, by decide +kernel, rfl⟩)
theorem a_X2_isLetter_9 : lr_Br jX2_isLetter 9 (Instr.if_icmp .gt) 16 12 := ⟨7, by decide +kernel, by decide, rfl⟩
theorem a_X2_isLetter_12 : lr_IC jX2_isLetter 12 1 13 := Or.inl ⟨1, by decide, by decide +kernel, rfl⟩
theorem a_X2_isLetter_13 : lr_Br jX2_isLetter 13 (Instr.goto) 17 16 := ⟨4, by decide +kernel, by decide, rfl⟩
theorem a_X2_isLetter_16 : lr_IC jX2_isLetter 16 0 17 := Or.inl ⟨0, by decide, by decide +kernel, rfl⟩
theorem a_X2_isLetter_17 : lr_F jX2_isLetter 17 (.ireturn) 1 18 := ⟨by decide +kernel, rfl⟩
theorem a_X3_init_0 : lr_ALd jX3_init 0 0 1 := Or.inl ⟨0, rfl, by decide +kernel, rfl⟩
theorem a_X3_init_1 : lr_F jX3_init 1 (.invokespecial 3) 3 4 := ⟨by decide +kernel, rfl⟩
theorem a_X3_init_4 : lr_ALd jX3_init 4 0 5 := Or.inl ⟨0, rfl, by decide +kernel, rfl⟩
theorem a_X3_init_5 : lr_IC jX3_init 5 40 7 := Or.inr (Or.inl ⟨40, by decide, by decide +kernel, rfl⟩)
theorem a_X3_init_7 : lr_F jX3_init 7 (.newarray .int) 2 9 := ⟨by decide +kernel, rfl⟩
theorem a_X3_init_9 : lr_F jX3_init 9 (.putfield 9) 3 12 := ⟨by decide +kernel, rfl⟩
theorem a_X3_init_12 : lr_ALd jX3_init 12 0 13 := Or.inl ⟨0, rfl, by decide +kernel, rfl⟩
theorem a_X3_init_13 : lr_IC jX3_init 13 40 15 := Or.inr (Or.inl ⟨40, by decide, by decide +kernel, rfl⟩)
theorem a_X3_init_15 : lr_F jX3_init 15 (.newarray .int) 2 17 := ⟨by decide +kernel, rfl⟩
theorem a_X3_init_17 : lr_F jX3_init 17 (.putfield 15) 3 20 := ⟨by decide +kernel, rfl⟩
theorem a_X3_init_20 : lr_ALd jX3_init 20 0 21 := Or.inl ⟨0, rfl, by decide +kernel, rfl⟩
theorem a_X3_init_21 : lr_IC jX3_init 21 8 23 := Or.inr (Or.inl ⟨8, by decide, by decide +kernel, rfl⟩)
theorem a_X3_init_23 : lr_F jX3_init 23 (.newarray .int) 2 25 := ⟨by decide +kernel, rfl⟩
theorem a_X3_init_25 : lr_F jX3_init 25 (.putfield 18) 3 28 := ⟨by decide +kernel, rfl⟩
theorem a_X3_init_28 : lr_ALd jX3_init 28 0 29 := Or.inl ⟨0, rfl, by decide +kernel, rfl⟩
theorem a_X3_init_29 : lr_IC jX3_init 29 8 31 := Or.inr (Or.inl ⟨8, by decide, by decide +kernel, rfl⟩)
theorem a_X3_init_31 : lr_F jX3_init 31 (.newarray .int) 2 33 := ⟨by decide +kernel, rfl⟩
theorem a_X3_init_33 : lr_F jX3_init 33 (.putfield 21) 3 36 := ⟨by decide +kernel, rfl⟩
theorem a_X3_init_36 : lr_ALd jX3_init 36 0 37 := Or.inl ⟨0, rfl, by decide +kernel, rfl⟩
theorem a_X3_init_37 : lr_IC jX3_init 37 0 38 := Or.inl ⟨0, by decide, by decide +kernel, rfl⟩
theorem a_X3_init_38 : lr_F jX3_init 38 (.putfield 24) 3 41 := ⟨by decide +kernel, rfl⟩
theorem a_X3_init_41 : lr_ALd jX3_init 41 0 42 := Or.inl ⟨0, rfl, by decide +kernel, rfl⟩
theorem a_X3_init_42 : lr_IC jX3_init 42 0 43 := Or.inl ⟨0, by decide, by decide +kernel, rfl⟩
theorem a_X3_init_43 : lr_F jX3_init 43 (.putfield 28) 3 46 := ⟨by decide +kernel, rfl⟩
theorem a_X3_init_46 : lr_ALd jX3_init 46 0 47 := Or.inl ⟨0, rfl, by decide +kernel, rfl⟩
theorem a_X3_init_47 : lr_IC jX3_init 47 0 48 := Or.inl ⟨0, by decide, by decide +kernel, rfl⟩
theorem a_X3_init_48 : lr_F jX3_init 48 (.putfield 31) 3 51 := ⟨by decide +kernel, rfl⟩
theorem a_X3_init_51 : lr_ALd jX3_init 51 0 52 := Or.inl ⟨0, rfl, by decide +kernel, rfl⟩
theorem a_X3_init_52 : lr_IC jX3_init 52 (-1) 53 := Or.inl ⟨(-1), by decide, by decide +kernel, rfl⟩
theorem a_X3_init_53 : lr_F jX3_init 53 (.putfield 34) 3 56 := ⟨by decide +kernel, rfl⟩
theorem a_X3_init_56 : lr_F jX3_init 56 (.return_) 1 57 := ⟨by decide +kernel, rfl⟩
theorem a_X3_run_0 : lr_ALd jX3_run 0 0 1 := Or.inl ⟨0, rfl, by decide +kernel, rfl⟩
theorem a_X3_run_1 : lr_ILd jX3_run 1 1 2 := Or.inl ⟨1, rfl, by decide +kernel, rfl⟩
theorem a_X3_run_2 : lr_IC jX3_run 2 5 3 := Or.inl ⟨5, by decide, by decide +kernel, rfl⟩
theorem a_X3_run_3 : lr_F jX3_run 3 (.invokestatic 37) 3 6 := ⟨by decide +kernel, rfl⟩
theorem a_X3_run_6 : lr_F jX3_run 6 (.putfield 28) 3 9 := ⟨by decide +kernel, rfl⟩
theorem a_X3_run_9 : lr_ALd jX3_run 9 0 10 := Or.inl ⟨0, rfl, by decide +kernel, rfl⟩
theorem a_X3_run_10 : lr_ILd jX3_run 10 2 11 := Or.inl ⟨2, rfl, by decide +kernel, rfl⟩
theorem a_X3_run_11 : lr_F jX3_run 11 (.putfield 24) 3 14 := ⟨by decide +kernel, rfl⟩
theorem a_X3_run_14 : lr_ALd jX3_run 14 0 15 := Or.inl ⟨0, rfl, by decide +kernel, rfl⟩
theorem a_X3_run_15 : lr_IC jX3_run 15 0 16 := Or.inl ⟨0, by decide, by decide +kernel, rfl⟩
theorem a_X3_run_16 : lr_F jX3_run 16 (.putfield 31) 3 19 := ⟨by decide +kernel, rfl⟩
theorem a_X3_run_19 : lr_ALd jX3_run 19 0 20 := Or.inl ⟨0, rfl, by decide +kernel, rfl⟩
theorem a_X3_run_20 : lr_IC jX3_run 20 (-1) 21 := Or.inl ⟨(-1), by decide, by decide +kernel, rfl⟩
theorem a_X3_run_21 : lr_F jX3_run 21 (.putfield 34) 3 24 := ⟨by decide +kernel, rfl⟩
theorem a_X3_run_24 : lr_ALd jX3_run 24 0 25 := Or.inl ⟨0, rfl, by decide +kernel, rfl⟩
theorem a_X3_run_25 : lr_IC jX3_run 25 0 26 := Or.inl ⟨0, by decide, by decide +kernel, rfl⟩
theorem a_X3_run_26 : lr_IC jX3_run 26 0 27 := Or.inl ⟨0, by decide, by decide +kernel, rfl⟩
theorem a_X3_run_27 : lr_IC jX3_run 27 0 28 := Or.inl ⟨0, by decide, by decide +kernel, rfl⟩
theorem a_X3_run_28 : lr_IC jX3_run 28 0 29 := Or.inl ⟨0, by decide, by decide +kernel, rfl⟩
theorem a_X3_run_29 : lr_IC jX3_run 29 1000000 31 := Or.inr (Or.inr (Or.inr (Or.inl ⟨43, aw_in (List.mem_of_getElem? (i := 644) (by decide +kernel)) (by decide +kernel), by decide +kernel, rfl⟩)))
theorem a_X3_run_31 : lr_F jX3_run 31 (.invokestatic 44) 3 34 := ⟨by decide +kernel, rfl⟩
theorem a_X3_run_34 : lr_F jX3_run 34 (.return_) 1 35 := ⟨by decide +kernel, rfl⟩
theorem a_X3_climb_0 : lr_ILd jX3_climb 0 1 1 := Or.inl ⟨1, rfl, by decide +kernel, rfl⟩
theorem a_X3_climb_1 : lr_ALd jX3_climb 1 0 2 := Or.inl ⟨0, rfl, by decide +kernel, rfl⟩
theorem a_X3_climb_2 : lr_F jX3_climb 2 (.getfield 28) 3 5 := ⟨by decide +kernel, rfl⟩
theorem a_X3_climb_5 : lr_Br jX3_climb 5 (Instr.if_icmp .lt) 9 8 := ⟨4, by decide +kernel, by decide, rfl⟩
theorem a_X3_climb_8 : lr_F jX3_climb 8 (.return_) 1 9 := ⟨by decide +kernel, rfl⟩
theorem a_X3_climb_9 : lr_ILd jX3_climb 9 4 11 := Or.inr ⟨by decide +kernel, rfl⟩
theorem a_X3_climb_11 : lr_IC jX3_climb 11 10 13 := Or.inr (Or.inl ⟨10, by decide, by decide +kernel, rfl⟩)
theorem a_X3_climb_13 : lr_F jX3_climb 13 (.irem) 1 14 := ⟨by decide +kernel, rfl⟩
theorem a_X3_climb_14 : lr_IC jX3_climb 14 1 15 := Or.inl ⟨1, by decide, by decide +kernel, rfl⟩
theorem a_X3_climb_15 : lr_F jX3_climb 15 (.isub) 1 16 := ⟨by decide +kernel, rfl⟩
theorem a_X3_climb_16 : lr_ISt jX3_climb 16 6 18 := Or.inr ⟨by decide +kernel, rfl⟩
theorem a_X3_climb_18 : lr_ALd jX3_climb 18 0 19 := Or.inl ⟨0, rfl, by decide +kernel, rfl⟩
theorem a_X3_climb_19 : lr_F jX3_climb 19 (.getfield 24) 3 22 := ⟨by decide +kernel, rfl⟩
theorem a_X3_climb_22 : lr_ILd jX3_climb 22 2 23 := Or.inl ⟨2, rfl, by decide +kernel, rfl⟩
theorem a_X3_climb_23 : lr_IC jX3_climb 23 (-1) 24 := Or.inl ⟨(-1), by decide, by decide +kernel, rfl⟩
theorem a_X3_climb_24 : lr_F jX3_climb 24 (.ixor) 1 25 := ⟨by decide +kernel, rfl⟩
theorem a_X3_climb_25 : lr_F jX3_climb 25 (.iand) 1 26 := ⟨by decide +kernel, rfl⟩
theorem a_X3_climb_26 : lr_ISt jX3_climb 26 7 28 := Or.inr ⟨by decide +kernel, rfl⟩
theorem a_X3_climb_28 : lr_IC jX3_climb 28 0 29 := Or.inl ⟨0, by decide, by decide +kernel, rfl⟩
theorem a_X3_climb_29 : lr_ISt jX3_climb 29 8 31 := Or.inr ⟨by decide +kernel, rfl⟩
theorem a_X3_climb_31 : lr_ILd jX3_climb 31 8 33 := Or.inr ⟨by decide +kernel, rfl⟩
theorem a_X3_climb_33 : lr_IC jX3_climb 33 8 35 := Or.inr (Or.inl ⟨8, by decide, by decide +kernel, rfl⟩)
theorem a_X3_climb_35 : lr_Br jX3_climb 35 (Instr.if_icmp .ge) 191 38 := ⟨156, by decide +kernel, by decide, rfl⟩
theorem a_X3_climb_38 : lr_ILd jX3_climb 38 6 40 := Or.inr ⟨by decide +kernel, rfl⟩
theorem a_X3_climb_40 : lr_IC jX3_climb 40 (-1) 41 := Or.inl ⟨(-1), by decide, by decide +kernel, rfl⟩
theorem a_X3_climb_41 : lr_Br jX3_climb 41 (Instr.if_icmp .eq) 63 44 := ⟨22, by decide +kernel, by decide, rfl⟩
theorem a_X3_climb_44 : lr_ALd jX3_climb 44 0 45 := Or.inl ⟨0, rfl, by decide +kernel, rfl⟩
theorem a_X3_climb_45 : lr_F jX3_climb 45 (.getfield 21) 3 48 := ⟨by decide +kernel, rfl⟩
theorem a_X3_climb_48 : lr_ILd jX3_climb 48 8 50 := Or.inr ⟨by decide +kernel, rfl⟩
theorem a_X3_climb_50 : lr_F jX3_climb 50 (.iaload) 1 51 := ⟨by decide +kernel, rfl⟩
theorem a_X3_climb_51 : lr_ILd jX3_climb 51 6 53 := Or.inr ⟨by decide +kernel, rfl⟩
theorem a_X3_climb_53 : lr_F jX3_climb 53 (.ishr) 1 54 := ⟨by decide +kernel, rfl⟩
theorem a_X3_climb_54 : lr_IC jX3_climb 54 1 55 := Or.inl ⟨1, by decide, by decide +kernel, rfl⟩
theorem a_X3_climb_55 : lr_F jX3_climb 55 (.iand) 1 56 := ⟨by decide +kernel, rfl⟩
theorem a_X3_climb_56 : lr_Br jX3_climb 56 (Instr.ifCond .eq) 63 59 := ⟨7, by decide +kernel, by decide, rfl⟩
theorem a_X3_climb_59 : lr_IC jX3_climb 59 1 60 := Or.inl ⟨1, by decide, by decide +kernel, rfl⟩
theorem a_X3_climb_60 : lr_Br jX3_climb 60 (Instr.goto) 64 63 := ⟨4, by decide +kernel, by decide, rfl⟩
theorem a_X3_climb_63 : lr_IC jX3_climb 63 0 64 := Or.inl ⟨0, by decide, by decide +kernel, rfl⟩
theorem a_X3_climb_64 : lr_ISt jX3_climb 64 9 66 := Or.inr ⟨by decide +kernel, rfl⟩
theorem a_X3_climb_66 : lr_ILd jX3_climb 66 7 68 := Or.inr ⟨by decide +kernel, rfl⟩
theorem a_X3_climb_68 : lr_ILd jX3_climb 68 8 70 := Or.inr ⟨by decide +kernel, rfl⟩
theorem a_X3_climb_70 : lr_F jX3_climb 70 (.ishr) 1 71 := ⟨by decide +kernel, rfl⟩
theorem a_X3_climb_71 : lr_IC jX3_climb 71 1 72 := Or.inl ⟨1, by decide, by decide +kernel, rfl⟩
theorem a_X3_climb_72 : lr_F jX3_climb 72 (.iand) 1 73 := ⟨by decide +kernel, rfl⟩
theorem a_X3_climb_73 : lr_Br jX3_climb 73 (Instr.ifCond .eq) 185 76 := ⟨112, by decide +kernel, by decide, rfl⟩
theorem a_X3_climb_76 : lr_ILd jX3_climb 76 9 78 := Or.inr ⟨by decide +kernel, rfl⟩
theorem a_X3_climb_78 : lr_Br jX3_climb 78 (Instr.ifCond .ne) 185 81 := ⟨107, by decide +kernel, by decide, rfl⟩
theorem a_X3_climb_81 : lr_ILd jX3_climb 81 5 83 := Or.inr ⟨by decide +kernel, rfl⟩
theorem a_X3_climb_83 : lr_ALd jX3_climb 83 0 84 := Or.inl ⟨0, rfl, by decide +kernel, rfl⟩
theorem a_X3_climb_84 : lr_F jX3_climb 84 (.getfield 18) 3 87 := ⟨by decide +kernel, rfl⟩
theorem a_X3_climb_87 : lr_ILd jX3_climb 87 8 89 := Or.inr ⟨by decide +kernel, rfl⟩
theorem a_X3_climb_89 : lr_F jX3_climb 89 (.iaload) 1 90 := ⟨by decide +kernel, rfl⟩
theorem a_X3_climb_90 : lr_Br jX3_climb 90 (Instr.if_icmp .ge) 96 93 := ⟨6, by decide +kernel, by decide, rfl⟩
theorem a_X3_climb_93 : lr_Br jX3_climb 93 (Instr.goto) 185 96 := ⟨92, by decide +kernel, by decide, rfl⟩
theorem a_X3_climb_96 : lr_ILd jX3_climb 96 8 98 := Or.inr ⟨by decide +kernel, rfl⟩
theorem a_X3_climb_98 : lr_IC jX3_climb 98 5 99 := Or.inl ⟨5, by decide, by decide +kernel, rfl⟩
theorem a_X3_climb_99 : lr_F jX3_climb 99 (.imul) 1 100 := ⟨by decide +kernel, rfl⟩
theorem a_X3_climb_100 : lr_ILd jX3_climb 100 1 101 := Or.inl ⟨1, rfl, by decide +kernel, rfl⟩
theorem a_X3_climb_101 : lr_F jX3_climb 101 (.iadd) 1 102 := ⟨by decide +kernel, rfl⟩
theorem a_X3_climb_102 : lr_ISt jX3_climb 102 10 104 := Or.inr ⟨by decide +kernel, rfl⟩
theorem a_X3_climb_104 : lr_ILd jX3_climb 104 3 105 := Or.inl ⟨3, rfl, by decide +kernel, rfl⟩
theorem a_X3_climb_105 : lr_ALd jX3_climb 105 0 106 := Or.inl ⟨0, rfl, by decide +kernel, rfl⟩
theorem a_X3_climb_106 : lr_F jX3_climb 106 (.getfield 9) 3 109 := ⟨by decide +kernel, rfl⟩
theorem a_X3_climb_109 : lr_ILd jX3_climb 109 10 111 := Or.inr ⟨by decide +kernel, rfl⟩
theorem a_X3_climb_111 : lr_F jX3_climb 111 (.iaload) 1 112 := ⟨by decide +kernel, rfl⟩
theorem a_X3_climb_112 : lr_F jX3_climb 112 (.iadd) 1 113 := ⟨by decide +kernel, rfl⟩
theorem a_X3_climb_113 : lr_ISt jX3_climb 113 11 115 := Or.inr ⟨by decide +kernel, rfl⟩
theorem a_X3_climb_115 : lr_ILd jX3_climb 115 4 117 := Or.inr ⟨by decide +kernel, rfl⟩
theorem a_X3_climb_117 : lr_IC jX3_climb 117 10 119 := Or.inr (Or.inl ⟨10, by decide, by decide +kernel, rfl⟩)
theorem a_X3_climb_119 : lr_F jX3_climb 119 (.imul) 1 120 := ⟨by decide +kernel, rfl⟩
theorem a_X3_climb_120 : lr_ILd jX3_climb 120 8 122 := Or.inr ⟨by decide +kernel, rfl⟩
theorem a_X3_climb_122 : lr_F jX3_climb 122 (.iadd) 1 123 := ⟨by decide +kernel, rfl⟩
theorem a_X3_climb_123 : lr_IC jX3_climb 123 1 124 := Or.inl ⟨1, by decide, by decide +kernel, rfl⟩
theorem a_X3_climb_124 : lr_F jX3_climb 124 (.iadd) 1 125 := ⟨by decide +kernel, rfl⟩
theorem a_X3_climb_125 : lr_ISt jX3_climb 125 12 127 := Or.inr ⟨by decide +kernel, rfl⟩
theorem a_X3_climb_127 : lr_ILd jX3_climb 127 11 129 := Or.inr ⟨by decide +kernel, rfl⟩
theorem a_X3_climb_129 : lr_ALd jX3_climb 129 0 130 := Or.inl ⟨0, rfl, by decide +kernel, rfl⟩
theorem a_X3_climb_130 : lr_F jX3_climb 130 (.getfield 31) 3 133 := ⟨by decide +kernel, rfl⟩
theorem a_X3_climb_133 : lr_Br jX3_climb 133 (Instr.if_icmp .le) 148 136 := ⟨15, by decide +kernel, by decide, rfl⟩
theorem a_X3_climb_136 : lr_ALd jX3_climb 136 0 137 := Or.inl ⟨0, rfl, by decide +kernel, rfl⟩
theorem a_X3_climb_137 : lr_ILd jX3_climb 137 11 139 := Or.inr ⟨by decide +kernel, rfl⟩
theorem a_X3_climb_139 : lr_F jX3_climb 139 (.putfield 31) 3 142 := ⟨by decide +kernel, rfl⟩
theorem a_X3_climb_142 : lr_ALd jX3_climb 142 0 143 := Or.inl ⟨0, rfl, by decide +kernel, rfl⟩
theorem a_X3_climb_143 : lr_ILd jX3_climb 143 12 145 := Or.inr ⟨by decide +kernel, rfl⟩
theorem a_X3_climb_145 : lr_F jX3_climb 145 (.putfield 34) 3 148 := ⟨by decide +kernel, rfl⟩
theorem a_X3_climb_148 : lr_ALd jX3_climb 148 0 149 := Or.inl ⟨0, rfl, by decide +kernel, rfl⟩
theorem a_X3_climb_149 : lr_ILd jX3_climb 149 1 150 := Or.inl ⟨1, rfl, by decide +kernel, rfl⟩
theorem a_X3_climb_150 : lr_IC jX3_climb 150 1 151 := Or.inl ⟨1, by decide, by decide +kernel, rfl⟩
theorem a_X3_climb_151 : lr_F jX3_climb 151 (.iadd) 1 152 := ⟨by decide +kernel, rfl⟩
theorem a_X3_climb_152 : lr_ILd jX3_climb 152 2 153 := Or.inl ⟨2, rfl, by decide +kernel, rfl⟩
theorem a_X3_climb_153 : lr_IC jX3_climb 153 1 154 := Or.inl ⟨1, by decide, by decide +kernel, rfl⟩
theorem a_X3_climb_154 : lr_ILd jX3_climb 154 8 156 := Or.inr ⟨by decide +kernel, rfl⟩
theorem a_X3_climb_156 : lr_F jX3_climb 156 (.ishl) 1 157 := ⟨by decide +kernel, rfl⟩
theorem a_X3_climb_157 : lr_F jX3_climb 157 (.ior) 1 158 := ⟨by decide +kernel, rfl⟩
theorem a_X3_climb_158 : lr_ILd jX3_climb 158 11 160 := Or.inr ⟨by decide +kernel, rfl⟩
theorem a_X3_climb_160 : lr_ILd jX3_climb 160 12 162 := Or.inr ⟨by decide +kernel, rfl⟩
theorem a_X3_climb_162 : lr_ILd jX3_climb 162 5 164 := Or.inr ⟨by decide +kernel, rfl⟩
theorem a_X3_climb_164 : lr_ALd jX3_climb 164 0 165 := Or.inl ⟨0, rfl, by decide +kernel, rfl⟩
theorem a_X3_climb_165 : lr_F jX3_climb 165 (.getfield 18) 3 168 := ⟨by decide +kernel, rfl⟩
theorem a_X3_climb_168 : lr_ILd jX3_climb 168 8 170 := Or.inr ⟨by decide +kernel, rfl⟩
theorem a_X3_climb_170 : lr_F jX3_climb 170 (.iaload) 1 171 := ⟨by decide +kernel, rfl⟩
theorem a_X3_climb_171 : lr_F jX3_climb 171 (.isub) 1 172 := ⟨by decide +kernel, rfl⟩
theorem a_X3_climb_172 : lr_ALd jX3_climb 172 0 173 := Or.inl ⟨0, rfl, by decide +kernel, rfl⟩
theorem a_X3_climb_173 : lr_F jX3_climb 173 (.getfield 15) 3 176 := ⟨by decide +kernel, rfl⟩
theorem a_X3_climb_176 : lr_ILd jX3_climb 176 10 178 := Or.inr ⟨by decide +kernel, rfl⟩
theorem a_X3_climb_178 : lr_F jX3_climb 178 (.iaload) 1 179 := ⟨by decide +kernel, rfl⟩
theorem a_X3_climb_179 : lr_F jX3_climb 179 (.invokestatic 37) 3 182 := ⟨by decide +kernel, rfl⟩
theorem a_X3_climb_182 : lr_F jX3_climb 182 (.invokestatic 44) 3 185 := ⟨by decide +kernel, rfl⟩
theorem a_X3_climb_185 : lr_F jX3_climb 185 (.iinc 8 1) 3 188 := ⟨by decide +kernel, rfl⟩
theorem a_X3_climb_188 : lr_Br jX3_climb 188 (Instr.goto) 31 191 := ⟨(-157), by decide +kernel, by decide, rfl⟩
theorem a_X3_climb_191 : lr_F jX3_climb 191 (.return_) 1 192 := ⟨by decide +kernel, rfl⟩
theorem a_X4_init_0 : lr_ALd jX4_init 0 0 1 := Or.inl ⟨0, rfl, by decide +kernel, rfl⟩
theorem a_X4_init_1 : lr_F jX4_init 1 (.invokespecial 3) 3 4 := ⟨by decide +kernel, rfl⟩
theorem a_X4_init_4 : lr_ALd jX4_init 4 0 5 := Or.inl ⟨0, rfl, by decide +kernel, rfl⟩
theorem a_X4_init_5 : lr_IC jX4_init 5 40 7 := Or.inr (Or.inl ⟨40, by decide, by decide +kernel, rfl⟩)
theorem a_X4_init_7 : lr_F jX4_init 7 (.newarray .int) 2 9 := ⟨by decide +kernel, rfl⟩
theorem a_X4_init_9 : lr_F jX4_init 9 (.putfield 9) 3 12 := ⟨by decide +kernel, rfl⟩
theorem a_X4_init_12 : lr_ALd jX4_init 12 0 13 := Or.inl ⟨0, rfl, by decide +kernel, rfl⟩
theorem a_X4_init_13 : lr_IC jX4_init 13 (-1) 14 := Or.inl ⟨(-1), by decide, by decide +kernel, rfl⟩
theorem a_X4_init_14 : lr_F jX4_init 14 (.putfield 15) 3 17 := ⟨by decide +kernel, rfl⟩
theorem a_X4_init_17 : lr_ALd jX4_init 17 0 18 := Or.inl ⟨0, rfl, by decide +kernel, rfl⟩
theorem a_X4_init_18 : lr_IC jX4_init 18 0 19 := Or.inl ⟨0, by decide, by decide +kernel, rfl⟩
theorem a_X4_init_19 : lr_F jX4_init 19 (.putfield 19) 3 22 := ⟨by decide +kernel, rfl⟩
theorem a_X4_init_22 : lr_F jX4_init 22 (.return_) 1 23 := ⟨by decide +kernel, rfl⟩
theorem a_X4_becomeZeros_0 : lr_ALd jX4_becomeZeros 0 0 1 := Or.inl ⟨0, rfl, by decide +kernel, rfl⟩
theorem a_X4_becomeZeros_1 : lr_ILd jX4_becomeZeros 1 1 2 := Or.inl ⟨1, rfl, by decide +kernel, rfl⟩
theorem a_X4_becomeZeros_2 : lr_F jX4_becomeZeros 2 (.putfield 15) 3 5 := ⟨by decide +kernel, rfl⟩
theorem a_X4_becomeZeros_5 : lr_ALd jX4_becomeZeros 5 0 6 := Or.inl ⟨0, rfl, by decide +kernel, rfl⟩
theorem a_X4_becomeZeros_6 : lr_ILd jX4_becomeZeros 6 2 7 := Or.inl ⟨2, rfl, by decide +kernel, rfl⟩
theorem a_X4_becomeZeros_7 : lr_F jX4_becomeZeros 7 (.putfield 19) 3 10 := ⟨by decide +kernel, rfl⟩
theorem a_X4_becomeZeros_10 : lr_ALd jX4_becomeZeros 10 0 11 := Or.inl ⟨0, rfl, by decide +kernel, rfl⟩
theorem a_X4_becomeZeros_11 : lr_F jX4_becomeZeros 11 (.getfield 9) 3 14 := ⟨by decide +kernel, rfl⟩
theorem a_X4_becomeZeros_14 : lr_IC jX4_becomeZeros 14 0 15 := Or.inl ⟨0, by decide, by decide +kernel, rfl⟩
theorem a_X4_becomeZeros_15 : lr_F jX4_becomeZeros 15 (.invokestatic 22) 3 18 := ⟨by decide +kernel, rfl⟩
theorem a_X4_becomeZeros_18 : lr_F jX4_becomeZeros 18 (.return_) 1 19 := ⟨by decide +kernel, rfl⟩
theorem a_X4_has_0 : lr_ILd jX4_has 0 1 1 := Or.inl ⟨1, rfl, by decide +kernel, rfl⟩
theorem a_X4_has_1 : lr_Br jX4_has 1 (Instr.ifCond .lt) 16 4 := ⟨15, by decide +kernel, by decide, rfl⟩
theorem a_X4_has_4 : lr_ILd jX4_has 4 1 5 := Or.inl ⟨1, rfl, by decide +kernel, rfl⟩
theorem a_X4_has_5 : lr_ALd jX4_has 5 0 6 := Or.inl ⟨0, rfl, by decide +kernel, rfl⟩
theorem a_X4_has_6 : lr_F jX4_has 6 (.getfield 19) 3 9 := ⟨by decide +kernel, rfl⟩
theorem a_X4_has_9 : lr_Br jX4_has 9 (Instr.if_icmp .ge) 16 12 := ⟨7, by decide +kernel, by decide, rfl⟩
theorem a_X4_has_12 : lr_IC jX4_has 12 1 13 := Or.inl ⟨1, by decide, by decide +kernel, rfl⟩
theorem a_X4_has_13 : lr_Br jX4_has 13 (Instr.goto) 17 16 := ⟨4, by decide +kernel, by decide, rfl⟩
theorem a_X4_has_16 : lr_IC jX4_has 16 0 17 := Or.inl ⟨0, by decide, by decide +kernel, rfl⟩
theorem a_X4_has_17 : lr_F jX4_has 17 (.ireturn) 1 18 := ⟨by decide +kernel, rfl⟩
theorem a_X4_hasAll_0 : lr_ILd jX4_hasAll 0 1 1 := Or.inl ⟨1, rfl, by decide +kernel, rfl⟩
theorem a_X4_hasAll_1 : lr_Br jX4_hasAll 1 (Instr.ifCond .lt) 30 4 := ⟨29, by decide +kernel, by decide, rfl⟩
theorem a_X4_hasAll_4 : lr_ILd jX4_hasAll 4 2 5 := Or.inl ⟨2, rfl, by decide +kernel, rfl⟩
theorem a_X4_hasAll_5 : lr_Br jX4_hasAll 5 (Instr.ifCond .lt) 30 8 := ⟨25, by decide +kernel, by decide, rfl⟩
theorem a_X4_hasAll_8 : lr_ILd jX4_hasAll 8 2 9 := Or.inl ⟨2, rfl, by decide +kernel, rfl⟩
theorem a_X4_hasAll_9 : lr_ALd jX4_hasAll 9 0 10 := Or.inl ⟨0, rfl, by decide +kernel, rfl⟩
theorem a_X4_hasAll_10 : lr_F jX4_hasAll 10 (.getfield 19) 3 13 := ⟨by decide +kernel, rfl⟩
theorem a_X4_hasAll_13 : lr_Br jX4_hasAll 13 (Instr.if_icmp .gt) 30 16 := ⟨17, by decide +kernel, by decide, rfl⟩
theorem a_X4_hasAll_16 : lr_ILd jX4_hasAll 16 1 17 := Or.inl ⟨1, rfl, by decide +kernel, rfl⟩
theorem a_X4_hasAll_17 : lr_ALd jX4_hasAll 17 0 18 := Or.inl ⟨0, rfl, by decide +kernel, rfl⟩
theorem a_X4_hasAll_18 : lr_F jX4_hasAll 18 (.getfield 19) 3 21 := ⟨by decide +kernel, rfl⟩
theorem a_X4_hasAll_21 : lr_ILd jX4_hasAll 21 2 22 := Or.inl ⟨2, rfl, by decide +kernel, rfl⟩
theorem a_X4_hasAll_22 : lr_F jX4_hasAll 22 (.isub) 1 23 := ⟨by decide +kernel, rfl⟩
theorem a_X4_hasAll_23 : lr_Br jX4_hasAll 23 (Instr.if_icmp .gt) 30 26 := ⟨7, by decide +kernel, by decide, rfl⟩
theorem a_X4_hasAll_26 : lr_IC jX4_hasAll 26 1 27 := Or.inl ⟨1, by decide, by decide +kernel, rfl⟩
theorem a_X4_hasAll_27 : lr_Br jX4_hasAll 27 (Instr.goto) 31 30 := ⟨4, by decide +kernel, by decide, rfl⟩
theorem a_X4_hasAll_30 : lr_IC jX4_hasAll 30 0 31 := Or.inl ⟨0, by decide, by decide +kernel, rfl⟩
theorem a_X4_hasAll_31 : lr_F jX4_hasAll 31 (.ireturn) 1 32 := ⟨by decide +kernel, rfl⟩
theorem a_X4_write_0 : lr_ALd jX4_write 0 0 1 := Or.inl ⟨0, rfl, by decide +kernel, rfl⟩
theorem a_X4_write_1 : lr_ILd jX4_write 1 1 2 := Or.inl ⟨1, rfl, by decide +kernel, rfl⟩
theorem a_X4_write_2 : lr_F jX4_write 2 (.invokevirtual 28) 3 5 := ⟨by decide +kernel, rfl⟩
theorem a_X4_write_5 : lr_Br jX4_write 5 (Instr.ifCond .eq) 40 8 := ⟨35, by decide +kernel, by decide, rfl⟩
theorem a_X4_write_8 : lr_ALd jX4_write 8 0 9 := Or.inl ⟨0, rfl, by decide +kernel, rfl⟩
theorem a_X4_write_9 : lr_F jX4_write 9 (.getfield 9) 3 12 := ⟨by decide +kernel, rfl⟩
theorem a_X4_write_12 : lr_ILd jX4_write 12 1 13 := Or.inl ⟨1, rfl, by decide +kernel, rfl⟩
theorem a_X4_write_13 : lr_ALd jX4_write 13 0 14 := Or.inl ⟨0, rfl, by decide +kernel, rfl⟩
theorem a_X4_write_14 : lr_F jX4_write 14 (.getfield 15) 3 17 := ⟨by decide +kernel, rfl⟩
theorem a_X4_write_17 : lr_Br jX4_write 17 (Instr.ifCond .ne) 25 20 := ⟨8, by decide +kernel, by decide, rfl⟩
theorem a_X4_write_20 : lr_ILd jX4_write 20 2 21 := Or.inl ⟨2, rfl, by decide +kernel, rfl⟩
theorem a_X4_write_21 : lr_F jX4_write 21 (.i2b) 1 22 := ⟨by decide +kernel, rfl⟩
theorem a_X4_write_22 : lr_Br jX4_write 22 (Instr.goto) 39 25 := ⟨17, by decide +kernel, by decide, rfl⟩
theorem a_X4_write_25 : lr_ALd jX4_write 25 0 26 := Or.inl ⟨0, rfl, by decide +kernel, rfl⟩
theorem a_X4_write_26 : lr_F jX4_write 26 (.getfield 15) 3 29 := ⟨by decide +kernel, rfl⟩
theorem a_X4_write_29 : lr_IC jX4_write 29 1 30 := Or.inl ⟨1, by decide, by decide +kernel, rfl⟩
theorem a_X4_write_30 : lr_Br jX4_write 30 (Instr.if_icmp .ne) 38 33 := ⟨8, by decide +kernel, by decide, rfl⟩
theorem a_X4_write_33 : lr_ILd jX4_write 33 2 34 := Or.inl ⟨2, rfl, by decide +kernel, rfl⟩
theorem a_X4_write_34 : lr_F jX4_write 34 (.i2s) 1 35 := ⟨by decide +kernel, rfl⟩
theorem a_X4_write_35 : lr_Br jX4_write 35 (Instr.goto) 39 38 := ⟨4, by decide +kernel, by decide, rfl⟩
theorem a_X4_write_38 : lr_ILd jX4_write 38 2 39 := Or.inl ⟨2, rfl, by decide +kernel, rfl⟩
theorem a_X4_write_39 : lr_F jX4_write 39 (.iastore) 1 40 := ⟨by decide +kernel, rfl⟩
theorem a_X4_write_40 : lr_F jX4_write 40 (.return_) 1 41 := ⟨by decide +kernel, rfl⟩
theorem a_X5_wordOf_0 : lr_ILd jX5_wordOf 0 0 1 := Or.inl ⟨0, rfl, by decide +kernel, rfl⟩
theorem a_X5_wordOf_1 : lr_TS jX5_wordOf 1 4 [64, 67, 70, 73, 76, 79, 82, 85, 88, 91, 94, 97] 100 := ⟨99, 15, #[63, 66, 69, 72, 75, 78, 81, 84, 87, 90, 93, 96], 63, by decide +kernel, by decide, by decide, rfl⟩
theorem a_X5_wordOf_64 : lr_F jX5_wordOf 64 (.ldc 9) 2 66 := ⟨by decide +kernel, rfl⟩
theorem a_X5_wordOf_66 : lr_F jX5_wordOf 66 (.areturn) 1 67 := ⟨by decide +kernel, rfl⟩
theorem a_X5_wordOf_67 : lr_F jX5_wordOf 67 (.ldc 11) 2 69 := ⟨by decide +kernel, rfl⟩
theorem a_X5_wordOf_69 : lr_F jX5_wordOf 69 (.areturn) 1 70 := ⟨by decide +kernel, rfl⟩
theorem a_X5_wordOf_70 : lr_F jX5_wordOf 70 (.ldc 13) 2 72 := ⟨by decide +kernel, rfl⟩
theorem a_X5_wordOf_72 : lr_F jX5_wordOf 72 (.areturn) 1 73 := ⟨by decide +kernel, rfl⟩
theorem a_X5_wordOf_73 : lr_F jX5_wordOf 73 (.ldc 15) 2 75 := ⟨by decide +kernel, rfl⟩
theorem a_X5_wordOf_75 : lr_F jX5_wordOf 75 (.areturn) 1 76 := ⟨by decide +kernel, rfl⟩
theorem a_X5_wordOf_76 : lr_F jX5_wordOf 76 (.ldc 17) 2 78 := ⟨by decide +kernel, rfl⟩
theorem a_X5_wordOf_78 : lr_F jX5_wordOf 78 (.areturn) 1 79 := ⟨by decide +kernel, rfl⟩
theorem a_X5_wordOf_79 : lr_F jX5_wordOf 79 (.ldc 19) 2 81 := ⟨by decide +kernel, rfl⟩
theorem a_X5_wordOf_81 : lr_F jX5_wordOf 81 (.areturn) 1 82 := ⟨by decide +kernel, rfl⟩
theorem a_X5_wordOf_82 : lr_F jX5_wordOf 82 (.ldc 21) 2 84 := ⟨by decide +kernel, rfl⟩
theorem a_X5_wordOf_84 : lr_F jX5_wordOf 84 (.areturn) 1 85 := ⟨by decide +kernel, rfl⟩
theorem a_X5_wordOf_85 : lr_F jX5_wordOf 85 (.ldc 23) 2 87 := ⟨by decide +kernel, rfl⟩
theorem a_X5_wordOf_87 : lr_F jX5_wordOf 87 (.areturn) 1 88 := ⟨by decide +kernel, rfl⟩
theorem a_X5_wordOf_88 : lr_F jX5_wordOf 88 (.ldc 25) 2 90 := ⟨by decide +kernel, rfl⟩
theorem a_X5_wordOf_90 : lr_F jX5_wordOf 90 (.areturn) 1 91 := ⟨by decide +kernel, rfl⟩
theorem a_X5_wordOf_91 : lr_F jX5_wordOf 91 (.ldc 27) 2 93 := ⟨by decide +kernel, rfl⟩
theorem a_X5_wordOf_93 : lr_F jX5_wordOf 93 (.areturn) 1 94 := ⟨by decide +kernel, rfl⟩
theorem a_X5_wordOf_94 : lr_F jX5_wordOf 94 (.ldc 29) 2 96 := ⟨by decide +kernel, rfl⟩
theorem a_X5_wordOf_96 : lr_F jX5_wordOf 96 (.areturn) 1 97 := ⟨by decide +kernel, rfl⟩
theorem a_X5_wordOf_97 : lr_F jX5_wordOf 97 (.ldc 31) 2 99 := ⟨by decide +kernel, rfl⟩
theorem a_X5_wordOf_99 : lr_F jX5_wordOf 99 (.areturn) 1 100 := ⟨by decide +kernel, rfl⟩
theorem a_X5_wordOf_100 : lr_F jX5_wordOf 100 (.ldc 33) 2 102 := ⟨by decide +kernel, rfl⟩
theorem a_X5_wordOf_102 : lr_F jX5_wordOf 102 (.areturn) 1 103 := ⟨by decide +kernel, rfl⟩
theorem a_X5_isSign_0 : lr_ILd jX5_isSign 0 0 1 := Or.inl ⟨0, rfl, by decide +kernel, rfl⟩
theorem a_X5_isSign_1 : lr_IC jX5_isSign 1 40 3 := Or.inr (Or.inl ⟨40, by decide, by decide +kernel, rfl⟩)
theorem a_X5_isSign_3 : lr_Br jX5_isSign 3 (Instr.if_icmp .eq) 48 6 := ⟨45, by decide +kernel, by decide, rfl⟩
theorem a_X5_isSign_6 : lr_ILd jX5_isSign 6 0 7 := Or.inl ⟨0, rfl, by decide +kernel, rfl⟩
theorem a_X5_isSign_7 : lr_IC jX5_isSign 7 41 9 := Or.inr (Or.inl ⟨41, by decide, by decide +kernel, rfl⟩)
theorem a_X5_isSign_9 : lr_Br jX5_isSign 9 (Instr.if_icmp .eq) 48 12 := ⟨39, by decide +kernel, by decide, rfl⟩
theorem a_X5_isSign_12 : lr_ILd jX5_isSign 12 0 13 := Or.inl ⟨0, rfl, by decide +kernel, rfl⟩
theorem a_X5_isSign_13 : lr_IC jX5_isSign 13 59 15 := Or.inr (Or.inl ⟨59, by decide, by decide +kernel, rfl⟩)
theorem a_X5_isSign_15 : lr_Br jX5_isSign 15 (Instr.if_icmp .eq) 48 18 := ⟨33, by decide +kernel, by decide, rfl⟩
theorem a_X5_isSign_18 : lr_ILd jX5_isSign 18 0 19 := Or.inl ⟨0, rfl, by decide +kernel, rfl⟩
theorem a_X5_isSign_19 : lr_IC jX5_isSign 19 43 21 := Or.inr (Or.inl ⟨43, by decide, by decide +kernel, rfl⟩)
theorem a_X5_isSign_21 : lr_Br jX5_isSign 21 (Instr.if_icmp .eq) 48 24 := ⟨27, by decide +kernel, by decide, rfl⟩
theorem a_X5_isSign_24 : lr_ILd jX5_isSign 24 0 25 := Or.inl ⟨0, rfl, by decide +kernel, rfl⟩
theorem a_X5_isSign_25 : lr_IC jX5_isSign 25 45 27 := Or.inr (Or.inl ⟨45, by decide, by decide +kernel, rfl⟩)
theorem a_X5_isSign_27 : lr_Br jX5_isSign 27 (Instr.if_icmp .eq) 48 30 := ⟨21, by decide +kernel, by decide, rfl⟩
theorem a_X5_isSign_30 : lr_ILd jX5_isSign 30 0 31 := Or.inl ⟨0, rfl, by decide +kernel, rfl⟩
theorem a_X5_isSign_31 : lr_IC jX5_isSign 31 42 33 := Or.inr (Or.inl ⟨42, by decide, by decide +kernel, rfl⟩)
theorem a_X5_isSign_33 : lr_Br jX5_isSign 33 (Instr.if_icmp .eq) 48 36 := ⟨15, by decide +kernel, by decide, rfl⟩
theorem a_X5_isSign_36 : lr_ILd jX5_isSign 36 0 37 := Or.inl ⟨0, rfl, by decide +kernel, rfl⟩
theorem a_X5_isSign_37 : lr_IC jX5_isSign 37 60 39 := Or.inr (Or.inl ⟨60, by decide, by decide +kernel, rfl⟩)
theorem a_X5_isSign_39 : lr_Br jX5_isSign 39 (Instr.if_icmp .eq) 48 42 := ⟨9, by decide +kernel, by decide, rfl⟩
theorem a_X5_isSign_42 : lr_ILd jX5_isSign 42 0 43 := Or.inl ⟨0, rfl, by decide +kernel, rfl⟩
theorem a_X5_isSign_43 : lr_IC jX5_isSign 43 61 45 := Or.inr (Or.inl ⟨61, by decide, by decide +kernel, rfl⟩)
theorem a_X5_isSign_45 : lr_Br jX5_isSign 45 (Instr.if_icmp .ne) 52 48 := ⟨7, by decide +kernel, by decide, rfl⟩
theorem a_X5_isSign_48 : lr_IC jX5_isSign 48 1 49 := Or.inl ⟨1, by decide, by decide +kernel, rfl⟩
theorem a_X5_isSign_49 : lr_Br jX5_isSign 49 (Instr.goto) 53 52 := ⟨4, by decide +kernel, by decide, rfl⟩
theorem a_X5_isSign_52 : lr_IC jX5_isSign 52 0 53 := Or.inl ⟨0, by decide, by decide +kernel, rfl⟩
theorem a_X5_isSign_53 : lr_F jX5_isSign 53 (.ireturn) 1 54 := ⟨by decide +kernel, rfl⟩
theorem a_X5_isName_0 : lr_ILd jX5_isName 0 0 1 := Or.inl ⟨0, rfl, by decide +kernel, rfl⟩
theorem a_X5_isName_1 : lr_IC jX5_isName 1 10 3 := Or.inr (Or.inl ⟨10, by decide, by decide +kernel, rfl⟩)
theorem a_X5_isName_3 : lr_Br jX5_isName 3 (Instr.if_icmp .lt) 16 6 := ⟨13, by decide +kernel, by decide, rfl⟩
theorem a_X5_isName_6 : lr_ILd jX5_isName 6 0 7 := Or.inl ⟨0, rfl, by decide +kernel, rfl⟩
theorem a_X5_isName_7 : lr_IC jX5_isName 7 15 9 := Or.inr (Or.inl ⟨15, by decide, by decide +kernel, rfl⟩)
theorem a_X5_isName_9 : lr_Br jX5_isName 9 (Instr.if_icmp .gt) 16 12 := ⟨7, by decide +kernel, by decide, rfl⟩
theorem a_X5_isName_12 : lr_IC jX5_isName 12 1 13 := Or.inl ⟨1, by decide, by decide +kernel, rfl⟩
theorem a_X5_isName_13 : lr_Br jX5_isName 13 (Instr.goto) 17 16 := ⟨4, by decide +kernel, by decide, rfl⟩
theorem a_X5_isName_16 : lr_IC jX5_isName 16 0 17 := Or.inl ⟨0, by decide, by decide +kernel, rfl⟩
theorem a_X5_isName_17 : lr_F jX5_isName 17 (.ireturn) 1 18 := ⟨by decide +kernel, rfl⟩
theorem a_J6_bitCount_0f7a4_0 : lr_ILd jJ6_bitCount_0f7a4 0 0 1 := Or.inl ⟨0, rfl, by decide +kernel, rfl⟩
theorem a_J6_bitCount_0f7a4_1 : lr_ILd jJ6_bitCount_0f7a4 1 0 2 := Or.inl ⟨0, rfl, by decide +kernel, rfl⟩
theorem a_J6_bitCount_0f7a4_2 : lr_IC jJ6_bitCount_0f7a4 2 1 3 := Or.inl ⟨1, by decide, by decide +kernel, rfl⟩
theorem a_J6_bitCount_0f7a4_3 : lr_F jJ6_bitCount_0f7a4 3 (.iushr) 1 4 := ⟨by decide +kernel, rfl⟩
theorem a_J6_bitCount_0f7a4_4 : lr_IC jJ6_bitCount_0f7a4 4 1431655765 7 := Or.inr (Or.inr (Or.inr (Or.inr ⟨265, aw_in (List.mem_of_getElem? (i := 724) (by decide +kernel)) (by decide +kernel), by decide +kernel, rfl⟩)))
theorem a_J6_bitCount_0f7a4_7 : lr_F jJ6_bitCount_0f7a4 7 (.iand) 1 8 := ⟨by decide +kernel, rfl⟩
theorem a_J6_bitCount_0f7a4_8 : lr_F jJ6_bitCount_0f7a4 8 (.isub) 1 9 := ⟨by decide +kernel, rfl⟩
theorem a_J6_bitCount_0f7a4_9 : lr_ISt jJ6_bitCount_0f7a4 9 0 10 := Or.inl ⟨0, rfl, by decide +kernel, rfl⟩
theorem a_J6_bitCount_0f7a4_10 : lr_ILd jJ6_bitCount_0f7a4 10 0 11 := Or.inl ⟨0, rfl, by decide +kernel, rfl⟩
theorem a_J6_bitCount_0f7a4_11 : lr_IC jJ6_bitCount_0f7a4 11 858993459 14 := Or.inr (Or.inr (Or.inr (Or.inr ⟨266, aw_in (List.mem_of_getElem? (i := 725) (by decide +kernel)) (by decide +kernel), by decide +kernel, rfl⟩)))
theorem a_J6_bitCount_0f7a4_14 : lr_F jJ6_bitCount_0f7a4 14 (.iand) 1 15 := ⟨by decide +kernel, rfl⟩
theorem a_J6_bitCount_0f7a4_15 : lr_ILd jJ6_bitCount_0f7a4 15 0 16 := Or.inl ⟨0, rfl, by decide +kernel, rfl⟩
theorem a_J6_bitCount_0f7a4_16 : lr_IC jJ6_bitCount_0f7a4 16 2 17 := Or.inl ⟨2, by decide, by decide +kernel, rfl⟩
theorem a_J6_bitCount_0f7a4_17 : lr_F jJ6_bitCount_0f7a4 17 (.iushr) 1 18 := ⟨by decide +kernel, rfl⟩
theorem a_J6_bitCount_0f7a4_18 : lr_IC jJ6_bitCount_0f7a4 18 858993459 21 := Or.inr (Or.inr (Or.inr (Or.inr ⟨266, aw_in (List.mem_of_getElem? (i := 725) (by decide +kernel)) (by decide +kernel), by decide +kernel, rfl⟩)))
theorem a_J6_bitCount_0f7a4_21 : lr_F jJ6_bitCount_0f7a4 21 (.iand) 1 22 := ⟨by decide +kernel, rfl⟩
theorem a_J6_bitCount_0f7a4_22 : lr_F jJ6_bitCount_0f7a4 22 (.iadd) 1 23 := ⟨by decide +kernel, rfl⟩
theorem a_J6_bitCount_0f7a4_23 : lr_ISt jJ6_bitCount_0f7a4 23 0 24 := Or.inl ⟨0, rfl, by decide +kernel, rfl⟩
theorem a_J6_bitCount_0f7a4_24 : lr_ILd jJ6_bitCount_0f7a4 24 0 25 := Or.inl ⟨0, rfl, by decide +kernel, rfl⟩
theorem a_J6_bitCount_0f7a4_25 : lr_ILd jJ6_bitCount_0f7a4 25 0 26 := Or.inl ⟨0, rfl, by decide +kernel, rfl⟩
theorem a_J6_bitCount_0f7a4_26 : lr_IC jJ6_bitCount_0f7a4 26 4 27 := Or.inl ⟨4, by decide, by decide +kernel, rfl⟩
theorem a_J6_bitCount_0f7a4_27 : lr_F jJ6_bitCount_0f7a4 27 (.iushr) 1 28 := ⟨by decide +kernel, rfl⟩
theorem a_J6_bitCount_0f7a4_28 : lr_F jJ6_bitCount_0f7a4 28 (.iadd) 1 29 := ⟨by decide +kernel, rfl⟩
theorem a_J6_bitCount_0f7a4_29 : lr_IC jJ6_bitCount_0f7a4 29 252645135 32 := Or.inr (Or.inr (Or.inr (Or.inr ⟨267, aw_in (List.mem_of_getElem? (i := 726) (by decide +kernel)) (by decide +kernel), by decide +kernel, rfl⟩)))
theorem a_J6_bitCount_0f7a4_32 : lr_F jJ6_bitCount_0f7a4 32 (.iand) 1 33 := ⟨by decide +kernel, rfl⟩
theorem a_J6_bitCount_0f7a4_33 : lr_ISt jJ6_bitCount_0f7a4 33 0 34 := Or.inl ⟨0, rfl, by decide +kernel, rfl⟩
theorem a_J6_bitCount_0f7a4_34 : lr_ILd jJ6_bitCount_0f7a4 34 0 35 := Or.inl ⟨0, rfl, by decide +kernel, rfl⟩
theorem a_J6_bitCount_0f7a4_35 : lr_ILd jJ6_bitCount_0f7a4 35 0 36 := Or.inl ⟨0, rfl, by decide +kernel, rfl⟩
theorem a_J6_bitCount_0f7a4_36 : lr_IC jJ6_bitCount_0f7a4 36 8 38 := Or.inr (Or.inl ⟨8, by decide, by decide +kernel, rfl⟩)
theorem a_J6_bitCount_0f7a4_38 : lr_F jJ6_bitCount_0f7a4 38 (.iushr) 1 39 := ⟨by decide +kernel, rfl⟩
theorem a_J6_bitCount_0f7a4_39 : lr_F jJ6_bitCount_0f7a4 39 (.iadd) 1 40 := ⟨by decide +kernel, rfl⟩
theorem a_J6_bitCount_0f7a4_40 : lr_ISt jJ6_bitCount_0f7a4 40 0 41 := Or.inl ⟨0, rfl, by decide +kernel, rfl⟩
theorem a_J6_bitCount_0f7a4_41 : lr_ILd jJ6_bitCount_0f7a4 41 0 42 := Or.inl ⟨0, rfl, by decide +kernel, rfl⟩
theorem a_J6_bitCount_0f7a4_42 : lr_ILd jJ6_bitCount_0f7a4 42 0 43 := Or.inl ⟨0, rfl, by decide +kernel, rfl⟩
theorem a_J6_bitCount_0f7a4_43 : lr_IC jJ6_bitCount_0f7a4 43 16 45 := Or.inr (Or.inl ⟨16, by decide, by decide +kernel, rfl⟩)
theorem a_J6_bitCount_0f7a4_45 : lr_F jJ6_bitCount_0f7a4 45 (.iushr) 1 46 := ⟨by decide +kernel, rfl⟩
theorem a_J6_bitCount_0f7a4_46 : lr_F jJ6_bitCount_0f7a4 46 (.iadd) 1 47 := ⟨by decide +kernel, rfl⟩
theorem a_J6_bitCount_0f7a4_47 : lr_ISt jJ6_bitCount_0f7a4 47 0 48 := Or.inl ⟨0, rfl, by decide +kernel, rfl⟩
theorem a_J6_bitCount_0f7a4_48 : lr_ILd jJ6_bitCount_0f7a4 48 0 49 := Or.inl ⟨0, rfl, by decide +kernel, rfl⟩
theorem a_J6_bitCount_0f7a4_49 : lr_IC jJ6_bitCount_0f7a4 49 63 51 := Or.inr (Or.inl ⟨63, by decide, by decide +kernel, rfl⟩)
theorem a_J6_bitCount_0f7a4_51 : lr_F jJ6_bitCount_0f7a4 51 (.iand) 1 52 := ⟨by decide +kernel, rfl⟩
theorem a_J6_bitCount_0f7a4_52 : lr_F jJ6_bitCount_0f7a4 52 (.ireturn) 1 53 := ⟨by decide +kernel, rfl⟩
theorem a_J9_max_7cf53_0 : lr_ILd jJ9_max_7cf53 0 0 1 := Or.inl ⟨0, rfl, by decide +kernel, rfl⟩
theorem a_J9_max_7cf53_1 : lr_ILd jJ9_max_7cf53 1 1 2 := Or.inl ⟨1, rfl, by decide +kernel, rfl⟩
theorem a_J9_max_7cf53_2 : lr_Br jJ9_max_7cf53 2 (Instr.if_icmp .lt) 9 5 := ⟨7, by decide +kernel, by decide, rfl⟩
theorem a_J9_max_7cf53_5 : lr_ILd jJ9_max_7cf53 5 0 6 := Or.inl ⟨0, rfl, by decide +kernel, rfl⟩
theorem a_J9_max_7cf53_6 : lr_Br jJ9_max_7cf53 6 (Instr.goto) 10 9 := ⟨4, by decide +kernel, by decide, rfl⟩
theorem a_J9_max_7cf53_9 : lr_ILd jJ9_max_7cf53 9 1 10 := Or.inl ⟨1, rfl, by decide +kernel, rfl⟩
theorem a_J9_max_7cf53_10 : lr_F jJ9_max_7cf53 10 (.ireturn) 1 11 := ⟨by decide +kernel, rfl⟩
theorem a_J9_min_7cf53_0 : lr_ILd jJ9_min_7cf53 0 0 1 := Or.inl ⟨0, rfl, by decide +kernel, rfl⟩
theorem a_J9_min_7cf53_1 : lr_ILd jJ9_min_7cf53 1 1 2 := Or.inl ⟨1, rfl, by decide +kernel, rfl⟩
theorem a_J9_min_7cf53_2 : lr_Br jJ9_min_7cf53 2 (Instr.if_icmp .gt) 9 5 := ⟨7, by decide +kernel, by decide, rfl⟩
theorem a_J9_min_7cf53_5 : lr_ILd jJ9_min_7cf53 5 0 6 := Or.inl ⟨0, rfl, by decide +kernel, rfl⟩
theorem a_J9_min_7cf53_6 : lr_Br jJ9_min_7cf53 6 (Instr.goto) 10 9 := ⟨4, by decide +kernel, by decide, rfl⟩
theorem a_J9_min_7cf53_9 : lr_ILd jJ9_min_7cf53 9 1 10 := Or.inl ⟨1, rfl, by decide +kernel, rfl⟩
theorem a_J9_min_7cf53_10 : lr_F jJ9_min_7cf53 10 (.ireturn) 1 11 := ⟨by decide +kernel, rfl⟩
theorem a_J0_length_8abf5_0 : lr_ALd jJ0_length_8abf5 0 0 1 := Or.inl ⟨0, rfl, by decide +kernel, rfl⟩
theorem a_J0_length_8abf5_1 : lr_F jJ0_length_8abf5 1 (.getfield 9) 3 4 := ⟨by decide +kernel, rfl⟩
theorem a_J0_length_8abf5_4 : lr_F jJ0_length_8abf5 4 (.arraylength) 1 5 := ⟨by decide +kernel, rfl⟩
theorem a_J0_length_8abf5_5 : lr_ALd jJ0_length_8abf5 5 0 6 := Or.inl ⟨0, rfl, by decide +kernel, rfl⟩
theorem a_J0_length_8abf5_6 : lr_F jJ0_length_8abf5 6 (.invokevirtual 335) 3 9 := ⟨by decide +kernel, rfl⟩
theorem a_J0_length_8abf5_9 : lr_F jJ0_length_8abf5 9 (.ishr) 1 10 := ⟨by decide +kernel, rfl⟩
theorem a_J0_length_8abf5_10 : lr_F jJ0_length_8abf5 10 (.ireturn) 1 11 := ⟨by decide +kernel, rfl⟩
theorem a_J0_charAt_5068e_0 : lr_ALd jJ0_charAt_5068e 0 0 1 := Or.inl ⟨0, rfl, by decide +kernel, rfl⟩
theorem a_J0_charAt_5068e_1 : lr_F jJ0_charAt_5068e 1 (.invokevirtual 492) 3 4 := ⟨by decide +kernel, rfl⟩
theorem a_J0_charAt_5068e_4 : lr_Br jJ0_charAt_5068e 4 (Instr.ifCond .eq) 16 7 := ⟨12, by decide +kernel, by decide, rfl⟩
theorem a_J0_charAt_5068e_7 : lr_ALd jJ0_charAt_5068e 7 0 8 := Or.inl ⟨0, rfl, by decide +kernel, rfl⟩
theorem a_J0_charAt_5068e_8 : lr_F jJ0_charAt_5068e 8 (.getfield 9) 3 11 := ⟨by decide +kernel, rfl⟩
theorem a_J0_charAt_5068e_11 : lr_ILd jJ0_charAt_5068e 11 1 12 := Or.inl ⟨1, rfl, by decide +kernel, rfl⟩
theorem a_J0_charAt_5068e_12 : lr_F jJ0_charAt_5068e 12 (.invokestatic 495) 3 15 := ⟨by decide +kernel, rfl⟩
theorem a_J0_charAt_5068e_15 : lr_F jJ0_charAt_5068e 15 (.ireturn) 1 16 := ⟨by decide +kernel, rfl⟩
theorem a_J0_charAt_5068e_16 : lr_ALd jJ0_charAt_5068e 16 0 17 := Or.inl ⟨0, rfl, by decide +kernel, rfl⟩
theorem a_J0_charAt_5068e_17 : lr_F jJ0_charAt_5068e 17 (.getfield 9) 3 20 := ⟨by decide +kernel, rfl⟩
theorem a_J0_charAt_5068e_20 : lr_ILd jJ0_charAt_5068e 20 1 21 := Or.inl ⟨1, rfl, by decide +kernel, rfl⟩
theorem a_J0_charAt_5068e_21 : lr_F jJ0_charAt_5068e 21 (.invokestatic 498) 3 24 := ⟨by decide +kernel, rfl⟩
theorem a_J0_charAt_5068e_24 : lr_F jJ0_charAt_5068e 24 (.ireturn) 1 25 := ⟨by decide +kernel, rfl⟩
theorem a_J0_coder_7d493_0 : lr_F jJ0_coder_7d493 0 (.getstatic 38) 3 3 := ⟨by decide +kernel, rfl⟩
theorem a_J0_coder_7d493_3 : lr_Br jJ0_coder_7d493 3 (Instr.ifCond .eq) 13 6 := ⟨10, by decide +kernel, by decide, rfl⟩
theorem a_J0_coder_7d493_6 : lr_ALd jJ0_coder_7d493 6 0 7 := Or.inl ⟨0, rfl, by decide +kernel, rfl⟩
theorem a_J0_coder_7d493_7 : lr_F jJ0_coder_7d493 7 (.getfield 15) 3 10 := ⟨by decide +kernel, rfl⟩
theorem a_J0_coder_7d493_10 : lr_Br jJ0_coder_7d493 10 (Instr.goto) 14 13 := ⟨4, by decide +kernel, by decide, rfl⟩
theorem a_J0_coder_7d493_13 : lr_IC jJ0_coder_7d493 13 1 14 := Or.inl ⟨1, by decide, by decide +kernel, rfl⟩
theorem a_J0_coder_7d493_14 : lr_F jJ0_coder_7d493 14 (.ireturn) 1 15 := ⟨by decide +kernel, rfl⟩
theorem a_J0_isLatin1_aae02_0 : lr_F jJ0_isLatin1_aae02 0 (.getstatic 38) 3 3 := ⟨by decide +kernel, rfl⟩
theorem a_J0_isLatin1_aae02_3 : lr_Br jJ0_isLatin1_aae02 3 (Instr.ifCond .eq) 17 6 := ⟨14, by decide +kernel, by decide, rfl⟩
theorem a_J0_isLatin1_aae02_6 : lr_ALd jJ0_isLatin1_aae02 6 0 7 := Or.inl ⟨0, rfl, by decide +kernel, rfl⟩
theorem a_J0_isLatin1_aae02_7 : lr_F jJ0_isLatin1_aae02 7 (.getfield 15) 3 10 := ⟨by decide +kernel, rfl⟩
theorem a_J0_isLatin1_aae02_10 : lr_Br jJ0_isLatin1_aae02 10 (Instr.ifCond .ne) 17 13 := ⟨7, by decide +kernel, by decide, rfl⟩
theorem a_J0_isLatin1_aae02_13 : lr_IC jJ0_isLatin1_aae02 13 1 14 := Or.inl ⟨1, by decide, by decide +kernel, rfl⟩
theorem a_J0_isLatin1_aae02_14 : lr_Br jJ0_isLatin1_aae02 14 (Instr.goto) 18 17 := ⟨4, by decide +kernel, by decide, rfl⟩
theorem a_J0_isLatin1_aae02_17 : lr_IC jJ0_isLatin1_aae02 17 0 18 := Or.inl ⟨0, by decide, by decide +kernel, rfl⟩
theorem a_J0_isLatin1_aae02_18 : lr_F jJ0_isLatin1_aae02 18 (.ireturn) 1 19 := ⟨by decide +kernel, rfl⟩
theorem a_J0_checkIndex_df160_0 : lr_ILd jJ0_checkIndex_df160 0 0 1 := Or.inl ⟨0, rfl, by decide +kernel, rfl⟩
theorem a_J0_checkIndex_df160_1 : lr_ILd jJ0_checkIndex_df160 1 1 2 := Or.inl ⟨1, rfl, by decide +kernel, rfl⟩
theorem a_J0_checkIndex_df160_2 : lr_F jJ0_checkIndex_df160 2 (.getstatic 1053) 3 5 := ⟨by decide +kernel, rfl⟩
theorem a_J0_checkIndex_df160_5 : lr_F jJ0_checkIndex_df160 5 (.invokestatic 1059) 3 8 := ⟨by decide +kernel, rfl⟩
theorem a_J0_checkIndex_df160_8 : lr_F jJ0_checkIndex_df160 8 (.pop) 1 9 := ⟨by decide +kernel, rfl⟩
theorem a_J0_checkIndex_df160_9 : lr_F jJ0_checkIndex_df160 9 (.return_) 1 10 := ⟨by decide +kernel, rfl⟩
theorem a_J1_charAt_3b067_0 : lr_ILd jJ1_charAt_3b067 0 1 1 := Or.inl ⟨1, rfl, by decide +kernel, rfl⟩
theorem a_J1_charAt_3b067_1 : lr_ALd jJ1_charAt_3b067 1 0 2 := Or.inl ⟨0, rfl, by decide +kernel, rfl⟩
theorem a_J1_charAt_3b067_2 : lr_F jJ1_charAt_3b067 2 (.arraylength) 1 3 := ⟨by decide +kernel, rfl⟩
theorem a_J1_charAt_3b067_3 : lr_F jJ1_charAt_3b067 3 (.invokestatic 9) 3 6 := ⟨by decide +kernel, rfl⟩
theorem a_J1_charAt_3b067_6 : lr_ALd jJ1_charAt_3b067 6 0 7 := Or.inl ⟨0, rfl, by decide +kernel, rfl⟩
theorem a_J1_charAt_3b067_7 : lr_ILd jJ1_charAt_3b067 7 1 8 := Or.inl ⟨1, rfl, by decide +kernel, rfl⟩
theorem a_J1_charAt_3b067_8 : lr_F jJ1_charAt_3b067 8 (.baload) 1 9 := ⟨by decide +kernel, rfl⟩
theorem a_J1_charAt_3b067_9 : lr_IC jJ1_charAt_3b067 9 255 12 := Or.inr (Or.inr (Or.inl ⟨255, by decide, by decide +kernel, rfl⟩))
theorem a_J1_charAt_3b067_12 : lr_F jJ1_charAt_3b067 12 (.iand) 1 13 := ⟨by decide +kernel, rfl⟩
theorem a_J1_charAt_3b067_13 : lr_F jJ1_charAt_3b067 13 (.i2c) 1 14 := ⟨by decide +kernel, rfl⟩
theorem a_J1_charAt_3b067_14 : lr_F jJ1_charAt_3b067 14 (.ireturn) 1 15 := ⟨by decide +kernel, rfl⟩
theorem a_J2_getChar_3b067_0 : lr_F jJ2_getChar_3b067 0 (.getstatic 44) 3 3 := ⟨by decide +kernel, rfl⟩
theorem a_J2_getChar_3b067_3 : lr_Br jJ2_getChar_3b067 3 (Instr.ifCond .ne) 28 6 := ⟨25, by decide +kernel, by decide, rfl⟩
theorem a_J2_getChar_3b067_6 : lr_ILd jJ2_getChar_3b067 6 1 7 := Or.inl ⟨1, rfl, by decide +kernel, rfl⟩
theorem a_J2_getChar_3b067_7 : lr_Br jJ2_getChar_3b067 7 (Instr.ifCond .lt) 18 10 := ⟨11, by decide +kernel, by decide, rfl⟩
theorem a_J2_getChar_3b067_10 : lr_ILd jJ2_getChar_3b067 10 1 11 := Or.inl ⟨1, rfl, by decide +kernel, rfl⟩
theorem a_J2_getChar_3b067_11 : lr_ALd jJ2_getChar_3b067 11 0 12 := Or.inl ⟨0, rfl, by decide +kernel, rfl⟩
theorem a_J2_getChar_3b067_12 : lr_F jJ2_getChar_3b067 12 (.invokestatic 48) 3 15 := ⟨by decide +kernel, rfl⟩
theorem a_J2_getChar_3b067_15 : lr_Br jJ2_getChar_3b067 15 (Instr.if_icmp .lt) 28 18 := ⟨13, by decide +kernel, by decide, rfl⟩
theorem a_J2_getChar_3b067_18 : lr_F jJ2_getChar_3b067 18 (.new 52) 3 21 := ⟨by decide +kernel, rfl⟩
theorem a_J2_getChar_3b067_21 : lr_F jJ2_getChar_3b067 21 (.dup) 1 22 := ⟨by decide +kernel, rfl⟩
theorem a_J2_getChar_3b067_22 : lr_F jJ2_getChar_3b067 22 (.ldc 54) 2 24 := ⟨by decide +kernel, rfl⟩
theorem a_J2_getChar_3b067_24 : lr_F jJ2_getChar_3b067 24 (.invokespecial 56) 3 27 := ⟨by decide +kernel, rfl⟩
theorem a_J2_getChar_3b067_27 : lr_F jJ2_getChar_3b067 27 (.athrow) 1 28 := ⟨by decide +kernel, rfl⟩
theorem a_J2_getChar_3b067_28 : lr_ILd jJ2_getChar_3b067 28 1 29 := Or.inl ⟨1, rfl, by decide +kernel, rfl⟩
theorem a_J2_getChar_3b067_29 : lr_IC jJ2_getChar_3b067 29 1 30 := Or.inl ⟨1, by decide, by decide +kernel, rfl⟩
theorem a_J2_getChar_3b067_30 : lr_F jJ2_getChar_3b067 30 (.ishl) 1 31 := ⟨by decide +kernel, rfl⟩
theorem a_J2_getChar_3b067_31 : lr_ISt jJ2_getChar_3b067 31 1 32 := Or.inl ⟨1, rfl, by decide +kernel, rfl⟩
theorem a_J2_getChar_3b067_32 : lr_ALd jJ2_getChar_3b067 32 0 33 := Or.inl ⟨0, rfl, by decide +kernel, rfl⟩
theorem a_J2_getChar_3b067_33 : lr_ILd jJ2_getChar_3b067 33 1 34 := Or.inl ⟨1, rfl, by decide +kernel, rfl⟩
theorem a_J2_getChar_3b067_34 : lr_F jJ2_getChar_3b067 34 (.iinc 1 1) 3 37 := ⟨by decide +kernel, rfl⟩
theorem a_J2_getChar_3b067_37 : lr_F jJ2_getChar_3b067 37 (.baload) 1 38 := ⟨by decide +kernel, rfl⟩
theorem a_J2_getChar_3b067_38 : lr_IC jJ2_getChar_3b067 38 255 41 := Or.inr (Or.inr (Or.inl ⟨255, by decide, by decide +kernel, rfl⟩))
theorem a_J2_getChar_3b067_41 : lr_F jJ2_getChar_3b067 41 (.iand) 1 42 := ⟨by decide +kernel, rfl⟩
theorem a_J2_getChar_3b067_42 : lr_F jJ2_getChar_3b067 42 (.getstatic 59) 3 45 := ⟨by decide +kernel, rfl⟩
theorem a_J2_getChar_3b067_45 : lr_F jJ2_getChar_3b067 45 (.ishl) 1 46 := ⟨by decide +kernel, rfl⟩
theorem a_J2_getChar_3b067_46 : lr_ALd jJ2_getChar_3b067 46 0 47 := Or.inl ⟨0, rfl, by decide +kernel, rfl⟩
theorem a_J2_getChar_3b067_47 : lr_ILd jJ2_getChar_3b067 47 1 48 := Or.inl ⟨1, rfl, by decide +kernel, rfl⟩
theorem a_J2_getChar_3b067_48 : lr_F jJ2_getChar_3b067 48 (.baload) 1 49 := ⟨by decide +kernel, rfl⟩
theorem a_J2_getChar_3b067_49 : lr_IC jJ2_getChar_3b067 49 255 52 := Or.inr (Or.inr (Or.inl ⟨255, by decide, by decide +kernel, rfl⟩))
theorem a_J2_getChar_3b067_52 : lr_F jJ2_getChar_3b067 52 (.iand) 1 53 := ⟨by decide +kernel, rfl⟩
theorem a_J2_getChar_3b067_53 : lr_F jJ2_getChar_3b067 53 (.getstatic 63) 3 56 := ⟨by decide +kernel, rfl⟩
theorem a_J2_getChar_3b067_56 : lr_F jJ2_getChar_3b067 56 (.ishl) 1 57 := ⟨by decide +kernel, rfl⟩
theorem a_J2_getChar_3b067_57 : lr_F jJ2_getChar_3b067 57 (.ior) 1 58 := ⟨by decide +kernel, rfl⟩
theorem a_J2_getChar_3b067_58 : lr_F jJ2_getChar_3b067 58 (.i2c) 1 59 := ⟨by decide +kernel, rfl⟩
theorem a_J2_getChar_3b067_59 : lr_F jJ2_getChar_3b067 59 (.ireturn) 1 60 := ⟨by decide +kernel, rfl⟩
theorem a_J2_length_9d52b_0 : lr_ALd jJ2_length_9d52b 0 0 1 := Or.inl ⟨0, rfl, by decide +kernel, rfl⟩
theorem a_J2_length_9d52b_1 : lr_F jJ2_length_9d52b 1 (.arraylength) 1 2 := ⟨by decide +kernel, rfl⟩
theorem a_J2_length_9d52b_2 : lr_IC jJ2_length_9d52b 2 1 3 := Or.inl ⟨1, by decide, by decide +kernel, rfl⟩
theorem a_J2_length_9d52b_3 : lr_F jJ2_length_9d52b 3 (.ishr) 1 4 := ⟨by decide +kernel, rfl⟩
theorem a_J2_length_9d52b_4 : lr_F jJ2_length_9d52b 4 (.ireturn) 1 5 := ⟨by decide +kernel, rfl⟩
theorem a_J2_charAt_3b067_0 : lr_ILd jJ2_charAt_3b067 0 1 1 := Or.inl ⟨1, rfl, by decide +kernel, rfl⟩
theorem a_J2_charAt_3b067_1 : lr_ALd jJ2_charAt_3b067 1 0 2 := Or.inl ⟨0, rfl, by decide +kernel, rfl⟩
theorem a_J2_charAt_3b067_2 : lr_F jJ2_charAt_3b067 2 (.invokestatic 67) 3 5 := ⟨by decide +kernel, rfl⟩
theorem a_J2_charAt_3b067_5 : lr_ALd jJ2_charAt_3b067 5 0 6 := Or.inl ⟨0, rfl, by decide +kernel, rfl⟩
theorem a_J2_charAt_3b067_6 : lr_ILd jJ2_charAt_3b067 6 1 7 := Or.inl ⟨1, rfl, by decide +kernel, rfl⟩
theorem a_J2_charAt_3b067_7 : lr_F jJ2_charAt_3b067 7 (.invokestatic 71) 3 10 := ⟨by decide +kernel, rfl⟩
theorem a_J2_charAt_3b067_10 : lr_F jJ2_charAt_3b067 10 (.ireturn) 1 11 := ⟨by decide +kernel, rfl⟩
theorem a_J2_checkIndex_2214a_0 : lr_ILd jJ2_checkIndex_2214a 0 0 1 := Or.inl ⟨0, rfl, by decide +kernel, rfl⟩
theorem a_J2_checkIndex_2214a_1 : lr_ALd jJ2_checkIndex_2214a 1 1 2 := Or.inl ⟨1, rfl, by decide +kernel, rfl⟩
theorem a_J2_checkIndex_2214a_2 : lr_F jJ2_checkIndex_2214a 2 (.invokestatic 48) 3 5 := ⟨by decide +kernel, rfl⟩
theorem a_J2_checkIndex_2214a_5 : lr_F jJ2_checkIndex_2214a 5 (.invokestatic 414) 3 8 := ⟨by decide +kernel, rfl⟩
theorem a_J2_checkIndex_2214a_8 : lr_F jJ2_checkIndex_2214a 8 (.return_) 1 9 := ⟨by decide +kernel, rfl⟩
theorem a_J7_fill_53178_0 : lr_IC jJ7_fill_53178 0 0 1 := Or.inl ⟨0, by decide, by decide +kernel, rfl⟩
theorem a_J7_fill_53178_1 : lr_ISt jJ7_fill_53178 1 2 2 := Or.inl ⟨2, rfl, by decide +kernel, rfl⟩
theorem a_J7_fill_53178_2 : lr_ALd jJ7_fill_53178 2 0 3 := Or.inl ⟨0, rfl, by decide +kernel, rfl⟩
theorem a_J7_fill_53178_3 : lr_F jJ7_fill_53178 3 (.arraylength) 1 4 := ⟨by decide +kernel, rfl⟩
theorem a_J7_fill_53178_4 : lr_ISt jJ7_fill_53178 4 3 5 := Or.inl ⟨3, rfl, by decide +kernel, rfl⟩
theorem a_J7_fill_53178_5 : lr_ILd jJ7_fill_53178 5 2 6 := Or.inl ⟨2, rfl, by decide +kernel, rfl⟩
theorem a_J7_fill_53178_6 : lr_ILd jJ7_fill_53178 6 3 7 := Or.inl ⟨3, rfl, by decide +kernel, rfl⟩
theorem a_J7_fill_53178_7 : lr_Br jJ7_fill_53178 7 (Instr.if_icmp .ge) 20 10 := ⟨13, by decide +kernel, by decide, rfl⟩
theorem a_J7_fill_53178_10 : lr_ALd jJ7_fill_53178 10 0 11 := Or.inl ⟨0, rfl, by decide +kernel, rfl⟩
theorem a_J7_fill_53178_11 : lr_ILd jJ7_fill_53178 11 2 12 := Or.inl ⟨2, rfl, by decide +kernel, rfl⟩
theorem a_J7_fill_53178_12 : lr_ILd jJ7_fill_53178 12 1 13 := Or.inl ⟨1, rfl, by decide +kernel, rfl⟩
theorem a_J7_fill_53178_13 : lr_F jJ7_fill_53178 13 (.iastore) 1 14 := ⟨by decide +kernel, rfl⟩
theorem a_J7_fill_53178_14 : lr_F jJ7_fill_53178 14 (.iinc 2 1) 3 17 := ⟨by decide +kernel, rfl⟩
theorem a_J7_fill_53178_17 : lr_Br jJ7_fill_53178 17 (Instr.goto) 5 20 := ⟨(-12), by decide +kernel, by decide, rfl⟩
theorem a_J7_fill_53178_20 : lr_F jJ7_fill_53178 20 (.return_) 1 21 := ⟨by decide +kernel, rfl⟩
theorem a_J3_checkIndex_8e157_0 : lr_ILd jJ3_checkIndex_8e157 0 0 1 := Or.inl ⟨0, rfl, by decide +kernel, rfl⟩
theorem a_J3_checkIndex_8e157_1 : lr_Br jJ3_checkIndex_8e157 1 (Instr.ifCond .lt) 9 4 := ⟨8, by decide +kernel, by decide, rfl⟩
theorem a_J3_checkIndex_8e157_4 : lr_ILd jJ3_checkIndex_8e157 4 0 5 := Or.inl ⟨0, rfl, by decide +kernel, rfl⟩
theorem a_J3_checkIndex_8e157_5 : lr_ILd jJ3_checkIndex_8e157 5 1 6 := Or.inl ⟨1, rfl, by decide +kernel, rfl⟩
theorem a_J3_checkIndex_8e157_6 : lr_Br jJ3_checkIndex_8e157 6 (Instr.if_icmp .lt) 16 9 := ⟨10, by decide +kernel, by decide, rfl⟩
theorem a_J3_checkIndex_8e157_9 : lr_ALd jJ3_checkIndex_8e157 9 2 10 := Or.inl ⟨2, rfl, by decide +kernel, rfl⟩
theorem a_J3_checkIndex_8e157_10 : lr_ILd jJ3_checkIndex_8e157 10 0 11 := Or.inl ⟨0, rfl, by decide +kernel, rfl⟩
theorem a_J3_checkIndex_8e157_11 : lr_ILd jJ3_checkIndex_8e157 11 1 12 := Or.inl ⟨1, rfl, by decide +kernel, rfl⟩
theorem a_J3_checkIndex_8e157_12 : lr_F jJ3_checkIndex_8e157 12 (.invokestatic 95) 3 15 := ⟨by decide +kernel, rfl⟩
theorem a_J3_checkIndex_8e157_15 : lr_F jJ3_checkIndex_8e157 15 (.athrow) 1 16 := ⟨by decide +kernel, rfl⟩
theorem a_J3_checkIndex_8e157_16 : lr_ILd jJ3_checkIndex_8e157 16 0 17 := Or.inl ⟨0, rfl, by decide +kernel, rfl⟩
theorem a_J3_checkIndex_8e157_17 : lr_F jJ3_checkIndex_8e157 17 (.ireturn) 1 18 := ⟨by decide +kernel, rfl⟩
theorem fs_J0_9 : Cond.fieldLink RJ0 9 "java/lang/String" "value" "[B" ∈ AW := aw_in (List.mem_of_getElem? (i := 1253) (by decide +kernel)) (by decide +kernel)
theorem fs_J0_15 : Cond.fieldLink RJ0 15 "java/lang/String" "coder" "B" ∈ AW := aw_in (List.mem_of_getElem? (i := 1254) (by decide +kernel)) (by decide +kernel)
theorem fl_X0_9 : lr_FL RX0 9 0 0 := ⟨(RX0, TX0, 10), rfl, by decide, Or.inl (aw_in (List.mem_of_getElem? (i := 117) (by decide +kernel)) (by decide +kernel))⟩
theorem fl_X0_15 : lr_FL RX0 15 0 1 := ⟨(RX0, TX0, 10), rfl, by decide, Or.inl (aw_in (List.mem_of_getElem? (i := 119) (by decide +kernel)) (by decide +kernel))⟩
theorem fl_X0_18 : lr_FL RX0 18 0 2 := ⟨(RX0, TX0, 10), rfl, by decide, Or.inl (aw_in (List.mem_of_getElem? (i := 122) (by decide +kernel)) (by decide +kernel))⟩
theorem fl_X0_21 : lr_FL RX0 21 0 3 := ⟨(RX0, TX0, 10), rfl, by decide, Or.inl (aw_in (List.mem_of_getElem? (i := 125) (by decide +kernel)) (by decide +kernel))⟩
theorem fl_X0_24 : lr_FL RX0 24 0 4 := ⟨(RX0, TX0, 10), rfl, by decide, Or.inl (aw_in (List.mem_of_getElem? (i := 128) (by decide +kernel)) (by decide +kernel))⟩
theorem fl_X0_27 : lr_FL RX0 27 0 5 := ⟨(RX0, TX0, 10), rfl, by decide, Or.inl (aw_in (List.mem_of_getElem? (i := 130) (by decide +kernel)) (by decide +kernel))⟩
theorem fl_X0_30 : lr_FL RX0 30 0 6 := ⟨(RX0, TX0, 10), rfl, by decide, Or.inl (aw_in (List.mem_of_getElem? (i := 132) (by decide +kernel)) (by decide +kernel))⟩
theorem fl_X0_34 : lr_FL RX0 34 0 7 := ⟨(RX0, TX0, 10), rfl, by decide, Or.inl (aw_in (List.mem_of_getElem? (i := 134) (by decide +kernel)) (by decide +kernel))⟩
theorem fl_X0_37 : lr_FL RX0 37 0 8 := ⟨(RX0, TX0, 10), rfl, by decide, Or.inl (aw_in (List.mem_of_getElem? (i := 137) (by decide +kernel)) (by decide +kernel))⟩
theorem fl_X0_40 : lr_FL RX0 40 0 9 := ⟨(RX0, TX0, 10), rfl, by decide, Or.inl (aw_in (List.mem_of_getElem? (i := 140) (by decide +kernel)) (by decide +kernel))⟩
theorem fl_X1_9 : lr_FL RX1 9 1 0 := ⟨(RX1, TX1, 4), rfl, by decide, Or.inl (aw_in (List.mem_of_getElem? (i := 210) (by decide +kernel)) (by decide +kernel))⟩
theorem fl_X1_15 : lr_FL RX1 15 1 1 := ⟨(RX1, TX1, 4), rfl, by decide, Or.inl (aw_in (List.mem_of_getElem? (i := 211) (by decide +kernel)) (by decide +kernel))⟩
theorem fl_X1_18 : lr_FL RX1 18 1 2 := ⟨(RX1, TX1, 4), rfl, by decide, Or.inl (aw_in (List.mem_of_getElem? (i := 212) (by decide +kernel)) (by decide +kernel))⟩
theorem fl_X1_21 : lr_FL RX1 21 1 3 := ⟨(RX1, TX1, 4), rfl, by decide, Or.inl (aw_in (List.mem_of_getElem? (i := 213) (by decide +kernel)) (by decide +kernel))⟩
theorem fl_X1_39 : lr_FL RX1 39 0 2 := ⟨(RX0, TX0, 10), rfl, by decide, Or.inr ⟨"LadderOfRescued", aw_in (List.mem_of_getElem? (i := 123) (by decide +kernel)) (by decide +kernel)⟩⟩
theorem fl_X1_44 : lr_FL RX1 44 0 3 := ⟨(RX0, TX0, 10), rfl, by decide, Or.inr ⟨"LadderOfRescued", aw_in (List.mem_of_getElem? (i := 126) (by decide +kernel)) (by decide +kernel)⟩⟩
theorem fl_X1_47 : lr_FL RX1 47 0 8 := ⟨(RX0, TX0, 10), rfl, by decide, Or.inr ⟨"LadderOfRescued", aw_in (List.mem_of_getElem? (i := 139) (by decide +kernel)) (by decide +kernel)⟩⟩
theorem fl_X1_50 : lr_FL RX1 50 0 7 := ⟨(RX0, TX0, 10), rfl, by decide, Or.inr ⟨"LadderOfRescued", aw_in (List.mem_of_getElem? (i := 136) (by decide +kernel)) (by decide +kernel)⟩⟩
theorem fl_X1_53 : lr_FL RX1 53 0 1 := ⟨(RX0, TX0, 10), rfl, by decide, Or.inr ⟨"LadderOfRescued", aw_in (List.mem_of_getElem? (i := 120) (by decide +kernel)) (by decide +kernel)⟩⟩
theorem fl_X2_9 : lr_FL RX2 9 2 0 := ⟨(RX2, TX2, 8), rfl, by decide, Or.inl (aw_in (List.mem_of_getElem? (i := 247) (by decide +kernel)) (by decide +kernel))⟩
theorem fl_X2_15 : lr_FL RX2 15 2 1 := ⟨(RX2, TX2, 8), rfl, by decide, Or.inl (aw_in (List.mem_of_getElem? (i := 248) (by decide +kernel)) (by decide +kernel))⟩
theorem fl_X2_19 : lr_FL RX2 19 2 2 := ⟨(RX2, TX2, 8), rfl, by decide, Or.inl (aw_in (List.mem_of_getElem? (i := 250) (by decide +kernel)) (by decide +kernel))⟩
theorem fl_X2_24 : lr_FL RX2 24 2 3 := ⟨(RX2, TX2, 8), rfl, by decide, Or.inl (aw_in (List.mem_of_getElem? (i := 251) (by decide +kernel)) (by decide +kernel))⟩
theorem fl_X2_27 : lr_FL RX2 27 2 4 := ⟨(RX2, TX2, 8), rfl, by decide, Or.inl (aw_in (List.mem_of_getElem? (i := 252) (by decide +kernel)) (by decide +kernel))⟩
theorem fl_X2_30 : lr_FL RX2 30 2 5 := ⟨(RX2, TX2, 8), rfl, by decide, Or.inl (aw_in (List.mem_of_getElem? (i := 253) (by decide +kernel)) (by decide +kernel))⟩
theorem fl_X2_33 : lr_FL RX2 33 2 6 := ⟨(RX2, TX2, 8), rfl, by decide, Or.inl (aw_in (List.mem_of_getElem? (i := 254) (by decide +kernel)) (by decide +kernel))⟩
theorem fl_X2_36 : lr_FL RX2 36 2 7 := ⟨(RX2, TX2, 8), rfl, by decide, Or.inl (aw_in (List.mem_of_getElem? (i := 255) (by decide +kernel)) (by decide +kernel))⟩
theorem fl_X3_9 : lr_FL RX3 9 3 0 := ⟨(RX3, TX3, 8), rfl, by decide, Or.inl (aw_in (List.mem_of_getElem? (i := 174) (by decide +kernel)) (by decide +kernel))⟩
theorem fl_X3_15 : lr_FL RX3 15 3 1 := ⟨(RX3, TX3, 8), rfl, by decide, Or.inl (aw_in (List.mem_of_getElem? (i := 176) (by decide +kernel)) (by decide +kernel))⟩
theorem fl_X3_18 : lr_FL RX3 18 3 2 := ⟨(RX3, TX3, 8), rfl, by decide, Or.inl (aw_in (List.mem_of_getElem? (i := 178) (by decide +kernel)) (by decide +kernel))⟩
theorem fl_X3_21 : lr_FL RX3 21 3 3 := ⟨(RX3, TX3, 8), rfl, by decide, Or.inl (aw_in (List.mem_of_getElem? (i := 180) (by decide +kernel)) (by decide +kernel))⟩
theorem fl_X3_24 : lr_FL RX3 24 3 4 := ⟨(RX3, TX3, 8), rfl, by decide, Or.inl (aw_in (List.mem_of_getElem? (i := 182) (by decide +kernel)) (by decide +kernel))⟩
theorem fl_X3_28 : lr_FL RX3 28 3 5 := ⟨(RX3, TX3, 8), rfl, by decide, Or.inl (aw_in (List.mem_of_getElem? (i := 183) (by decide +kernel)) (by decide +kernel))⟩
theorem fl_X3_31 : lr_FL RX3 31 3 6 := ⟨(RX3, TX3, 8), rfl, by decide, Or.inl (aw_in (List.mem_of_getElem? (i := 184) (by decide +kernel)) (by decide +kernel))⟩
theorem fl_X4_9 : lr_FL RX4 9 4 0 := ⟨(RX4, TX4, 3), rfl, by decide, Or.inl (aw_in (List.mem_of_getElem? (i := 228) (by decide +kernel)) (by decide +kernel))⟩
theorem fl_X4_15 : lr_FL RX4 15 4 1 := ⟨(RX4, TX4, 3), rfl, by decide, Or.inl (aw_in (List.mem_of_getElem? (i := 230) (by decide +kernel)) (by decide +kernel))⟩
theorem fl_X4_19 : lr_FL RX4 19 4 2 := ⟨(RX4, TX4, 3), rfl, by decide, Or.inl (aw_in (List.mem_of_getElem? (i := 232) (by decide +kernel)) (by decide +kernel))⟩
-- no word: invokespecial J2 56
-- no method ('methodLink', 'java/lang/Object', '<init>', '()V') X0 3
-- no method ('methodLink', 'java/lang/Object', '<init>', '()V') X1 3
-- no method ('methodLink', 'java/lang/Object', '<init>', '()V') X2 3
-- no method ('methodLink', 'java/lang/Object', '<init>', '()V') X3 3
-- no method ('methodLink', 'java/lang/Object', '<init>', '()V') X4 3
theorem ml_J0_495 : lr_ML RJ0 495 yJ1_charAt_3b067 := Or.inl (aw_in (List.mem_of_getElem? (i := 292) (by decide +kernel)) (by decide +kernel))
theorem ml_J0_498 : lr_ML RJ0 498 yJ2_charAt_3b067 := Or.inl (aw_in (List.mem_of_getElem? (i := 303) (by decide +kernel)) (by decide +kernel))
theorem ml_J0_1059 : lr_ML RJ0 1059 yJ3_checkIndex_8e157 := Or.inl (aw_in (List.mem_of_getElem? (i := 300) (by decide +kernel)) (by decide +kernel))
theorem ml_J1_9 : lr_ML RJ1 9 yJ0_checkIndex_df160 := Or.inl (aw_in (List.mem_of_getElem? (i := 295) (by decide +kernel)) (by decide +kernel))
theorem ml_J2_48 : lr_ML RJ2 48 yJ2_length_9d52b := Or.inl (aw_in (List.mem_of_getElem? (i := 309) (by decide +kernel)) (by decide +kernel))
theorem ml_J2_67 : lr_ML RJ2 67 yJ2_checkIndex_2214a := Or.inl (aw_in (List.mem_of_getElem? (i := 306) (by decide +kernel)) (by decide +kernel))
theorem ml_J2_71 : lr_ML RJ2 71 yJ2_getChar_3b067 := Or.inl (aw_in (List.mem_of_getElem? (i := 313) (by decide +kernel)) (by decide +kernel))
theorem ml_J2_414 : lr_ML RJ2 414 yJ0_checkIndex_df160 := Or.inl (aw_in (List.mem_of_getElem? (i := 312) (by decide +kernel)) (by decide +kernel))
-- no word: invokestatic J3 95
theorem mx_X0_43 : Cond.methodLink RX0 43 arraycopyName ∈ AW := aw_in (List.mem_of_getElem? (i := 671) (by decide +kernel)) (by decide +kernel)
theorem mx_arraycopy : Cond.native arraycopyName ∈ AW ∧ Cond.static arraycopyName ∈ AW ∧ Cond.initialized "java/lang/System" ∈ AW := ⟨aw_in (List.mem_of_getElem? (i := 662) (by decide +kernel)) (by decide +kernel), aw_in (List.mem_of_getElem? (i := 661) (by decide +kernel)) (by decide +kernel), aw_in (List.mem_of_getElem? (i := 100) (by decide +kernel)) (by decide +kernel)⟩
theorem ml_X1_25 : lr_ML RX1 25 yX5_isName := Or.inr ⟨"LadderOfRescued", aw_in (List.mem_of_getElem? (i := 514) (by decide +kernel)) (by decide +kernel)⟩
theorem ml_X1_31 : lr_ML RX1 31 yX1_named := Or.inl (aw_in (List.mem_of_getElem? (i := 515) (by decide +kernel)) (by decide +kernel))
theorem ml_X1_35 : lr_ML RX1 35 yX1_joined := Or.inl (aw_in (List.mem_of_getElem? (i := 518) (by decide +kernel)) (by decide +kernel))
theorem ml_X2_86 : lr_ML RX2 86 yX5_isName := Or.inr ⟨"LadderOfRescued", aw_in (List.mem_of_getElem? (i := 425) (by decide +kernel)) (by decide +kernel)⟩
theorem ml_X2_98 : lr_ML RX2 98 yX2_isDigit := Or.inl (aw_in (List.mem_of_getElem? (i := 338) (by decide +kernel)) (by decide +kernel))
theorem ml_X2_104 : lr_ML RX2 104 yX2_isLetter := Or.inl (aw_in (List.mem_of_getElem? (i := 345) (by decide +kernel)) (by decide +kernel))
theorem ml_X2_110 : lr_ML RX2 110 yX5_isSign := Or.inr ⟨"LadderOfRescued", aw_in (List.mem_of_getElem? (i := 374) (by decide +kernel)) (by decide +kernel)⟩
theorem ml_X2_113 : lr_ML RX2 113 yX5_wordOf := Or.inr ⟨"LadderOfRescued", aw_in (List.mem_of_getElem? (i := 352) (by decide +kernel)) (by decide +kernel)⟩
theorem mx_X3_37 : Cond.methodLink RX3 37 Lib.Math.min.name ∈ AW := aw_in (List.mem_of_getElem? (i := 643) (by decide +kernel)) (by decide +kernel)
theorem mx_min : Cond.static Lib.Math.min.name ∈ AW ∧ Cond.initialized "java/lang/Math" ∈ AW ∧ Cond.code Lib.Math.min.name Lib.Math.min.code 2 (some .int) ∈ AW := ⟨aw_in (List.mem_of_getElem? (i := 522) (by decide +kernel)) (by decide +kernel), aw_in (List.mem_of_getElem? (i := 99) (by decide +kernel)) (by decide +kernel), aw_in (List.mem_of_getElem? (i := 523) (by decide +kernel)) (by decide +kernel)⟩
theorem ml_X3_44 : lr_ML RX3 44 yX3_climb := Or.inl (aw_in (List.mem_of_getElem? (i := 645) (by decide +kernel)) (by decide +kernel))
theorem ml_X4_22 : lr_ML RX4 22 yJ7_fill_53178 := Or.inl (aw_in (List.mem_of_getElem? (i := 751) (by decide +kernel)) (by decide +kernel))
theorem ml_J0_335 : lr_ML RJ0 335 yJ0_coder_7d493 := Or.inl (aw_in (List.mem_of_getElem? (i := 278) (by decide +kernel)) (by decide +kernel))
theorem ml_J0_492 : lr_ML RJ0 492 yJ0_isLatin1_aae02 := Or.inl (aw_in (List.mem_of_getElem? (i := 288) (by decide +kernel)) (by decide +kernel))
theorem ml_X0_49 : lr_ML RX0 49 yX0_save := Or.inl (aw_in (List.mem_of_getElem? (i := 618) (by decide +kernel)) (by decide +kernel))
theorem ml_X2_40 : lr_ML RX2 40 yX1_clear := Or.inr ⟨"LadderOfRescued", aw_in (List.mem_of_getElem? (i := 330) (by decide +kernel)) (by decide +kernel)⟩
theorem ml_X2_45 : lr_ML RX2 45 yX2_advance := Or.inl (aw_in (List.mem_of_getElem? (i := 334) (by decide +kernel)) (by decide +kernel))
theorem ml_X2_48 : lr_ML RX2 48 yX2_expect := Or.inl (aw_in (List.mem_of_getElem? (i := 377) (by decide +kernel)) (by decide +kernel))
theorem ml_X2_52 : lr_ML RX2 52 yX2_either := Or.inl (aw_in (List.mem_of_getElem? (i := 385) (by decide +kernel)) (by decide +kernel))
theorem ml_X2_55 : lr_ML RX2 55 yX1_endPart := Or.inr ⟨"LadderOfRescued", aw_in (List.mem_of_getElem? (i := 436) (by decide +kernel)) (by decide +kernel)⟩
theorem ml_X2_58 : lr_ML RX2 58 yX2_both := Or.inl (aw_in (List.mem_of_getElem? (i := 389) (by decide +kernel)) (by decide +kernel))
theorem ml_X2_61 : lr_ML RX2 61 yX1_append := Or.inr ⟨"LadderOfRescued", aw_in (List.mem_of_getElem? (i := 405) (by decide +kernel)) (by decide +kernel)⟩
theorem ml_X2_64 : lr_ML RX2 64 yX2_perhapsNot := Or.inl (aw_in (List.mem_of_getElem? (i := 393) (by decide +kernel)) (by decide +kernel))
theorem ml_X2_67 : lr_ML RX2 67 yX2_negation := Or.inl (aw_in (List.mem_of_getElem? (i := 397) (by decide +kernel)) (by decide +kernel))
theorem ml_X2_70 : lr_ML RX2 70 yX2_comparison := Or.inl (aw_in (List.mem_of_getElem? (i := 409) (by decide +kernel)) (by decide +kernel))
theorem ml_X2_73 : lr_ML RX2 73 yX2_mayOpen := Or.inl (aw_in (List.mem_of_getElem? (i := 401) (by decide +kernel)) (by decide +kernel))
theorem ml_X2_77 : lr_ML RX2 77 yX2_sum := Or.inl (aw_in (List.mem_of_getElem? (i := 413) (by decide +kernel)) (by decide +kernel))
theorem ml_X2_80 : lr_ML RX2 80 yX2_term := Or.inl (aw_in (List.mem_of_getElem? (i := 417) (by decide +kernel)) (by decide +kernel))
theorem ml_X2_83 : lr_ML RX2 83 yX2_one := Or.inl (aw_in (List.mem_of_getElem? (i := 421) (by decide +kernel)) (by decide +kernel))
theorem ml_X2_89 : lr_ML RX2 89 yX2_opposite := Or.inl (aw_in (List.mem_of_getElem? (i := 428) (by decide +kernel)) (by decide +kernel))
theorem ml_X2_92 : lr_ML RX2 92 yX2_bracket := Or.inl (aw_in (List.mem_of_getElem? (i := 432) (by decide +kernel)) (by decide +kernel))
theorem ml_X2_95 : lr_ML RX2 95 yX2_fail := Or.inl (aw_in (List.mem_of_getElem? (i := 381) (by decide +kernel)) (by decide +kernel))
theorem ml_X2_101 : lr_ML RX2 101 yX2_takeNumber := Or.inl (aw_in (List.mem_of_getElem? (i := 341) (by decide +kernel)) (by decide +kernel))
theorem ml_X2_107 : lr_ML RX2 107 yX2_takeWord := Or.inl (aw_in (List.mem_of_getElem? (i := 348) (by decide +kernel)) (by decide +kernel))
theorem ml_X2_117 : lr_ML RX2 117 yX2_isWord := Or.inl (aw_in (List.mem_of_getElem? (i := 368) (by decide +kernel)) (by decide +kernel))
theorem ml_X2_121 : lr_ML RX2 121 yJ0_length_8abf5 := Or.inl (aw_in (List.mem_of_getElem? (i := 372) (by decide +kernel)) (by decide +kernel))
theorem ml_X2_127 : lr_ML RX2 127 yJ0_charAt_5068e := Or.inl (aw_in (List.mem_of_getElem? (i := 373) (by decide +kernel)) (by decide +kernel))
theorem ml_X4_28 : lr_ML RX4 28 yX4_has := Or.inl (aw_in (List.mem_of_getElem? (i := 758) (by decide +kernel)) (by decide +kernel))
theorem fp_X0_30 : lr_FP RX0 30 0 6 .int := ⟨(RX0, TX0, 10), rfl, by decide, Or.inl (aw_in (List.mem_of_getElem? (i := 132) (by decide +kernel)) (by decide +kernel)), rfl, by decide +kernel⟩
theorem fp_X0_34 : lr_FP RX0 34 0 7 .int := ⟨(RX0, TX0, 10), rfl, by decide, Or.inl (aw_in (List.mem_of_getElem? (i := 134) (by decide +kernel)) (by decide +kernel)), rfl, by decide +kernel⟩
theorem fp_X0_37 : lr_FP RX0 37 0 8 .int := ⟨(RX0, TX0, 10), rfl, by decide, Or.inl (aw_in (List.mem_of_getElem? (i := 137) (by decide +kernel)) (by decide +kernel)), rfl, by decide +kernel⟩
theorem fp_X0_40 : lr_FP RX0 40 0 9 .int := ⟨(RX0, TX0, 10), rfl, by decide, Or.inl (aw_in (List.mem_of_getElem? (i := 140) (by decide +kernel)) (by decide +kernel)), rfl, by decide +kernel⟩
theorem fp_X1_21 : lr_FP RX1 21 1 3 .int := ⟨(RX1, TX1, 4), rfl, by decide, Or.inl (aw_in (List.mem_of_getElem? (i := 213) (by decide +kernel)) (by decide +kernel)), rfl, by decide +kernel⟩
theorem fp_X2_15 : lr_FP RX2 15 2 1 .int := ⟨(RX2, TX2, 8), rfl, by decide, Or.inl (aw_in (List.mem_of_getElem? (i := 248) (by decide +kernel)) (by decide +kernel)), rfl, by decide +kernel⟩
theorem fp_X2_19 : lr_FP RX2 19 2 2 .int := ⟨(RX2, TX2, 8), rfl, by decide, Or.inl (aw_in (List.mem_of_getElem? (i := 250) (by decide +kernel)) (by decide +kernel)), rfl, by decide +kernel⟩
theorem fp_X2_24 : lr_FP RX2 24 2 3 .int := ⟨(RX2, TX2, 8), rfl, by decide, Or.inl (aw_in (List.mem_of_getElem? (i := 251) (by decide +kernel)) (by decide +kernel)), rfl, by decide +kernel⟩
theorem fp_X2_27 : lr_FP RX2 27 2 4 .int := ⟨(RX2, TX2, 8), rfl, by decide, Or.inl (aw_in (List.mem_of_getElem? (i := 252) (by decide +kernel)) (by decide +kernel)), rfl, by decide +kernel⟩
theorem fp_X2_30 : lr_FP RX2 30 2 5 .int := ⟨(RX2, TX2, 8), rfl, by decide, Or.inl (aw_in (List.mem_of_getElem? (i := 253) (by decide +kernel)) (by decide +kernel)), rfl, by decide +kernel⟩
theorem fp_X2_33 : lr_FP RX2 33 2 6 .int := ⟨(RX2, TX2, 8), rfl, by decide, Or.inl (aw_in (List.mem_of_getElem? (i := 254) (by decide +kernel)) (by decide +kernel)), rfl, by decide +kernel⟩
theorem fp_X2_36 : lr_FP RX2 36 2 7 (.object "LadderOfRescued$Law") := ⟨(RX2, TX2, 8), rfl, by decide, Or.inl (aw_in (List.mem_of_getElem? (i := 255) (by decide +kernel)) (by decide +kernel)), rfl, by decide +kernel⟩
theorem fp_X3_24 : lr_FP RX3 24 3 4 .int := ⟨(RX3, TX3, 8), rfl, by decide, Or.inl (aw_in (List.mem_of_getElem? (i := 182) (by decide +kernel)) (by decide +kernel)), rfl, by decide +kernel⟩
theorem fp_X3_28 : lr_FP RX3 28 3 5 .int := ⟨(RX3, TX3, 8), rfl, by decide, Or.inl (aw_in (List.mem_of_getElem? (i := 183) (by decide +kernel)) (by decide +kernel)), rfl, by decide +kernel⟩
theorem fp_X3_31 : lr_FP RX3 31 3 6 .int := ⟨(RX3, TX3, 8), rfl, by decide, Or.inl (aw_in (List.mem_of_getElem? (i := 184) (by decide +kernel)) (by decide +kernel)), rfl, by decide +kernel⟩
theorem fp_X3_34 : lr_FP RX3 34 3 7 .int := ⟨(RX3, TX3, 8), rfl, by decide, Or.inl (aw_in (List.mem_of_getElem? (i := 186) (by decide +kernel)) (by decide +kernel)), rfl, by decide +kernel⟩
theorem fp_X4_15 : lr_FP RX4 15 4 1 .int := ⟨(RX4, TX4, 3), rfl, by decide, Or.inl (aw_in (List.mem_of_getElem? (i := 230) (by decide +kernel)) (by decide +kernel)), rfl, by decide +kernel⟩
theorem fp_X4_19 : lr_FP RX4 19 4 2 .int := ⟨(RX4, TX4, 3), rfl, by decide, Or.inl (aw_in (List.mem_of_getElem? (i := 232) (by decide +kernel)) (by decide +kernel)), rfl, by decide +kernel⟩
theorem mv_X0_becomeLike : lr_MV jX0_becomeLike 1 := ⟨⟨⟨aw_in (List.mem_of_getElem? (i := 670) (by decide +kernel)) (by decide +kernel), aw_in (List.mem_of_getElem? (i := 88) (by decide +kernel)) (by decide +kernel)⟩, ⟨by decide +kernel, by decide +kernel, by decide +kernel⟩, by decide⟩, aw_in (List.mem_of_getElem? (i := 669) (by decide +kernel)) (by decide +kernel), aw_in (List.mem_of_getElem? (i := 43) (by decide +kernel)) (by decide +kernel)⟩
theorem mv_X0_has : lr_MV jX0_has 1 := ⟨⟨⟨aw_in (List.mem_of_getElem? (i := 505) (by decide +kernel)) (by decide +kernel), aw_in (List.mem_of_getElem? (i := 88) (by decide +kernel)) (by decide +kernel)⟩, ⟨by decide +kernel, by decide +kernel, by decide +kernel⟩, by decide⟩, aw_in (List.mem_of_getElem? (i := 504) (by decide +kernel)) (by decide +kernel), aw_in (List.mem_of_getElem? (i := 22) (by decide +kernel)) (by decide +kernel)⟩
theorem mv_X0_quarrel : lr_MV jX0_quarrel 2 := ⟨⟨⟨aw_in (List.mem_of_getElem? (i := 547) (by decide +kernel)) (by decide +kernel), aw_in (List.mem_of_getElem? (i := 88) (by decide +kernel)) (by decide +kernel)⟩, ⟨by decide +kernel, by decide +kernel, by decide +kernel⟩, by decide⟩, aw_in (List.mem_of_getElem? (i := 546) (by decide +kernel)) (by decide +kernel), aw_in (List.mem_of_getElem? (i := 26) (by decide +kernel)) (by decide +kernel)⟩
theorem mv_X0_setQuarrel : lr_MV jX0_setQuarrel 3 := ⟨⟨⟨aw_in (List.mem_of_getElem? (i := 551) (by decide +kernel)) (by decide +kernel), aw_in (List.mem_of_getElem? (i := 88) (by decide +kernel)) (by decide +kernel)⟩, ⟨by decide +kernel, by decide +kernel, by decide +kernel⟩, by decide⟩, aw_in (List.mem_of_getElem? (i := 550) (by decide +kernel)) (by decide +kernel), aw_in (List.mem_of_getElem? (i := 27) (by decide +kernel)) (by decide +kernel)⟩
theorem mv_X0_rungOf : lr_MV jX0_rungOf 1 := ⟨⟨⟨aw_in (List.mem_of_getElem? (i := 559) (by decide +kernel)) (by decide +kernel), aw_in (List.mem_of_getElem? (i := 88) (by decide +kernel)) (by decide +kernel)⟩, ⟨by decide +kernel, by decide +kernel, by decide +kernel⟩, by decide⟩, aw_in (List.mem_of_getElem? (i := 558) (by decide +kernel)) (by decide +kernel), aw_in (List.mem_of_getElem? (i := 28) (by decide +kernel)) (by decide +kernel)⟩
theorem mv_X0_savedBits : lr_MV jX0_savedBits 0 := ⟨⟨⟨aw_in (List.mem_of_getElem? (i := 638) (by decide +kernel)) (by decide +kernel), aw_in (List.mem_of_getElem? (i := 88) (by decide +kernel)) (by decide +kernel)⟩, ⟨by decide +kernel, by decide +kernel, by decide +kernel⟩, by decide⟩, aw_in (List.mem_of_getElem? (i := 637) (by decide +kernel)) (by decide +kernel), aw_in (List.mem_of_getElem? (i := 41) (by decide +kernel)) (by decide +kernel)⟩
theorem mv_X0_save : lr_MV jX0_save 1 := ⟨⟨⟨aw_in (List.mem_of_getElem? (i := 621) (by decide +kernel)) (by decide +kernel), aw_in (List.mem_of_getElem? (i := 88) (by decide +kernel)) (by decide +kernel)⟩, ⟨by decide +kernel, by decide +kernel, by decide +kernel⟩, by decide⟩, aw_in (List.mem_of_getElem? (i := 620) (by decide +kernel)) (by decide +kernel), aw_in (List.mem_of_getElem? (i := 39) (by decide +kernel)) (by decide +kernel)⟩
theorem mv_X0_saveByFire : lr_MV jX0_saveByFire 1 := ⟨⟨⟨aw_in (List.mem_of_getElem? (i := 617) (by decide +kernel)) (by decide +kernel), aw_in (List.mem_of_getElem? (i := 88) (by decide +kernel)) (by decide +kernel)⟩, ⟨by decide +kernel, by decide +kernel, by decide +kernel⟩, by decide⟩, aw_in (List.mem_of_getElem? (i := 616) (by decide +kernel)) (by decide +kernel), aw_in (List.mem_of_getElem? (i := 38) (by decide +kernel)) (by decide +kernel)⟩
theorem mv_X1_clear : lr_MV jX1_clear 0 := ⟨⟨⟨aw_in (List.mem_of_getElem? (i := 333) (by decide +kernel)) (by decide +kernel), aw_in (List.mem_of_getElem? (i := 90) (by decide +kernel)) (by decide +kernel)⟩, ⟨by decide +kernel, by decide +kernel, by decide +kernel⟩, by decide⟩, aw_in (List.mem_of_getElem? (i := 332) (by decide +kernel)) (by decide +kernel), aw_in (List.mem_of_getElem? (i := 2) (by decide +kernel)) (by decide +kernel)⟩
theorem mv_X1_append : lr_MV jX1_append 1 := ⟨⟨⟨aw_in (List.mem_of_getElem? (i := 408) (by decide +kernel)) (by decide +kernel), aw_in (List.mem_of_getElem? (i := 90) (by decide +kernel)) (by decide +kernel)⟩, ⟨by decide +kernel, by decide +kernel, by decide +kernel⟩, by decide⟩, aw_in (List.mem_of_getElem? (i := 407) (by decide +kernel)) (by decide +kernel), aw_in (List.mem_of_getElem? (i := 14) (by decide +kernel)) (by decide +kernel)⟩
theorem mv_X1_endPart : lr_MV jX1_endPart 1 := ⟨⟨⟨aw_in (List.mem_of_getElem? (i := 439) (by decide +kernel)) (by decide +kernel), aw_in (List.mem_of_getElem? (i := 90) (by decide +kernel)) (by decide +kernel)⟩, ⟨by decide +kernel, by decide +kernel, by decide +kernel⟩, by decide⟩, aw_in (List.mem_of_getElem? (i := 438) (by decide +kernel)) (by decide +kernel), aw_in (List.mem_of_getElem? (i := 21) (by decide +kernel)) (by decide +kernel)⟩
theorem mv_X1_value : lr_MV jX1_value 4 := ⟨⟨⟨aw_in (List.mem_of_getElem? (i := 513) (by decide +kernel)) (by decide +kernel), aw_in (List.mem_of_getElem? (i := 90) (by decide +kernel)) (by decide +kernel)⟩, ⟨by decide +kernel, by decide +kernel, by decide +kernel⟩, by decide⟩, aw_in (List.mem_of_getElem? (i := 512) (by decide +kernel)) (by decide +kernel), aw_in (List.mem_of_getElem? (i := 24) (by decide +kernel)) (by decide +kernel)⟩
theorem ms_X1_named : lr_MS jX1_named 4 := ⟨⟨⟨aw_in (List.mem_of_getElem? (i := 517) (by decide +kernel)) (by decide +kernel), aw_in (List.mem_of_getElem? (i := 90) (by decide +kernel)) (by decide +kernel)⟩, ⟨by decide +kernel, by decide +kernel, by decide +kernel⟩, by decide⟩, aw_in (List.mem_of_getElem? (i := 516) (by decide +kernel)) (by decide +kernel)⟩
theorem ms_X1_joined : lr_MS jX1_joined 3 := ⟨⟨⟨aw_in (List.mem_of_getElem? (i := 520) (by decide +kernel)) (by decide +kernel), aw_in (List.mem_of_getElem? (i := 90) (by decide +kernel)) (by decide +kernel)⟩, ⟨by decide +kernel, by decide +kernel, by decide +kernel⟩, by decide⟩, aw_in (List.mem_of_getElem? (i := 519) (by decide +kernel)) (by decide +kernel)⟩
theorem mv_X2_hear : lr_MV jX2_hear 1 := ⟨⟨⟨aw_in (List.mem_of_getElem? (i := 325) (by decide +kernel)) (by decide +kernel), aw_in (List.mem_of_getElem? (i := 92) (by decide +kernel)) (by decide +kernel)⟩, ⟨by decide +kernel, by decide +kernel, by decide +kernel⟩, by decide⟩, aw_in (List.mem_of_getElem? (i := 324) (by decide +kernel)) (by decide +kernel), aw_in (List.mem_of_getElem? (i := 0) (by decide +kernel)) (by decide +kernel)⟩
theorem mv_X2_read : lr_MV jX2_read 1 := ⟨⟨⟨aw_in (List.mem_of_getElem? (i := 329) (by decide +kernel)) (by decide +kernel), aw_in (List.mem_of_getElem? (i := 92) (by decide +kernel)) (by decide +kernel)⟩, ⟨by decide +kernel, by decide +kernel, by decide +kernel⟩, by decide⟩, aw_in (List.mem_of_getElem? (i := 328) (by decide +kernel)) (by decide +kernel), aw_in (List.mem_of_getElem? (i := 1) (by decide +kernel)) (by decide +kernel)⟩
theorem mv_X2_either : lr_MV jX2_either 1 := ⟨⟨⟨aw_in (List.mem_of_getElem? (i := 388) (by decide +kernel)) (by decide +kernel), aw_in (List.mem_of_getElem? (i := 92) (by decide +kernel)) (by decide +kernel)⟩, ⟨by decide +kernel, by decide +kernel, by decide +kernel⟩, by decide⟩, aw_in (List.mem_of_getElem? (i := 387) (by decide +kernel)) (by decide +kernel), aw_in (List.mem_of_getElem? (i := 9) (by decide +kernel)) (by decide +kernel)⟩
theorem mv_X2_both : lr_MV jX2_both 1 := ⟨⟨⟨aw_in (List.mem_of_getElem? (i := 392) (by decide +kernel)) (by decide +kernel), aw_in (List.mem_of_getElem? (i := 92) (by decide +kernel)) (by decide +kernel)⟩, ⟨by decide +kernel, by decide +kernel, by decide +kernel⟩, by decide⟩, aw_in (List.mem_of_getElem? (i := 391) (by decide +kernel)) (by decide +kernel), aw_in (List.mem_of_getElem? (i := 10) (by decide +kernel)) (by decide +kernel)⟩
theorem mv_X2_perhapsNot : lr_MV jX2_perhapsNot 1 := ⟨⟨⟨aw_in (List.mem_of_getElem? (i := 396) (by decide +kernel)) (by decide +kernel), aw_in (List.mem_of_getElem? (i := 92) (by decide +kernel)) (by decide +kernel)⟩, ⟨by decide +kernel, by decide +kernel, by decide +kernel⟩, by decide⟩, aw_in (List.mem_of_getElem? (i := 395) (by decide +kernel)) (by decide +kernel), aw_in (List.mem_of_getElem? (i := 11) (by decide +kernel)) (by decide +kernel)⟩
theorem mv_X2_negation : lr_MV jX2_negation 1 := ⟨⟨⟨aw_in (List.mem_of_getElem? (i := 400) (by decide +kernel)) (by decide +kernel), aw_in (List.mem_of_getElem? (i := 92) (by decide +kernel)) (by decide +kernel)⟩, ⟨by decide +kernel, by decide +kernel, by decide +kernel⟩, by decide⟩, aw_in (List.mem_of_getElem? (i := 399) (by decide +kernel)) (by decide +kernel), aw_in (List.mem_of_getElem? (i := 12) (by decide +kernel)) (by decide +kernel)⟩
theorem mv_X2_comparison : lr_MV jX2_comparison 1 := ⟨⟨⟨aw_in (List.mem_of_getElem? (i := 412) (by decide +kernel)) (by decide +kernel), aw_in (List.mem_of_getElem? (i := 92) (by decide +kernel)) (by decide +kernel)⟩, ⟨by decide +kernel, by decide +kernel, by decide +kernel⟩, by decide⟩, aw_in (List.mem_of_getElem? (i := 411) (by decide +kernel)) (by decide +kernel), aw_in (List.mem_of_getElem? (i := 15) (by decide +kernel)) (by decide +kernel)⟩
theorem mv_X2_sum : lr_MV jX2_sum 1 := ⟨⟨⟨aw_in (List.mem_of_getElem? (i := 416) (by decide +kernel)) (by decide +kernel), aw_in (List.mem_of_getElem? (i := 92) (by decide +kernel)) (by decide +kernel)⟩, ⟨by decide +kernel, by decide +kernel, by decide +kernel⟩, by decide⟩, aw_in (List.mem_of_getElem? (i := 415) (by decide +kernel)) (by decide +kernel), aw_in (List.mem_of_getElem? (i := 16) (by decide +kernel)) (by decide +kernel)⟩
theorem mv_X2_term : lr_MV jX2_term 1 := ⟨⟨⟨aw_in (List.mem_of_getElem? (i := 420) (by decide +kernel)) (by decide +kernel), aw_in (List.mem_of_getElem? (i := 92) (by decide +kernel)) (by decide +kernel)⟩, ⟨by decide +kernel, by decide +kernel, by decide +kernel⟩, by decide⟩, aw_in (List.mem_of_getElem? (i := 419) (by decide +kernel)) (by decide +kernel), aw_in (List.mem_of_getElem? (i := 17) (by decide +kernel)) (by decide +kernel)⟩
theorem mv_X2_one : lr_MV jX2_one 1 := ⟨⟨⟨aw_in (List.mem_of_getElem? (i := 424) (by decide +kernel)) (by decide +kernel), aw_in (List.mem_of_getElem? (i := 92) (by decide +kernel)) (by decide +kernel)⟩, ⟨by decide +kernel, by decide +kernel, by decide +kernel⟩, by decide⟩, aw_in (List.mem_of_getElem? (i := 423) (by decide +kernel)) (by decide +kernel), aw_in (List.mem_of_getElem? (i := 18) (by decide +kernel)) (by decide +kernel)⟩
theorem mv_X2_opposite : lr_MV jX2_opposite 1 := ⟨⟨⟨aw_in (List.mem_of_getElem? (i := 431) (by decide +kernel)) (by decide +kernel), aw_in (List.mem_of_getElem? (i := 92) (by decide +kernel)) (by decide +kernel)⟩, ⟨by decide +kernel, by decide +kernel, by decide +kernel⟩, by decide⟩, aw_in (List.mem_of_getElem? (i := 430) (by decide +kernel)) (by decide +kernel), aw_in (List.mem_of_getElem? (i := 19) (by decide +kernel)) (by decide +kernel)⟩
theorem mv_X2_bracket : lr_MV jX2_bracket 1 := ⟨⟨⟨aw_in (List.mem_of_getElem? (i := 435) (by decide +kernel)) (by decide +kernel), aw_in (List.mem_of_getElem? (i := 92) (by decide +kernel)) (by decide +kernel)⟩, ⟨by decide +kernel, by decide +kernel, by decide +kernel⟩, by decide⟩, aw_in (List.mem_of_getElem? (i := 434) (by decide +kernel)) (by decide +kernel), aw_in (List.mem_of_getElem? (i := 20) (by decide +kernel)) (by decide +kernel)⟩
theorem mv_X2_mayOpen : lr_MV jX2_mayOpen 1 := ⟨⟨⟨aw_in (List.mem_of_getElem? (i := 404) (by decide +kernel)) (by decide +kernel), aw_in (List.mem_of_getElem? (i := 92) (by decide +kernel)) (by decide +kernel)⟩, ⟨by decide +kernel, by decide +kernel, by decide +kernel⟩, by decide⟩, aw_in (List.mem_of_getElem? (i := 403) (by decide +kernel)) (by decide +kernel), aw_in (List.mem_of_getElem? (i := 13) (by decide +kernel)) (by decide +kernel)⟩
theorem mv_X2_expect : lr_MV jX2_expect 1 := ⟨⟨⟨aw_in (List.mem_of_getElem? (i := 380) (by decide +kernel)) (by decide +kernel), aw_in (List.mem_of_getElem? (i := 92) (by decide +kernel)) (by decide +kernel)⟩, ⟨by decide +kernel, by decide +kernel, by decide +kernel⟩, by decide⟩, aw_in (List.mem_of_getElem? (i := 379) (by decide +kernel)) (by decide +kernel), aw_in (List.mem_of_getElem? (i := 7) (by decide +kernel)) (by decide +kernel)⟩
theorem mv_X2_fail : lr_MV jX2_fail 0 := ⟨⟨⟨aw_in (List.mem_of_getElem? (i := 384) (by decide +kernel)) (by decide +kernel), aw_in (List.mem_of_getElem? (i := 92) (by decide +kernel)) (by decide +kernel)⟩, ⟨by decide +kernel, by decide +kernel, by decide +kernel⟩, by decide⟩, aw_in (List.mem_of_getElem? (i := 383) (by decide +kernel)) (by decide +kernel), aw_in (List.mem_of_getElem? (i := 8) (by decide +kernel)) (by decide +kernel)⟩
theorem mv_X2_advance : lr_MV jX2_advance 0 := ⟨⟨⟨aw_in (List.mem_of_getElem? (i := 337) (by decide +kernel)) (by decide +kernel), aw_in (List.mem_of_getElem? (i := 92) (by decide +kernel)) (by decide +kernel)⟩, ⟨by decide +kernel, by decide +kernel, by decide +kernel⟩, by decide⟩, aw_in (List.mem_of_getElem? (i := 336) (by decide +kernel)) (by decide +kernel), aw_in (List.mem_of_getElem? (i := 3) (by decide +kernel)) (by decide +kernel)⟩
theorem mv_X2_takeNumber : lr_MV jX2_takeNumber 0 := ⟨⟨⟨aw_in (List.mem_of_getElem? (i := 344) (by decide +kernel)) (by decide +kernel), aw_in (List.mem_of_getElem? (i := 92) (by decide +kernel)) (by decide +kernel)⟩, ⟨by decide +kernel, by decide +kernel, by decide +kernel⟩, by decide⟩, aw_in (List.mem_of_getElem? (i := 343) (by decide +kernel)) (by decide +kernel), aw_in (List.mem_of_getElem? (i := 4) (by decide +kernel)) (by decide +kernel)⟩
theorem mv_X2_takeWord : lr_MV jX2_takeWord 0 := ⟨⟨⟨aw_in (List.mem_of_getElem? (i := 351) (by decide +kernel)) (by decide +kernel), aw_in (List.mem_of_getElem? (i := 92) (by decide +kernel)) (by decide +kernel)⟩, ⟨by decide +kernel, by decide +kernel, by decide +kernel⟩, by decide⟩, aw_in (List.mem_of_getElem? (i := 350) (by decide +kernel)) (by decide +kernel), aw_in (List.mem_of_getElem? (i := 5) (by decide +kernel)) (by decide +kernel)⟩
theorem mv_X2_isWord : lr_MV jX2_isWord 1 := ⟨⟨⟨aw_in (List.mem_of_getElem? (i := 371) (by decide +kernel)) (by decide +kernel), aw_in (List.mem_of_getElem? (i := 92) (by decide +kernel)) (by decide +kernel)⟩, ⟨by decide +kernel, by decide +kernel, by decide +kernel⟩, by decide⟩, aw_in (List.mem_of_getElem? (i := 370) (by decide +kernel)) (by decide +kernel), aw_in (List.mem_of_getElem? (i := 6) (by decide +kernel)) (by decide +kernel)⟩
theorem ms_X2_isDigit : lr_MS jX2_isDigit 1 := ⟨⟨⟨aw_in (List.mem_of_getElem? (i := 340) (by decide +kernel)) (by decide +kernel), aw_in (List.mem_of_getElem? (i := 92) (by decide +kernel)) (by decide +kernel)⟩, ⟨by decide +kernel, by decide +kernel, by decide +kernel⟩, by decide⟩, aw_in (List.mem_of_getElem? (i := 339) (by decide +kernel)) (by decide +kernel)⟩
theorem ms_X2_isLetter : lr_MS jX2_isLetter 1 := ⟨⟨⟨aw_in (List.mem_of_getElem? (i := 347) (by decide +kernel)) (by decide +kernel), aw_in (List.mem_of_getElem? (i := 92) (by decide +kernel)) (by decide +kernel)⟩, ⟨by decide +kernel, by decide +kernel, by decide +kernel⟩, by decide⟩, aw_in (List.mem_of_getElem? (i := 346) (by decide +kernel)) (by decide +kernel)⟩
theorem mv_X3_run : lr_MV jX3_run 2 := ⟨⟨⟨aw_in (List.mem_of_getElem? (i := 642) (by decide +kernel)) (by decide +kernel), aw_in (List.mem_of_getElem? (i := 89) (by decide +kernel)) (by decide +kernel)⟩, ⟨by decide +kernel, by decide +kernel, by decide +kernel⟩, by decide⟩, aw_in (List.mem_of_getElem? (i := 641) (by decide +kernel)) (by decide +kernel), aw_in (List.mem_of_getElem? (i := 42) (by decide +kernel)) (by decide +kernel)⟩
theorem ms_X3_climb : lr_MS jX3_climb 6 := ⟨⟨⟨aw_in (List.mem_of_getElem? (i := 647) (by decide +kernel)) (by decide +kernel), aw_in (List.mem_of_getElem? (i := 89) (by decide +kernel)) (by decide +kernel)⟩, ⟨by decide +kernel, by decide +kernel, by decide +kernel⟩, by decide⟩, aw_in (List.mem_of_getElem? (i := 646) (by decide +kernel)) (by decide +kernel)⟩
theorem mv_X4_becomeZeros : lr_MV jX4_becomeZeros 2 := ⟨⟨⟨aw_in (List.mem_of_getElem? (i := 750) (by decide +kernel)) (by decide +kernel), aw_in (List.mem_of_getElem? (i := 91) (by decide +kernel)) (by decide +kernel)⟩, ⟨by decide +kernel, by decide +kernel, by decide +kernel⟩, by decide⟩, aw_in (List.mem_of_getElem? (i := 749) (by decide +kernel)) (by decide +kernel), aw_in (List.mem_of_getElem? (i := 50) (by decide +kernel)) (by decide +kernel)⟩
theorem mv_X4_has : lr_MV jX4_has 1 := ⟨⟨⟨aw_in (List.mem_of_getElem? (i := 761) (by decide +kernel)) (by decide +kernel), aw_in (List.mem_of_getElem? (i := 91) (by decide +kernel)) (by decide +kernel)⟩, ⟨by decide +kernel, by decide +kernel, by decide +kernel⟩, by decide⟩, aw_in (List.mem_of_getElem? (i := 760) (by decide +kernel)) (by decide +kernel), aw_in (List.mem_of_getElem? (i := 52) (by decide +kernel)) (by decide +kernel)⟩
theorem mv_X4_hasAll : lr_MV jX4_hasAll 2 := ⟨⟨⟨aw_in (List.mem_of_getElem? (i := 800) (by decide +kernel)) (by decide +kernel), aw_in (List.mem_of_getElem? (i := 91) (by decide +kernel)) (by decide +kernel)⟩, ⟨by decide +kernel, by decide +kernel, by decide +kernel⟩, by decide⟩, aw_in (List.mem_of_getElem? (i := 799) (by decide +kernel)) (by decide +kernel), aw_in (List.mem_of_getElem? (i := 54) (by decide +kernel)) (by decide +kernel)⟩
theorem mv_X4_write : lr_MV jX4_write 2 := ⟨⟨⟨aw_in (List.mem_of_getElem? (i := 757) (by decide +kernel)) (by decide +kernel), aw_in (List.mem_of_getElem? (i := 91) (by decide +kernel)) (by decide +kernel)⟩, ⟨by decide +kernel, by decide +kernel, by decide +kernel⟩, by decide⟩, aw_in (List.mem_of_getElem? (i := 756) (by decide +kernel)) (by decide +kernel), aw_in (List.mem_of_getElem? (i := 51) (by decide +kernel)) (by decide +kernel)⟩
theorem ms_X5_wordOf : lr_MS jX5_wordOf 1 := ⟨⟨⟨aw_in (List.mem_of_getElem? (i := 354) (by decide +kernel)) (by decide +kernel), aw_in (List.mem_of_getElem? (i := 97) (by decide +kernel)) (by decide +kernel)⟩, ⟨by decide +kernel, by decide +kernel, by decide +kernel⟩, by decide⟩, aw_in (List.mem_of_getElem? (i := 353) (by decide +kernel)) (by decide +kernel)⟩
theorem ms_X5_isSign : lr_MS jX5_isSign 1 := ⟨⟨⟨aw_in (List.mem_of_getElem? (i := 376) (by decide +kernel)) (by decide +kernel), aw_in (List.mem_of_getElem? (i := 97) (by decide +kernel)) (by decide +kernel)⟩, ⟨by decide +kernel, by decide +kernel, by decide +kernel⟩, by decide⟩, aw_in (List.mem_of_getElem? (i := 375) (by decide +kernel)) (by decide +kernel)⟩
theorem ms_X5_isName : lr_MS jX5_isName 1 := ⟨⟨⟨aw_in (List.mem_of_getElem? (i := 427) (by decide +kernel)) (by decide +kernel), aw_in (List.mem_of_getElem? (i := 97) (by decide +kernel)) (by decide +kernel)⟩, ⟨by decide +kernel, by decide +kernel, by decide +kernel⟩, by decide⟩, aw_in (List.mem_of_getElem? (i := 426) (by decide +kernel)) (by decide +kernel)⟩
theorem ms_J6_bitCount_0f7a4 : lr_MS jJ6_bitCount_0f7a4 1 := ⟨⟨⟨aw_in (List.mem_of_getElem? (i := 723) (by decide +kernel)) (by decide +kernel), aw_in (List.mem_of_getElem? (i := 101) (by decide +kernel)) (by decide +kernel)⟩, ⟨by decide +kernel, by decide +kernel, by decide +kernel⟩, by decide⟩, aw_in (List.mem_of_getElem? (i := 722) (by decide +kernel)) (by decide +kernel)⟩
theorem ms_J9_max_7cf53 : lr_MS jJ9_max_7cf53 2 := ⟨⟨⟨aw_in (List.mem_of_getElem? (i := 526) (by decide +kernel)) (by decide +kernel), aw_in (List.mem_of_getElem? (i := 99) (by decide +kernel)) (by decide +kernel)⟩, ⟨by decide +kernel, by decide +kernel, by decide +kernel⟩, by decide⟩, aw_in (List.mem_of_getElem? (i := 525) (by decide +kernel)) (by decide +kernel)⟩
theorem ms_J9_min_7cf53 : lr_MS jJ9_min_7cf53 2 := ⟨⟨⟨aw_in (List.mem_of_getElem? (i := 523) (by decide +kernel)) (by decide +kernel), aw_in (List.mem_of_getElem? (i := 99) (by decide +kernel)) (by decide +kernel)⟩, ⟨by decide +kernel, by decide +kernel, by decide +kernel⟩, by decide⟩, aw_in (List.mem_of_getElem? (i := 522) (by decide +kernel)) (by decide +kernel)⟩
theorem mv_J0_length_8abf5 : lr_MV jJ0_length_8abf5 0 := ⟨⟨⟨aw_in (List.mem_of_getElem? (i := 277) (by decide +kernel)) (by decide +kernel), aw_in (List.mem_of_getElem? (i := 93) (by decide +kernel)) (by decide +kernel)⟩, ⟨by decide +kernel, by decide +kernel, by decide +kernel⟩, by decide⟩, aw_in (List.mem_of_getElem? (i := 275) (by decide +kernel)) (by decide +kernel), aw_in (List.mem_of_getElem? (i := 276) (by decide +kernel)) (by decide +kernel)⟩
theorem mv_J0_charAt_5068e : lr_MV jJ0_charAt_5068e 1 := ⟨⟨⟨aw_in (List.mem_of_getElem? (i := 287) (by decide +kernel)) (by decide +kernel), aw_in (List.mem_of_getElem? (i := 93) (by decide +kernel)) (by decide +kernel)⟩, ⟨by decide +kernel, by decide +kernel, by decide +kernel⟩, by decide⟩, aw_in (List.mem_of_getElem? (i := 285) (by decide +kernel)) (by decide +kernel), aw_in (List.mem_of_getElem? (i := 286) (by decide +kernel)) (by decide +kernel)⟩
theorem mv_J0_coder_7d493 : lr_MV jJ0_coder_7d493 0 := ⟨⟨⟨aw_in (List.mem_of_getElem? (i := 281) (by decide +kernel)) (by decide +kernel), aw_in (List.mem_of_getElem? (i := 93) (by decide +kernel)) (by decide +kernel)⟩, ⟨by decide +kernel, by decide +kernel, by decide +kernel⟩, by decide⟩, aw_in (List.mem_of_getElem? (i := 279) (by decide +kernel)) (by decide +kernel), aw_in (List.mem_of_getElem? (i := 280) (by decide +kernel)) (by decide +kernel)⟩
theorem mv_J0_isLatin1_aae02 : lr_MV jJ0_isLatin1_aae02 0 := ⟨⟨⟨aw_in (List.mem_of_getElem? (i := 291) (by decide +kernel)) (by decide +kernel), aw_in (List.mem_of_getElem? (i := 93) (by decide +kernel)) (by decide +kernel)⟩, ⟨by decide +kernel, by decide +kernel, by decide +kernel⟩, by decide⟩, aw_in (List.mem_of_getElem? (i := 289) (by decide +kernel)) (by decide +kernel), aw_in (List.mem_of_getElem? (i := 290) (by decide +kernel)) (by decide +kernel)⟩
theorem ms_J0_checkIndex_df160 : lr_MS jJ0_checkIndex_df160 2 := ⟨⟨⟨aw_in (List.mem_of_getElem? (i := 297) (by decide +kernel)) (by decide +kernel), aw_in (List.mem_of_getElem? (i := 93) (by decide +kernel)) (by decide +kernel)⟩, ⟨by decide +kernel, by decide +kernel, by decide +kernel⟩, by decide⟩, aw_in (List.mem_of_getElem? (i := 296) (by decide +kernel)) (by decide +kernel)⟩
theorem ms_J1_charAt_3b067 : lr_MS jJ1_charAt_3b067 2 := ⟨⟨⟨aw_in (List.mem_of_getElem? (i := 294) (by decide +kernel)) (by decide +kernel), aw_in (List.mem_of_getElem? (i := 94) (by decide +kernel)) (by decide +kernel)⟩, ⟨by decide +kernel, by decide +kernel, by decide +kernel⟩, by decide⟩, aw_in (List.mem_of_getElem? (i := 293) (by decide +kernel)) (by decide +kernel)⟩
theorem ms_J2_getChar_3b067 : lr_MS jJ2_getChar_3b067 2 := ⟨⟨⟨aw_in (List.mem_of_getElem? (i := 315) (by decide +kernel)) (by decide +kernel), aw_in (List.mem_of_getElem? (i := 96) (by decide +kernel)) (by decide +kernel)⟩, ⟨by decide +kernel, by decide +kernel, by decide +kernel⟩, by decide⟩, aw_in (List.mem_of_getElem? (i := 314) (by decide +kernel)) (by decide +kernel)⟩
theorem ms_J2_length_9d52b : lr_MS jJ2_length_9d52b 1 := ⟨⟨⟨aw_in (List.mem_of_getElem? (i := 311) (by decide +kernel)) (by decide +kernel), aw_in (List.mem_of_getElem? (i := 96) (by decide +kernel)) (by decide +kernel)⟩, ⟨by decide +kernel, by decide +kernel, by decide +kernel⟩, by decide⟩, aw_in (List.mem_of_getElem? (i := 310) (by decide +kernel)) (by decide +kernel)⟩
theorem ms_J2_charAt_3b067 : lr_MS jJ2_charAt_3b067 2 := ⟨⟨⟨aw_in (List.mem_of_getElem? (i := 305) (by decide +kernel)) (by decide +kernel), aw_in (List.mem_of_getElem? (i := 96) (by decide +kernel)) (by decide +kernel)⟩, ⟨by decide +kernel, by decide +kernel, by decide +kernel⟩, by decide⟩, aw_in (List.mem_of_getElem? (i := 304) (by decide +kernel)) (by decide +kernel)⟩
theorem ms_J2_checkIndex_2214a : lr_MS jJ2_checkIndex_2214a 2 := ⟨⟨⟨aw_in (List.mem_of_getElem? (i := 308) (by decide +kernel)) (by decide +kernel), aw_in (List.mem_of_getElem? (i := 96) (by decide +kernel)) (by decide +kernel)⟩, ⟨by decide +kernel, by decide +kernel, by decide +kernel⟩, by decide⟩, aw_in (List.mem_of_getElem? (i := 307) (by decide +kernel)) (by decide +kernel)⟩
theorem ms_J7_fill_53178 : lr_MS jJ7_fill_53178 2 := ⟨⟨⟨aw_in (List.mem_of_getElem? (i := 753) (by decide +kernel)) (by decide +kernel), aw_in (List.mem_of_getElem? (i := 102) (by decide +kernel)) (by decide +kernel)⟩, ⟨by decide +kernel, by decide +kernel, by decide +kernel⟩, by decide⟩, aw_in (List.mem_of_getElem? (i := 752) (by decide +kernel)) (by decide +kernel)⟩
theorem ms_J3_checkIndex_8e157 : lr_MS jJ3_checkIndex_8e157 3 := ⟨⟨⟨aw_in (List.mem_of_getElem? (i := 302) (by decide +kernel)) (by decide +kernel), aw_in (List.mem_of_getElem? (i := 95) (by decide +kernel)) (by decide +kernel)⟩, ⟨by decide +kernel, by decide +kernel, by decide +kernel⟩, by decide⟩, aw_in (List.mem_of_getElem? (i := 301) (by decide +kernel)) (by decide +kernel)⟩
