/-! class: more commands -/
def kiA (x : Int32) : Int32 := if x = 3 then 1 else if x = 4 then 2 else 0
theorem ok_X6_kindAbove {T : Tb} {S : Nat → Bool} {w : Wd} {d : Nat} {M : Mem} (x : Int32) : lr_Ok T S w d jX6_kindAbove [vi x] M (qI (kiA x) M) := by
  refine lr_ok (by decide +kernel) rfl ?_
  refine ri_ild a_X6_kindAbove_0 rfl ?_
  refine ri_ic a_X6_kindAbove_1 ?_
  refine ri_icmp_ne a_X6_kindAbove_2 (fun zc1 => ?_) (fun zc1 => ?_)
  · refine ri_ild a_X6_kindAbove_9 rfl ?_
    refine ri_ic a_X6_kindAbove_10 ?_
    refine ri_icmp_ne a_X6_kindAbove_11 (fun zc2 => ?_) (fun zc2 => ?_)
    · refine ri_ic a_X6_kindAbove_18 ?_
      refine ri_ireturn a_X6_kindAbove_19 rfl rfl ?_
      exact rI (by simp [kiA, *]) rfl
    · refine ri_ic a_X6_kindAbove_14 ?_
      refine ri_goto a_X6_kindAbove_15 ?_
      refine ri_ireturn a_X6_kindAbove_19 rfl rfl ?_
      exact rI (by simp [kiA, *]) rfl
  · refine ri_ic a_X6_kindAbove_5 ?_
    refine ri_goto a_X6_kindAbove_6 ?_
    refine ri_ireturn a_X6_kindAbove_19 rfl rfl ?_
    exact rI (by simp [kiA, *]) rfl
theorem ok_X6_isA {T : Tb} {S : Nat → Bool} {w : Wd} {d : Nat} (hd : 1 ≤ d) {M : Mem} (x y : Int32) : lr_Ok T S w d jX6_isA [vi x, vi y] M (qB (y = 0 ∨ y = x ∨ y = kiA x) M) := by
  refine lr_ok (by decide +kernel) rfl ?_
  refine ri_ild a_X6_isA_0 rfl ?_
  refine ri_if_eq a_X6_isA_1 (fun zc1 => ?_) (fun zc1 => ?_)
  · refine ri_ic a_X6_isA_17 ?_
    refine ri_goto a_X6_isA_18 ?_
    refine ri_ireturn a_X6_isA_22 rfl (by decide) ?_
    exact rB1 (Or.inl zc1)
  · refine ri_ild a_X6_isA_4 rfl ?_
    refine ri_ild a_X6_isA_5 rfl ?_
    refine ri_icmp_eq a_X6_isA_6 (fun zc2 => ?_) (fun zc2 => ?_)
    · refine ri_ic a_X6_isA_17 ?_
      refine ri_goto a_X6_isA_18 ?_
      refine ri_ireturn a_X6_isA_22 rfl (by decide) ?_
      exact rB1 (Or.inr (Or.inl zc2))
    · refine ri_ild a_X6_isA_9 rfl ?_
      refine ri_ild a_X6_isA_10 rfl ?_
      refine ri_cSpi (as := [vi x]) (rest := [vi y]) (d' := d - 1) a_X6_isA_11 ms_X6_kindAbove ml_X6_257 (by omega) (ok_X6_kindAbove x) (Nat.le_of_ble_eq_true rfl) rfl (fun zy3 ezy3 => ?_)
      refine ri_icmp_ne a_X6_isA_14 (fun zc4 => ?_) (fun zc4 => ?_)
      · refine ri_ic a_X6_isA_21 ?_
        refine ri_ireturn a_X6_isA_22 rfl (by decide) ?_
        exact rB0 (fun q => q.elim zc1 (fun q => q.elim zc2 (fun q => zc4 (by rw [q, ezy3]))))
      · refine ri_ic a_X6_isA_17 ?_
        refine ri_goto a_X6_isA_18 ?_
        refine ri_ireturn a_X6_isA_22 rfl (by decide) ?_
        exact rB1 (Or.inr (Or.inr (zc4.trans ezy3)))
def takV (M : Mem) (k : Nat) (i kind : Int32) : Int32 :=
  if ¬ (0 ≤ kind ∧ kind ≤ 6) then -2 else if ¬ (0 ≤ i ∧ i ≤ 15) then -12 else
  if ¬ (0 ≤ i - i / 8 * 8 ∧ i - i / 8 * 8 < M 1 0 6) then -11 else
  if 8 ≤ i then (if kind = 6 then (if fnd (M 7 0) (i - i / 8 * 8) k 0 = -1 then 0 else 1) else -13) else
  if ¬ kind = 6 ∧ (kind = 0 ∨ kind = M 2 0 (i - i / 8 * 8).toNatClampNeg ∨ kind = kiA (M 2 0 (i - i / 8 * 8).toNatClampNeg)) then i - i / 8 * 8 else -13
theorem ok_X6_taken {w : Wd} {d : Nat} (hd : 2 ≤ d) {M : Mem} {n k : Nat} (hn : M 1 0 6 = nI n) (hn8 : n ≤ 8) (hk : M 1 0 7 = nI k) (hk8 : k ≤ 8) (i kind : Int32) : lr_Ok tC sC w d jX6_taken [vo 0 0, vi i, vi kind] M (qI (takV M k i kind) M) := by
  refine lr_ok (by decide +kernel) rfl ?_
  refine ri_ild a_X6_taken_0 rfl ?_
  refine ri_ic a_X6_taken_1 ?_
  refine ri_cSpb (as := [vi kind, vi 6]) (rest := []) (d' := d - 1) a_X6_taken_3 ms_X6_within ml_X6_102 (by omega) (ok_X6_within kind 6) (Nat.le_of_ble_eq_true rfl) rfl (fun zc1 => ?_) (fun zc1 => ?_)
  · refine ri_if_ne a_X6_taken_6 (fun _ => ?_) (fun q => absurd q (by decide))
    refine ri_ild a_X6_taken_12 rfl ?_
    refine ri_ic a_X6_taken_13 ?_
    refine ri_cSpb (as := [vi i, vi 15]) (rest := []) (d' := d - 1) a_X6_taken_15 ms_X6_within ml_X6_102 (by omega) (ok_X6_within i 15) (Nat.le_of_ble_eq_true rfl) rfl (fun zc2 => ?_) (fun zc2 => ?_)
    · refine ri_if_ne a_X6_taken_18 (fun _ => ?_) (fun q => absurd q (by decide))
      refine ri_ild a_X6_taken_24 rfl ?_
      refine ri_ic a_X6_taken_25 ?_
      refine ri_irem a_X6_taken_27 (by decide) ?_
      refine ri_ist (f := fun zx3 => [some (vo 0 0), some (vi i), some (vi kind), some (vi zx3)]) a_X6_taken_28 (fun _ => rfl) (fun zx3 ezx3 => ?_)
      refine ri_ald a_X6_taken_29 rfl ?_
      refine ri_getR (t' := 1) (i' := 0) a_X6_taken_30 fl_X6_10 kC_0_0 rfl iC_0 (Or.inr ⟨rfl, rfl, rfl⟩) ?_
      refine ri_ild a_X6_taken_33 rfl ?_
      refine ri_cVpb (as := [vi zx3]) (rest := []) (d' := d - 1) a_X6_taken_34 mv_X0_has ml_X6_106 (rcC_1 (iC_1 (by decide))) (by omega) (ok_X0_has (by decide) zx3) (Nat.le_of_ble_eq_true rfl) rfl (fun zc4 => ?_) (fun zc4 => ?_)
      · refine ri_if_ne a_X6_taken_37 (fun _ => ?_) (fun q => absurd q (by decide))
        refine ri_ild a_X6_taken_43 rfl ?_
        refine ri_ic a_X6_taken_44 ?_
        refine ri_icmp_lt a_X6_taken_46 (fun zc5 => ?_) (fun zc5 => ?_)
        · refine ri_ild a_X6_taken_78 rfl ?_
          refine ri_ic a_X6_taken_79 ?_
          refine ri_icmp_eq a_X6_taken_81 (fun zc6 => ?_) (fun zc6 => ?_)
          · refine ri_ic a_X6_taken_104 ?_
            refine ri_ireturn a_X6_taken_106 rfl rfl ?_
            exact rI (by subst ezx3; rw [takV, if_neg (fun q => q zc1), if_neg (fun q => q zc2), if_neg (fun q => q zc4), if_neg (Int32.not_le.mpr zc5), if_neg (fun q => q.1 zc6)]) rfl
          · refine ri_ald a_X6_taken_84 rfl ?_
            refine ri_getR (t' := 1) (i' := 0) a_X6_taken_85 fl_X6_10 kC_0_0 rfl iC_0 (Or.inr ⟨rfl, rfl, rfl⟩) ?_
            refine ri_getR (t' := 2) (i' := 0) a_X6_taken_88 fl_X6_131 kC_1_0 rfl (iC_1 (by decide)) (Or.inl ⟨rfl, rfl, rfl⟩) ?_
            refine ri_ild a_X6_taken_91 rfl ?_
            refine ri_iaload a_X6_taken_92 lC_2 rfl (iC_2 (by decide)) (inP8 (by assumption) hn hn8) ?_
            refine ri_ild a_X6_taken_93 rfl ?_
            refine ri_cSpb (as := [vi (M 2 0 zx3.toNatClampNeg), vi kind]) (rest := []) (d' := d - 1) a_X6_taken_94 ms_X6_isA ml_X6_253 (by omega) (ok_X6_isA (by omega) (M 2 0 zx3.toNatClampNeg) kind) (Nat.le_of_ble_eq_true rfl) rfl (fun zc7 => ?_) (fun zc7 => ?_)
            · refine ri_if_eq a_X6_taken_97 (fun q => absurd q (by decide)) (fun _ => ?_)
              refine ri_ild a_X6_taken_100 rfl ?_
              refine ri_goto a_X6_taken_101 ?_
              refine ri_ireturn a_X6_taken_106 rfl rfl ?_
              exact rI (by subst ezx3; rw [takV, if_neg (fun q => q zc1), if_neg (fun q => q zc2), if_neg (fun q => q zc4), if_neg (Int32.not_le.mpr zc5), if_pos ⟨zc6, zc7⟩]) rfl
            · refine ri_if_eq a_X6_taken_97 (fun _ => ?_) (fun q => absurd q (by decide))
              refine ri_ic a_X6_taken_104 ?_
              refine ri_ireturn a_X6_taken_106 rfl rfl ?_
              exact rI (by subst ezx3; rw [takV, if_neg (fun q => q zc1), if_neg (fun q => q zc2), if_neg (fun q => q zc4), if_neg (Int32.not_le.mpr zc5), if_neg (fun q => zc7 q.2)]) rfl
        · refine ri_ild a_X6_taken_49 rfl ?_
          refine ri_ic a_X6_taken_50 ?_
          refine ri_icmp_eq a_X6_taken_52 (fun zc8 => ?_) (fun zc8 => ?_)
          · refine ri_ald a_X6_taken_60 rfl ?_
            refine ri_getR (t' := 1) (i' := 0) a_X6_taken_61 fl_X6_10 kC_0_0 rfl iC_0 (Or.inr ⟨rfl, rfl, rfl⟩) ?_
            refine ri_ild a_X6_taken_64 rfl ?_
            refine ri_cVpi (as := [vi zx3]) (rest := []) (d' := d - 1) a_X6_taken_65 mv_X0_rungOf ml_X6_140 (rcC_1 (iC_1 (by decide))) (by omega) (ok_X0_rungOf (by decide) zx3 hk hk8) (Nat.le_of_ble_eq_true rfl) rfl (fun zy9 ezy9 => ?_)
            refine ri_ic a_X6_taken_68 ?_
            refine ri_icmp_eq a_X6_taken_69 (fun zc10 => ?_) (fun zc10 => ?_)
            · refine ri_ic a_X6_taken_76 ?_
              refine ri_ireturn a_X6_taken_77 rfl rfl ?_
              exact rI (by subst ezx3; rw [takV, if_neg (fun q => q zc1), if_neg (fun q => q zc2), if_neg (fun q => q zc4), if_pos (Int32.not_lt.mp zc5), if_pos zc8, if_pos (ezy9 ▸ zc10)]) rfl
            · refine ri_ic a_X6_taken_72 ?_
              refine ri_goto a_X6_taken_73 ?_
              refine ri_ireturn a_X6_taken_77 rfl rfl ?_
              exact rI (by subst ezx3; rw [takV, if_neg (fun q => q zc1), if_neg (fun q => q zc2), if_neg (fun q => q zc4), if_pos (Int32.not_lt.mp zc5), if_pos zc8, if_neg (ezy9 ▸ zc10)]) rfl
          · refine ri_ic a_X6_taken_55 ?_
            refine ri_goto a_X6_taken_57 ?_
            refine ri_ireturn a_X6_taken_77 rfl rfl ?_
            exact rI (by subst ezx3; rw [takV, if_neg (fun q => q zc1), if_neg (fun q => q zc2), if_neg (fun q => q zc4), if_pos (Int32.not_lt.mp zc5), if_neg zc8]) rfl
      · refine ri_if_ne a_X6_taken_37 (fun q => absurd q (by decide)) (fun _ => ?_)
        refine ri_ic a_X6_taken_40 ?_
        refine ri_ireturn a_X6_taken_42 rfl rfl ?_
        exact rI (by subst ezx3; rw [takV, if_neg (fun q => q zc1), if_neg (fun q => q zc2), if_pos zc4]) rfl
    · refine ri_if_ne a_X6_taken_18 (fun q => absurd q (by decide)) (fun _ => ?_)
      refine ri_ic a_X6_taken_21 ?_
      refine ri_ireturn a_X6_taken_23 rfl rfl ?_
      exact rI (by rw [takV, if_neg (fun q => q zc1), if_pos zc2]) rfl
  · refine ri_if_ne a_X6_taken_6 (fun q => absurd q (by decide)) (fun _ => ?_)
    refine ri_ic a_X6_taken_9 ?_
    refine ri_ireturn a_X6_taken_11 rfl rfl ?_
    exact rI (by rw [takV, if_pos zc1]) rfl
theorem s4 {q : Nat} (hq : q < 4) : 0 ≤ nI q ∧ nI q ≤ 3 := ⟨nI_le (a := 0) (Nat.zero_le _) (by omega), nI_le (b := 3) (by omega) (by decide)⟩
theorem ok_X6_sheetRefusal {w : Wd} {d : Nat} (hd : 1 ≤ d) {M : Mem} {q : Nat} (hq : q < 4) : lr_Ok tC sC w d jX6_sheetRefusal [vo 0 0, vi (nI q)] M (qI (if M 19 q 1 = -1 then -11 else 0) M) := by
  refine lr_ok (by decide +kernel) rfl ?_
  refine ri_ild a_X6_sheetRefusal_0 rfl ?_
  refine ri_ic a_X6_sheetRefusal_1 ?_
  refine ri_cSpb (as := [vi (nI q), vi 3]) (rest := []) (d' := d - 1) a_X6_sheetRefusal_2 ms_X6_within ml_X6_102 (by omega) (ok_X6_within (nI q) 3) (Nat.le_of_ble_eq_true rfl) rfl (fun zc1 => ?_) (fun zc1 => ?_)
  · refine ri_if_ne a_X6_sheetRefusal_5 (fun _ => ?_) (fun q => absurd q (by decide))
    refine ri_ald a_X6_sheetRefusal_11 rfl ?_
    refine ri_getR (t' := 22) (i' := 0) a_X6_sheetRefusal_12 fl_X6_38 kC_0_7 rfl iC_0 (Or.inr ⟨rfl, rfl, rfl⟩) ?_
    refine ri_ild a_X6_sheetRefusal_15 rfl ?_
    refine ri_aaloadE (k0 := q) a_X6_sheetRefusal_16 lC_22 (by decide) iC_22 (nI_clamp (by omega)) (vp_in_nI hq (by decide)) ?_
    refine ri_getI a_X6_sheetRefusal_17 fl_X6_244 kC_19_1 rfl (iC_19 (by assumption)) ?_
    refine ri_ic a_X6_sheetRefusal_20 ?_
    refine ri_icmp_ne a_X6_sheetRefusal_21 (fun zc2 => ?_) (fun zc2 => ?_)
    · refine ri_ic a_X6_sheetRefusal_29 ?_
      refine ri_ireturn a_X6_sheetRefusal_30 rfl rfl ?_
      exact rI (by rw [if_neg zc2]) rfl
    · refine ri_ic a_X6_sheetRefusal_24 ?_
      refine ri_goto a_X6_sheetRefusal_26 ?_
      refine ri_ireturn a_X6_sheetRefusal_30 rfl rfl ?_
      exact rI (by rw [if_pos zc2]) rfl
  · refine ri_if_ne a_X6_sheetRefusal_5 (fun q => absurd q (by decide)) (fun _ => ?_)
    refine ri_ic a_X6_sheetRefusal_8 ?_
    refine ri_ireturn a_X6_sheetRefusal_10 rfl rfl ?_
    exact absurd (s4 hq) zc1
theorem no_X6_sheetRefusal {w : Wd} {d : Nat} (hd : 1 ≤ d) {M : Mem} {s : Int32} (hs : ¬ (0 ≤ s ∧ s ≤ 3)) : lr_Ok tC sC w d jX6_sheetRefusal [vo 0 0, vi s] M (qI (-2) M) := by
  refine lr_ok (by decide +kernel) rfl ?_
  refine ri_ild a_X6_sheetRefusal_0 rfl ?_
  refine ri_ic a_X6_sheetRefusal_1 ?_
  refine ri_cSpb (as := [vi s, vi 3]) (rest := []) (d' := d - 1) a_X6_sheetRefusal_2 ms_X6_within ml_X6_102 (by omega) (ok_X6_within s 3) (Nat.le_of_ble_eq_true rfl) rfl (fun zc1 => ?_) (fun zc1 => ?_)
  · refine ri_if_ne a_X6_sheetRefusal_5 (fun _ => ?_) (fun q => absurd q (by decide))
    exact absurd zc1 hs
  · refine ri_if_ne a_X6_sheetRefusal_5 (fun q => absurd q (by decide)) (fun _ => ?_)
    refine ri_ic a_X6_sheetRefusal_8 ?_
    refine ri_ireturn a_X6_sheetRefusal_10 rfl rfl ?_
    exact rI rfl rfl
theorem ok_X6_nightRefusal {w : Wd} {d : Nat} (hd : 2 ≤ d) {M : Mem} {q : Nat} (hq : q < 4) : lr_Ok tC sC w d jX6_nightRefusal [vo 0 0, vi (nI q)] M (qI (if M 19 q 1 = -1 then -11 else if M 19 q 2 ≤ M 1 0 7 then 0 else -2) M) := by
  refine lr_ok (by decide +kernel) rfl ?_
  refine ri_ald a_X6_nightRefusal_0 rfl ?_
  refine ri_ild a_X6_nightRefusal_1 rfl ?_
  refine ri_cVpi (as := [vi (nI q)]) (rest := []) (d' := d - 1) a_X6_nightRefusal_2 mv_X6_sheetRefusal ml_X6_151 (rcC_0 iC_0) (by omega) (ok_X6_sheetRefusal (by omega) hq) (Nat.le_of_ble_eq_true rfl) rfl (fun zy1 ezy1 => ?_)
  refine ri_istk (ls' := [some (vo 0 0), some (vi (nI q)), some (vi zy1)]) a_X6_nightRefusal_5 rfl ?_
  refine ri_ild a_X6_nightRefusal_6 rfl ?_
  refine ri_if_eq a_X6_nightRefusal_7 (fun zc2 => ?_) (fun zc2 => ?_)
  · refine ri_ald a_X6_nightRefusal_12 rfl ?_
    refine ri_getR (t' := 22) (i' := 0) a_X6_nightRefusal_13 fl_X6_38 kC_0_7 rfl iC_0 (Or.inr ⟨rfl, rfl, rfl⟩) ?_
    refine ri_ild a_X6_nightRefusal_16 rfl ?_
    refine ri_aaloadE (k0 := q) a_X6_nightRefusal_17 lC_22 (by decide) iC_22 (nI_clamp (by omega)) (vp_in_nI hq (by decide)) ?_
    refine ri_getI a_X6_nightRefusal_18 fl_X6_256 kC_19_2 rfl (iC_19 (by assumption)) ?_
    refine ri_ald a_X6_nightRefusal_21 rfl ?_
    refine ri_getR (t' := 1) (i' := 0) a_X6_nightRefusal_22 fl_X6_10 kC_0_0 rfl iC_0 (Or.inr ⟨rfl, rfl, rfl⟩) ?_
    refine ri_getI a_X6_nightRefusal_25 fl_X6_90 kC_1_7 rfl (iC_1 (by decide)) ?_
    refine ri_icmp_le a_X6_nightRefusal_28 (fun zc3 => ?_) (fun zc3 => ?_)
    · refine ri_ic a_X6_nightRefusal_36 ?_
      refine ri_ireturn a_X6_nightRefusal_37 rfl rfl ?_
      exact rI (by
      by_cases h : M 19 q 1 = -1
      · rw [if_pos h] at ezy1; rw [ezy1] at zc2; exact absurd zc2 (by decide)
      · rw [if_neg h, if_pos zc3]) rfl
    · refine ri_ic a_X6_nightRefusal_31 ?_
      refine ri_goto a_X6_nightRefusal_33 ?_
      refine ri_ireturn a_X6_nightRefusal_37 rfl rfl ?_
      exact rI (by
      by_cases h : M 19 q 1 = -1
      · rw [if_pos h] at ezy1; rw [ezy1] at zc2; exact absurd zc2 (by decide)
      · rw [if_neg h, if_neg zc3]) rfl
  · refine ri_ild a_X6_nightRefusal_10 rfl ?_
    refine ri_ireturn a_X6_nightRefusal_11 rfl rfl ?_
    exact rI (by
    by_cases h : M 19 q 1 = -1
    · rw [if_pos h] at ezy1; rw [if_pos h]; exact ezy1
    · rw [if_neg h] at ezy1; exact absurd ezy1 zc2) rfl
theorem no_X6_nightRefusal {w : Wd} {d : Nat} (hd : 2 ≤ d) {M : Mem} {s : Int32} (hs : ¬ (0 ≤ s ∧ s ≤ 3)) : lr_Ok tC sC w d jX6_nightRefusal [vo 0 0, vi s] M (qI (-2) M) := by
  refine lr_ok (by decide +kernel) rfl ?_
  refine ri_ald a_X6_nightRefusal_0 rfl ?_
  refine ri_ild a_X6_nightRefusal_1 rfl ?_
  refine ri_cVpi (as := [vi s]) (rest := []) (d' := d - 1) a_X6_nightRefusal_2 mv_X6_sheetRefusal ml_X6_151 (rcC_0 iC_0) (by omega) (no_X6_sheetRefusal (by omega) hs) (Nat.le_of_ble_eq_true rfl) rfl (fun zy1 ezy1 => ?_)
  refine ri_istk (ls' := [some (vo 0 0), some (vi s), some (vi zy1)]) a_X6_nightRefusal_5 rfl ?_
  refine ri_ild a_X6_nightRefusal_6 rfl ?_
  refine ri_if_eq a_X6_nightRefusal_7 (fun zc2 => ?_) (fun zc2 => ?_)
  · exact absurd zc2 (by rw [ezy1]; decide)
  · refine ri_ild a_X6_nightRefusal_10 rfl ?_
    refine ri_ireturn a_X6_nightRefusal_11 rfl rfl ?_
    exact rI ezy1 rfl
theorem ok_X6_image {w : Wd} {d : Nat} (hd : 2 ≤ d) {M : Mem} : lr_Ok tC sC w d jX6_image [vo 0 0] M (qX fun r M' => r = M 1 0 6 ∧ M' = up (blk M 1 0) 0 0 3 1) := by
  refine lr_ok (by decide +kernel) rfl ?_
  refine ri_ald a_X6_image_0 rfl ?_
  refine ri_getR (t' := 1) (i' := 1) a_X6_image_1 fl_X6_16 kC_0_1 rfl iC_0 (Or.inr ⟨rfl, rfl, rfl⟩) ?_
  refine ri_ald a_X6_image_4 rfl ?_
  refine ri_getR (t' := 1) (i' := 0) a_X6_image_5 fl_X6_10 kC_0_0 rfl iC_0 (Or.inr ⟨rfl, rfl, rfl⟩) ?_
  refine ri_cVxv (as := [vo 1 0]) (rest := []) (d' := d - 1) a_X6_image_8 mv_X0_becomeLike ml_X6_198 (rcC_1 (iC_1 (by decide))) (by omega) (ok_X0_becomeLike (by omega) (by decide) (by decide)) (Nat.le_of_ble_eq_true rfl) rfl (fun zM1 hzM1 => ?_)
  refine ri_ald a_X6_image_11 rfl ?_
  refine ri_ic a_X6_image_12 ?_
  refine ri_putZ a_X6_image_13 fp_X6_22 kC_0_3 rfl iC_0 (by decide) (fun zM2 ezM2 => ?_)
  refine ri_ald a_X6_image_16 rfl ?_
  refine ri_getR (t' := 1) (i' := 0) a_X6_image_17 fl_X6_10 kC_0_0 rfl iC_0 (Or.inr ⟨rfl, rfl, rfl⟩) ?_
  refine ri_getI a_X6_image_20 fl_X6_87 kC_1_6 rfl (iC_1 (by decide)) ?_
  refine ri_ireturn a_X6_image_23 rfl rfl ?_
  exact rX ⟨by rw [ezM2, hzM1]; rfl, by rw [ezM2, hzM1]⟩
theorem ok_X6_back {w : Wd} {d : Nat} (hd : 2 ≤ d) {M : Mem} : lr_Ok tC sC w d jX6_back [vo 0 0] M (qX fun r M' => if M 0 0 3 = 0 then r = -3 ∧ M' = M else r = M 1 1 6 ∧ M' = blk M 0 1) := by
  refine lr_ok (by decide +kernel) rfl ?_
  refine ri_ald a_X6_back_0 rfl ?_
  refine ri_getI a_X6_back_1 fl_X6_22 kC_0_3 rfl iC_0 ?_
  refine ri_if_ne a_X6_back_4 (fun zc1 => ?_) (fun zc1 => ?_)
  · refine ri_ald a_X6_back_10 rfl ?_
    refine ri_getR (t' := 1) (i' := 0) a_X6_back_11 fl_X6_10 kC_0_0 rfl iC_0 (Or.inr ⟨rfl, rfl, rfl⟩) ?_
    refine ri_ald a_X6_back_14 rfl ?_
    refine ri_getR (t' := 1) (i' := 1) a_X6_back_15 fl_X6_16 kC_0_1 rfl iC_0 (Or.inr ⟨rfl, rfl, rfl⟩) ?_
    refine ri_cVxv (as := [vo 1 1]) (rest := []) (d' := d - 1) a_X6_back_18 mv_X0_becomeLike ml_X6_198 (rcC_1 (iC_1 (by decide))) (by omega) (ok_X0_becomeLike (by omega) (by decide) (by decide)) (Nat.le_of_ble_eq_true rfl) rfl (fun zM2 hzM2 => ?_)
    refine ri_ald a_X6_back_21 rfl ?_
    refine ri_getR (t' := 1) (i' := 0) a_X6_back_22 fl_X6_10 kC_0_0 rfl iC_0 (Or.inr ⟨rfl, rfl, rfl⟩) ?_
    refine ri_getI a_X6_back_25 fl_X6_87 kC_1_6 rfl (iC_1 (by decide)) ?_
    refine ri_ireturn a_X6_back_28 rfl rfl ?_
    exact rX (by rw [if_neg zc1]; exact ⟨by rw [hzM2]; rfl, hzM2⟩)
  · refine ri_ic a_X6_back_7 ?_
    refine ri_ireturn a_X6_back_9 rfl rfl ?_
    exact rX (by rw [if_pos zc1]; exact ⟨rfl, rfl⟩)
theorem ok_X6_join {w : Wd} {d : Nat} (hd : 1 ≤ d) {M : Mem} {n : Nat} (hn : M 1 0 6 = nI n) (hn8 : n ≤ 8) (a b : Int32) : lr_Ok tC sC w d jX6_join [vo 0 0, vi a, vi b] M (qX fun r M' => if (0 ≤ a ∧ a ≤ 59) ∧ 0 ≤ b ∧ b ≤ 99999 then (if n < 8 then r = nI n ∧ M' = up (up (up (up (up (up M 2 0 n (a / 10)) 3 0 n (a - a / 10 * 10)) 4 0 n (b / 1000)) 5 0 n (b - b / 1000 * 1000)) 6 0 n 0) 1 0 6 (nI (n + 1)) else r = -4 ∧ M' = M) else r = -2 ∧ M' = M) := by
  refine lr_ok (by decide +kernel) rfl ?_
  refine ri_ild a_X6_join_0 rfl ?_
  refine ri_ic a_X6_join_1 ?_
  refine ri_cSpb (as := [vi a, vi 59]) (rest := []) (d' := d - 1) a_X6_join_3 ms_X6_within ml_X6_102 (by omega) (ok_X6_within a 59) (Nat.le_of_ble_eq_true rfl) rfl (fun zc1 => ?_) (fun zc1 => ?_)
  · refine ri_if_eq a_X6_join_6 (fun q => absurd q (by decide)) (fun _ => ?_)
    refine ri_ild a_X6_join_9 rfl ?_
    refine ri_ic a_X6_join_10 ?_
    refine ri_cSpb (as := [vi b, vi 99999]) (rest := []) (d' := d - 1) a_X6_join_12 ms_X6_within ml_X6_102 (by omega) (ok_X6_within b 99999) (Nat.le_of_ble_eq_true rfl) rfl (fun zc2 => ?_) (fun zc2 => ?_)
    · refine ri_if_ne a_X6_join_15 (fun _ => ?_) (fun q => absurd q (by decide))
      refine ri_ald a_X6_join_21 rfl ?_
      refine ri_getR (t' := 1) (i' := 0) a_X6_join_22 fl_X6_10 kC_0_0 rfl iC_0 (Or.inr ⟨rfl, rfl, rfl⟩) ?_
      refine ri_getI a_X6_join_25 fl_X6_87 kC_1_6 rfl (iC_1 (by decide)) ?_
      refine ri_ic a_X6_join_28 ?_
      refine ri_icmp_lt a_X6_join_30 (fun zc3 => ?_) (fun zc3 => ?_)
      · refine ri_ald a_X6_join_36 rfl ?_
        refine ri_getR (t' := 1) (i' := 0) a_X6_join_37 fl_X6_10 kC_0_0 rfl iC_0 (Or.inr ⟨rfl, rfl, rfl⟩) ?_
        refine ri_getI a_X6_join_40 fl_X6_87 kC_1_6 rfl (iC_1 (by decide)) ?_
        refine ri_ist (f := fun zx4 => [some (vo 0 0), some (vi a), some (vi b), some (vi zx4)]) a_X6_join_43 (fun _ => rfl) (fun zx4 ezx4 => ?_)
        refine ri_ald a_X6_join_44 rfl ?_
        refine ri_getR (t' := 1) (i' := 0) a_X6_join_45 fl_X6_10 kC_0_0 rfl iC_0 (Or.inr ⟨rfl, rfl, rfl⟩) ?_
        refine ri_getR (t' := 2) (i' := 0) a_X6_join_48 fl_X6_131 kC_1_0 rfl (iC_1 (by decide)) (Or.inl ⟨rfl, rfl, rfl⟩) ?_
        refine ri_ild a_X6_join_51 rfl ?_
        refine ri_ild a_X6_join_52 rfl ?_
        refine ri_ic a_X6_join_53 ?_
        refine ri_idiv a_X6_join_55 (by decide) ?_
        refine ri_iastore a_X6_join_56 lC_2 rfl (iC_2 (by decide)) (by rw [ezx4, hn]; rw [hn] at zc3; exact vp_in_nI ((nI_ltI (b := 8) (by omega) (by decide)).1 zc3) (by decide)) (fun zM5 ezM5 => ?_)
        refine ri_ald a_X6_join_57 rfl ?_
        refine ri_getR (t' := 1) (i' := 0) a_X6_join_58 fl_X6_10 kC_0_0 rfl iC_0 (Or.inr ⟨rfl, rfl, rfl⟩) ?_
        refine ri_getR (t' := 3) (i' := 0) a_X6_join_61 fl_X6_134 kC_1_1 rfl (iC_1 (by decide)) (Or.inl ⟨rfl, rfl, rfl⟩) ?_
        refine ri_ild a_X6_join_64 rfl ?_
        refine ri_ild a_X6_join_65 rfl ?_
        refine ri_ic a_X6_join_66 ?_
        refine ri_irem a_X6_join_68 (by decide) ?_
        refine ri_iastore a_X6_join_69 lC_3 rfl (iC_3 (by decide)) (by rw [ezx4, hn]; rw [hn] at zc3; exact vp_in_nI ((nI_ltI (b := 8) (by omega) (by decide)).1 zc3) (by decide)) (fun zM6 ezM6 => ?_)
        refine ri_ald a_X6_join_70 rfl ?_
        refine ri_getR (t' := 1) (i' := 0) a_X6_join_71 fl_X6_10 kC_0_0 rfl iC_0 (Or.inr ⟨rfl, rfl, rfl⟩) ?_
        refine ri_getR (t' := 4) (i' := 0) a_X6_join_74 fl_X6_118 kC_1_2 rfl (iC_1 (by decide)) (Or.inl ⟨rfl, rfl, rfl⟩) ?_
        refine ri_ild a_X6_join_77 rfl ?_
        refine ri_ild a_X6_join_78 rfl ?_
        refine ri_ic a_X6_join_79 ?_
        refine ri_idiv a_X6_join_82 (by decide) ?_
        refine ri_iastore a_X6_join_83 lC_4 rfl (iC_4 (by decide)) (by rw [ezx4, hn]; rw [hn] at zc3; exact vp_in_nI ((nI_ltI (b := 8) (by omega) (by decide)).1 zc3) (by decide)) (fun zM7 ezM7 => ?_)
        refine ri_ald a_X6_join_84 rfl ?_
        refine ri_getR (t' := 1) (i' := 0) a_X6_join_85 fl_X6_10 kC_0_0 rfl iC_0 (Or.inr ⟨rfl, rfl, rfl⟩) ?_
        refine ri_getR (t' := 5) (i' := 0) a_X6_join_88 fl_X6_121 kC_1_3 rfl (iC_1 (by decide)) (Or.inl ⟨rfl, rfl, rfl⟩) ?_
        refine ri_ild a_X6_join_91 rfl ?_
        refine ri_ild a_X6_join_92 rfl ?_
        refine ri_ic a_X6_join_93 ?_
        refine ri_irem a_X6_join_96 (by decide) ?_
        refine ri_iastore a_X6_join_97 lC_5 rfl (iC_5 (by decide)) (by rw [ezx4, hn]; rw [hn] at zc3; exact vp_in_nI ((nI_ltI (b := 8) (by omega) (by decide)).1 zc3) (by decide)) (fun zM8 ezM8 => ?_)
        refine ri_ald a_X6_join_98 rfl ?_
        refine ri_getR (t' := 1) (i' := 0) a_X6_join_99 fl_X6_10 kC_0_0 rfl iC_0 (Or.inr ⟨rfl, rfl, rfl⟩) ?_
        refine ri_getR (t' := 6) (i' := 0) a_X6_join_102 fl_X6_137 kC_1_4 rfl (iC_1 (by decide)) (Or.inl ⟨rfl, rfl, rfl⟩) ?_
        refine ri_ild a_X6_join_105 rfl ?_
        refine ri_ic a_X6_join_106 ?_
        refine ri_iastore a_X6_join_107 lC_6 rfl (iC_6 (by decide)) (by rw [ezx4, hn]; rw [hn] at zc3; exact vp_in_nI ((nI_ltI (b := 8) (by omega) (by decide)).1 zc3) (by decide)) (fun zM9 ezM9 => ?_)
        refine ri_ald a_X6_join_108 rfl ?_
        refine ri_getR (t' := 1) (i' := 0) a_X6_join_109 fl_X6_10 kC_0_0 rfl iC_0 (Or.inr ⟨rfl, rfl, rfl⟩) ?_
        refine ri_dup a_X6_join_112 (fun _ h => by cases h) ?_
        refine ri_getI a_X6_join_113 fl_X6_87 kC_1_6 rfl (iC_1 (by decide)) ?_
        refine ri_ic a_X6_join_116 ?_
        refine ri_iadd a_X6_join_117 ?_
        refine ri_putI a_X6_join_118 fp_X6_87 kC_1_6 rfl (iC_1 (by decide)) (fun zM10 ezM10 => ?_)
        refine ri_ild a_X6_join_121 rfl ?_
        refine ri_ireturn a_X6_join_122 rfl rfl ?_
        have h8 : n < 8 := (nI_ltI (b := 8) (by omega) (by decide)).1 (hn ▸ zc3)
        rw [hn] at ezx4
        subst ezx4
        rw [nI_clamp (by omega)] at ezM5 ezM6 ezM7 ezM8 ezM9
        exact rX (by
          rw [if_pos ⟨zc1, zc2⟩, if_pos h8]
          refine ⟨rfl, ?_⟩
          have e : zM9 1 0 6 = nI n := by rw [ezM9, ezM8, ezM7, ezM6, ezM5]; exact hn
          rw [ezM10, e, nI_1, ezM9, ezM8, ezM7, ezM6, ezM5])
      · refine ri_ic a_X6_join_33 ?_
        refine ri_ireturn a_X6_join_35 rfl rfl ?_
        exact rX (by rw [if_pos ⟨zc1, zc2⟩, if_neg (fun q => zc3 (by rw [hn]; exact nI_lt (b := 8) q (by decide)))]; exact ⟨rfl, rfl⟩)
    · refine ri_if_ne a_X6_join_15 (fun q => absurd q (by decide)) (fun _ => ?_)
      refine ri_ic a_X6_join_18 ?_
      refine ri_ireturn a_X6_join_20 rfl rfl ?_
      exact rX (by rw [if_neg (fun q => zc2 q.2)]; exact ⟨rfl, rfl⟩)
  · refine ri_if_eq a_X6_join_6 (fun _ => ?_) (fun q => absurd q (by decide))
    refine ri_ic a_X6_join_18 ?_
    refine ri_ireturn a_X6_join_20 rfl rfl ?_
    exact rX (by rw [if_neg (fun q => zc1 q.1)]; exact ⟨rfl, rfl⟩)

