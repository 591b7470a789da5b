/-! class: sheet -/
theorem ok_X6_sheet {w : Wd} {d : Nat} (hd : 2 ≤ d) {M : Mem} {q : Nat} (hq : q < 4) (so n : Int32) : lr_Ok tC sC w d jX6_sheet [vo 0 0, vi (nI q), vi so, vi n] M (qX fun r M' => if so = -1 then r = 1 ∧ M' = zer M q (-1) 0 else if (0 ≤ so ∧ so ≤ 2) ∧ n ≤ 40 then (if n < 0 then r = -14 ∧ M' = M else r = 1 ∧ M' = zer M q so n) else r = -2 ∧ M' = M) := by
  refine lr_ok (by decide +kernel) rfl ?_
  refine ri_ild a_X6_sheet_0 rfl ?_
  refine ri_ic a_X6_sheet_1 ?_
  refine ri_icmp_ne a_X6_sheet_2 (fun zc1 => ?_) (fun zc1 => ?_)
  · refine ri_ic a_X6_sheet_9 ?_
    refine ri_istk (ls' := [some (vo 0 0), some (vi (nI q)), some (vi so), some (vi n), some (vi 0)]) a_X6_sheet_10 rfl ?_
    refine ri_ild a_X6_sheet_12 rfl ?_
    refine ri_ic a_X6_sheet_13 ?_
    refine ri_cSpb (as := [vi (nI q), vi 3]) (rest := []) (d' := d - 1) a_X6_sheet_14 ms_X6_within ml_X6_102 (by omega) (ok_X6_within (nI q) 3) (Nat.le_of_ble_eq_true rfl) rfl (fun zc2 => ?_) (fun zc2 => ?_)
    · refine ri_if_eq a_X6_sheet_17 (fun q => absurd q (by decide)) (fun _ => ?_)
      refine ri_ild a_X6_sheet_20 rfl ?_
      refine ri_if_ne a_X6_sheet_22 (fun q => absurd q (by decide)) (fun _ => ?_)
      refine ri_ild a_X6_sheet_25 rfl ?_
      refine ri_ic a_X6_sheet_26 ?_
      refine ri_cSpb (as := [vi so, vi 2]) (rest := []) (d' := d - 1) a_X6_sheet_27 ms_X6_within ml_X6_102 (by omega) (ok_X6_within so 2) (Nat.le_of_ble_eq_true rfl) rfl (fun zc3 => ?_) (fun zc3 => ?_)
      · refine ri_if_eq a_X6_sheet_30 (fun q => absurd q (by decide)) (fun _ => ?_)
        refine ri_ild a_X6_sheet_33 rfl ?_
        refine ri_if_ne a_X6_sheet_35 (fun q => absurd q (by decide)) (fun _ => ?_)
        refine ri_ild a_X6_sheet_38 rfl ?_
        refine ri_ic a_X6_sheet_39 ?_
        refine ri_icmp_le a_X6_sheet_41 (fun zc4 => ?_) (fun zc4 => ?_)
        · refine ri_ild a_X6_sheet_47 rfl ?_
          refine ri_if_ne a_X6_sheet_49 (fun q => absurd q (by decide)) (fun _ => ?_)
          refine ri_ild a_X6_sheet_52 rfl ?_
          refine ri_if_ge a_X6_sheet_53 (fun zc5 => ?_) (fun zc5 => ?_)
          · refine ri_ald a_X6_sheet_59 rfl ?_
            refine ri_getR (t' := 22) (i' := 0) a_X6_sheet_60 fl_X6_38 kC_0_7 rfl iC_0 (Or.inr ⟨rfl, rfl, rfl⟩) ?_
            refine ri_ild a_X6_sheet_63 rfl ?_
            refine ri_aaloadE (k0 := q) a_X6_sheet_64 lC_22 (by decide) iC_22 (nI_clamp (by omega)) (vp_in_nI hq (by decide)) ?_
            refine ri_ild a_X6_sheet_65 rfl ?_
            refine ri_ild a_X6_sheet_66 rfl ?_
            refine ri_if_eq a_X6_sheet_68 (fun _ => ?_) (fun q => absurd q (by decide))
            refine ri_ild a_X6_sheet_75 rfl ?_
            refine ri_cVxv (as := [vi so, vi n]) (rest := []) (d' := d - 1) a_X6_sheet_76 mv_X4_becomeZeros ml_X6_229 (rcC_19 (iC_19 (by assumption))) (by omega) (ok_X4_becomeZeros (by omega) hq so n) (Nat.le_of_ble_eq_true rfl) rfl (fun zM6 hzM6 => ?_)
            refine ri_ic a_X6_sheet_79 ?_
            refine ri_ireturn a_X6_sheet_80 rfl rfl ?_
            exact rX (by rw [if_neg zc1, if_pos ⟨zc3, zc4⟩, if_neg (Int32.not_lt.mpr zc5)]; exact ⟨rfl, hzM6⟩)
          · refine ri_ic a_X6_sheet_56 ?_
            refine ri_ireturn a_X6_sheet_58 rfl rfl ?_
            exact rX (by rw [if_neg zc1, if_pos ⟨zc3, zc4⟩, if_pos (Int32.not_le.mp zc5)]; exact ⟨rfl, rfl⟩)
        · refine ri_ic a_X6_sheet_44 ?_
          refine ri_ireturn a_X6_sheet_46 rfl rfl ?_
          exact rX (by rw [if_neg zc1, if_neg (fun q => zc4 q.2)]; exact ⟨rfl, rfl⟩)
      · refine ri_if_eq a_X6_sheet_30 (fun _ => ?_) (fun q => absurd q (by decide))
        refine ri_ic a_X6_sheet_44 ?_
        refine ri_ireturn a_X6_sheet_46 rfl rfl ?_
        exact rX (by rw [if_neg zc1, if_neg (fun q => zc3 q.1)]; exact ⟨rfl, rfl⟩)
    · refine ri_if_eq a_X6_sheet_17 (fun _ => ?_) (fun q => absurd q (by decide))
      refine ri_ic a_X6_sheet_44 ?_
      refine ri_ireturn a_X6_sheet_46 rfl rfl ?_
      exact absurd (s4 hq) zc2
  · refine ri_ic a_X6_sheet_5 ?_
    refine ri_goto a_X6_sheet_6 ?_
    refine ri_istk (ls' := [some (vo 0 0), some (vi (nI q)), some (vi so), some (vi n), some (vi 1)]) a_X6_sheet_10 rfl ?_
    refine ri_ild a_X6_sheet_12 rfl ?_
    refine ri_ic a_X6_sheet_13 ?_
    refine ri_cSpb (as := [vi (nI q), vi 3]) (rest := []) (d' := d - 1) a_X6_sheet_14 ms_X6_within ml_X6_102 (by omega) (ok_X6_within (nI q) 3) (Nat.le_of_ble_eq_true rfl) rfl (fun zc7 => ?_) (fun zc7 => ?_)
    · refine ri_if_eq a_X6_sheet_17 (fun q => absurd q (by decide)) (fun _ => ?_)
      refine ri_ild a_X6_sheet_20 rfl ?_
      refine ri_if_ne a_X6_sheet_22 (fun _ => ?_) (fun q => absurd q (by decide))
      refine ri_ild a_X6_sheet_33 rfl ?_
      refine ri_if_ne a_X6_sheet_35 (fun _ => ?_) (fun q => absurd q (by decide))
      refine ri_ild a_X6_sheet_47 rfl ?_
      refine ri_if_ne a_X6_sheet_49 (fun _ => ?_) (fun q => absurd q (by decide))
      refine ri_ald a_X6_sheet_59 rfl ?_
      refine ri_getR (t' := 22) (i' := 0) a_X6_sheet_60 fl_X6_38 kC_0_7 rfl iC_0 (Or.inr ⟨rfl, rfl, rfl⟩) ?_
      refine ri_ild a_X6_sheet_63 rfl ?_
      refine ri_aaloadE (k0 := q) a_X6_sheet_64 lC_22 (by decide) iC_22 (nI_clamp (by omega)) (vp_in_nI hq (by decide)) ?_
      refine ri_ild a_X6_sheet_65 rfl ?_
      refine ri_ild a_X6_sheet_66 rfl ?_
      refine ri_if_eq a_X6_sheet_68 (fun q => absurd q (by decide)) (fun _ => ?_)
      refine ri_ic a_X6_sheet_71 ?_
      refine ri_goto a_X6_sheet_72 ?_
      refine ri_cVxv (as := [vi so, vi 0]) (rest := []) (d' := d - 1) a_X6_sheet_76 mv_X4_becomeZeros ml_X6_229 (rcC_19 (iC_19 (by assumption))) (by omega) (ok_X4_becomeZeros (by omega) hq so 0) (Nat.le_of_ble_eq_true rfl) rfl (fun zM8 hzM8 => ?_)
      refine ri_ic a_X6_sheet_79 ?_
      refine ri_ireturn a_X6_sheet_80 rfl rfl ?_
      exact rX (by rw [if_pos zc1]; exact ⟨rfl, by rw [hzM8, zc1]⟩)
    · refine ri_if_eq a_X6_sheet_17 (fun _ => ?_) (fun q => absurd q (by decide))
      refine ri_ic a_X6_sheet_44 ?_
      refine ri_ireturn a_X6_sheet_46 rfl rfl ?_
      exact absurd (s4 hq) zc7
theorem no_X6_sheet {w : Wd} {d : Nat} (hd : 1 ≤ d) {M : Mem} {s : Int32} (hs : ¬ (0 ≤ s ∧ s ≤ 3)) (so n : Int32) : lr_Ok tC sC w d jX6_sheet [vo 0 0, vi s, vi so, vi n] M (qI (-2) M) := by
  refine lr_ok (by decide +kernel) rfl ?_
  refine ri_ild a_X6_sheet_0 rfl ?_
  refine ri_ic a_X6_sheet_1 ?_
  refine ri_icmp_ne a_X6_sheet_2 (fun zc1 => ?_) (fun zc1 => ?_)
  · refine ri_ic a_X6_sheet_9 ?_
    refine ri_istk (ls' := [some (vo 0 0), some (vi s), some (vi so), some (vi n), some (vi 0)]) a_X6_sheet_10 rfl ?_
    refine ri_ild a_X6_sheet_12 rfl ?_
    refine ri_ic a_X6_sheet_13 ?_
    refine ri_cSpb (as := [vi s, vi 3]) (rest := []) (d' := d - 1) a_X6_sheet_14 ms_X6_within ml_X6_102 (by omega) (ok_X6_within s 3) (Nat.le_of_ble_eq_true rfl) rfl (fun zc2 => ?_) (fun zc2 => ?_)
    · refine ri_if_eq a_X6_sheet_17 (fun q => absurd q (by decide)) (fun _ => ?_)
      exact absurd (by assumption) hs
    · refine ri_if_eq a_X6_sheet_17 (fun _ => ?_) (fun q => absurd q (by decide))
      refine ri_ic a_X6_sheet_44 ?_
      refine ri_ireturn a_X6_sheet_46 rfl rfl ?_
      exact rI rfl rfl
  · refine ri_ic a_X6_sheet_5 ?_
    refine ri_goto a_X6_sheet_6 ?_
    refine ri_istk (ls' := [some (vo 0 0), some (vi s), some (vi so), some (vi n), some (vi 1)]) a_X6_sheet_10 rfl ?_
    refine ri_ild a_X6_sheet_12 rfl ?_
    refine ri_ic a_X6_sheet_13 ?_
    refine ri_cSpb (as := [vi s, vi 3]) (rest := []) (d' := d - 1) a_X6_sheet_14 ms_X6_within ml_X6_102 (by omega) (ok_X6_within s 3) (Nat.le_of_ble_eq_true rfl) rfl (fun zc3 => ?_) (fun zc3 => ?_)
    · refine ri_if_eq a_X6_sheet_17 (fun q => absurd q (by decide)) (fun _ => ?_)
      exact absurd (by assumption) hs
    · refine ri_if_eq a_X6_sheet_17 (fun _ => ?_) (fun q => absurd q (by decide))
      refine ri_ic a_X6_sheet_44 ?_
      refine ri_ireturn a_X6_sheet_46 rfl rfl ?_
      exact rI rfl rfl
theorem no_X6_years {w : Wd} {d : Nat} (hd : 5 ≤ d) {M : Mem} {s : Int32} (hs : ¬ (0 ≤ s ∧ s ≤ 3)) (x : Int32) : lr_Ok tC sC w d jX6_years [vo 0 0, vi s, vi x] M (qI (-2) M) := by
  refine lr_ok (by decide +kernel) rfl ?_
  refine ri_ald a_X6_years_0 rfl ?_
  refine ri_ild a_X6_years_1 rfl ?_
  refine ri_cVpi (as := [vi s]) (rest := []) (d' := d - 1) a_X6_years_2 mv_X6_nightRefusal ml_X6_215 (rcC_0 iC_0) (by omega) (no_X6_nightRefusal (by omega) hs) (Nat.le_of_ble_eq_true rfl) rfl (fun zy1 ezy1 => ?_)
  refine ri_istk (ls' := [some (vo 0 0), some (vi s), some (vi x), some (vi zy1), none, none, none]) a_X6_years_5 rfl ?_
  refine ri_ild a_X6_years_6 rfl ?_
  refine ri_if_eq a_X6_years_7 (fun zc2 => ?_) (fun zc2 => ?_)
  · exact absurd zc2 (by rw [ezy1]; decide)
  · refine ri_ild a_X6_years_10 rfl ?_
    refine ri_ireturn a_X6_years_11 rfl rfl ?_
    exact rI ezy1 rfl
theorem no_X6_laws {w : Wd} {d : Nat} (hd : 5 ≤ d) {M : Mem} {s : Int32} (hs : ¬ (0 ≤ s ∧ s ≤ 3))  : lr_Ok tC sC w d jX6_laws [vo 0 0, vi s] M (qI (-2) M) := by
  refine lr_ok (by decide +kernel) rfl ?_
  refine ri_ald a_X6_laws_0 rfl ?_
  refine ri_ild a_X6_laws_1 rfl ?_
  refine ri_cVpi (as := [vi s]) (rest := []) (d' := d - 1) a_X6_laws_2 mv_X6_nightRefusal ml_X6_215 (rcC_0 iC_0) (by omega) (no_X6_nightRefusal (by omega) hs) (Nat.le_of_ble_eq_true rfl) rfl (fun zy1 ezy1 => ?_)
  refine ri_istk (ls' := [some (vo 0 0), some (vi s), some (vi zy1), none, none]) a_X6_laws_5 rfl ?_
  refine ri_ild a_X6_laws_6 rfl ?_
  refine ri_if_eq a_X6_laws_7 (fun zc2 => ?_) (fun zc2 => ?_)
  · exact absurd zc2 (by rw [ezy1]; decide)
  · refine ri_ild a_X6_laws_10 rfl ?_
    refine ri_ireturn a_X6_laws_11 rfl rfl ?_
    exact rI ezy1 rfl
theorem no_X6_heights {w : Wd} {d : Nat} (hd : 5 ≤ d) {M : Mem} {s : Int32} (hs : ¬ (0 ≤ s ∧ s ≤ 3)) (p x : Int32) : lr_Ok tC sC w d jX6_heights [vo 0 0, vi s, vi p, vi x] M (qI (-2) M) := by
  refine lr_ok (by decide +kernel) rfl ?_
  refine ri_ald a_X6_heights_0 rfl ?_
  refine ri_ild a_X6_heights_1 rfl ?_
  refine ri_cVpi (as := [vi s]) (rest := []) (d' := d - 1) a_X6_heights_2 mv_X6_nightRefusal ml_X6_215 (rcC_0 iC_0) (by omega) (no_X6_nightRefusal (by omega) hs) (Nat.le_of_ble_eq_true rfl) rfl (fun zy1 ezy1 => ?_)
  refine ri_istk (ls' := [some (vo 0 0), some (vi s), some (vi p), some (vi x), some (vi zy1), none, none, none]) a_X6_heights_5 rfl ?_
  refine ri_ild a_X6_heights_7 rfl ?_
  refine ri_if_eq a_X6_heights_9 (fun zc2 => ?_) (fun zc2 => ?_)
  · exact absurd zc2 (by rw [ezy1]; decide)
  · refine ri_ild a_X6_heights_12 rfl ?_
    refine ri_ireturn a_X6_heights_14 rfl rfl ?_
    exact rI ezy1 rfl
theorem no_X6_kinds {w : Wd} {d : Nat} (hd : 5 ≤ d) {M : Mem} {s : Int32} (hs : ¬ (0 ≤ s ∧ s ≤ 3)) (p x : Int32) : lr_Ok tC sC w d jX6_kinds [vo 0 0, vi s, vi p, vi x] M (qI (-2) M) := by
  refine lr_ok (by decide +kernel) rfl ?_
  refine ri_ald a_X6_kinds_0 rfl ?_
  refine ri_ild a_X6_kinds_1 rfl ?_
  refine ri_cVpi (as := [vi s]) (rest := []) (d' := d - 1) a_X6_kinds_2 mv_X6_nightRefusal ml_X6_215 (rcC_0 iC_0) (by omega) (no_X6_nightRefusal (by omega) hs) (Nat.le_of_ble_eq_true rfl) rfl (fun zy1 ezy1 => ?_)
  refine ri_istk (ls' := [some (vo 0 0), some (vi s), some (vi p), some (vi x), some (vi zy1), none, none, none, none]) a_X6_kinds_5 rfl ?_
  refine ri_ild a_X6_kinds_7 rfl ?_
  refine ri_if_eq a_X6_kinds_9 (fun zc2 => ?_) (fun zc2 => ?_)
  · exact absurd zc2 (by rw [ezy1]; decide)
  · refine ri_ild a_X6_kinds_12 rfl ?_
    refine ri_ireturn a_X6_kinds_14 rfl rfl ?_
    exact rI ezy1 rfl
theorem no_X6_stand {w : Wd} {d : Nat} (hd : 5 ≤ d) {M : Mem} {s : Int32} (hs : ¬ (0 ≤ s ∧ s ≤ 3)) (x : Int32) : lr_Ok tC sC w d jX6_stand [vo 0 0, vi s, vi x] M (qI (-2) M) := by
  refine lr_ok (by decide +kernel) rfl ?_
  refine ri_ald a_X6_stand_0 rfl ?_
  refine ri_ild a_X6_stand_1 rfl ?_
  refine ri_cVpi (as := [vi s]) (rest := []) (d' := d - 1) a_X6_stand_2 mv_X6_sheetRefusal ml_X6_151 (rcC_0 iC_0) (by omega) (no_X6_sheetRefusal (by omega) hs) (Nat.le_of_ble_eq_true rfl) rfl (fun zy1 ezy1 => ?_)
  refine ri_istk (ls' := [some (vo 0 0), some (vi s), some (vi x), some (vi zy1), none]) a_X6_stand_5 rfl ?_
  refine ri_ild a_X6_stand_6 rfl ?_
  refine ri_if_eq a_X6_stand_7 (fun zc2 => ?_) (fun zc2 => ?_)
  · exact absurd zc2 (by rw [ezy1]; decide)
  · refine ri_ild a_X6_stand_10 rfl ?_
    refine ri_ireturn a_X6_stand_11 rfl rfl ?_
    exact rI ezy1 rfl

