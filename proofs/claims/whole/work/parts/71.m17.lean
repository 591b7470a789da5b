/-! reference: sheets, the host -/
def shZ (N : Mem) (q : Nat) (so n : Int32) : Mem := shS (up (up N 11 0 q so) 12 0 q n) q 40 (fun _ => 0)
theorem in12 {so : Int32} : ((-1 : Int32) ≤ so ∧ so ≤ 2) ∧ ¬ so = -1 ↔ 0 ≤ so ∧ so ≤ 2 := by
  have e0 : (0 : Int32).toInt = 0 := rfl
  have e1 : (-1 : Int32).toInt = -1 := rfl
  have e2 : (2 : Int32).toInt = 2 := rfl
  rw [Int32.le_iff_toInt_le, Int32.le_iff_toInt_le, Int32.le_iff_toInt_le, ← Int32.toInt_inj, e0, e1, e2]
  omega
theorem ok_X7_sheet {w : Wd} {d : Nat} (hd : 1 ≤ d) {N : Mem} {q : Nat} (hq : q < 4) (so n : Int32) : lr_Ok tM sM w d jX7_sheet [vo 0 0, vi (nI q), vi so, vi n] N (qX fun r N' => if so = -1 then r = 1 ∧ N' = shZ N q (-1) 0 else if (0 ≤ so ∧ so ≤ 2) ∧ n ≤ 40 then (if n < 0 then r = -14 ∧ N' = N else r = 1 ∧ N' = shZ N q so n) else r = -2 ∧ N' = N) := by
  have loop : ∀ N0 : Mem, ∀ r i, 40 = i + r → lr_W tM sM w d jX7_sheet 70 [some (vo 0 0), some (vi (nI q)), some (vi so), some (vi n), some (vi (nI i))] [] (shS N0 q i (fun _ => 0)) (qX fun r N' => r = 1 ∧ N' = shS N0 q 40 (fun _ => 0)) := by
    intro N0 r
    induction r with
    | zero =>
      intro i hi
      have : i = 40 := by omega
      subst this
      generalize shS N0 q 40 (fun _ => 0) = N1
      refine ri_ild a_X7_sheet_70 rfl ?_
      refine ri_ic a_X7_sheet_72 ?_
      refine ri_icmp_ge a_X7_sheet_74 (fun zc11 => ?_) (fun zc11 => ?_)
      · refine ri_ic a_X7_sheet_96 ?_
        refine ri_ireturn a_X7_sheet_97 rfl rfl ?_
        exact rX ⟨rfl, rfl⟩
      · exact absurd (by decide) zc11
    | succ r ih =>
      intro i hi
      have hih := ih (i + 1) (by omega)
      rw [← shS_s] at hih
      try dsimp only at hih
      generalize shS N0 q i (fun _ => 0) = N1 at hih ⊢
      refine ri_ild a_X7_sheet_70 rfl ?_
      refine ri_ic a_X7_sheet_72 ?_
      refine ri_icmp_ge a_X7_sheet_74 (fun zc11 => ?_) (fun zc11 => ?_)
      · exact absurd zc11 (nI_ge (b := 40) (by omega) (by decide))
      · refine ri_ald a_X7_sheet_77 rfl ?_
        refine ri_getR (t' := 13) (i' := 0) a_X7_sheet_78 fl_X7_46 kM_0_19 rfl iM_0 (Or.inr ⟨rfl, rfl, rfl⟩) ?_
        refine ri_ic a_X7_sheet_81 ?_
        refine ri_ild a_X7_sheet_83 rfl ?_
        refine ri_imul a_X7_sheet_84 ?_
        refine ri_ild a_X7_sheet_85 rfl ?_
        refine ri_iadd a_X7_sheet_87 ?_
        refine ri_ic a_X7_sheet_88 ?_
        refine ri_iastore a_X7_sheet_89 lM_13 rfl iM_13 (by rw [nI_40a]; exact vp_in_nI (by omega) (by decide)) (fun zM12 ezM12 => ?_)
        refine ri_iinc (c0 := 1) (f := fun zx13 => [some (vo 0 0), some (vi (nI q)), some (vi so), some (vi n), some (vi zx13)]) a_X7_sheet_90 rfl (by decide) (fun _ => rfl) (fun zx13 ezx13 => ?_)
        refine ri_goto a_X7_sheet_93 ?_
        rw [nI_40a, nI_clamp (by omega)] at ezM12
        rw [ezx13, nI_1, ezM12]
        exact hih
  have go : ∀ (N0 : Mem), lr_W tM sM w d jX7_sheet 70 [some (vo 0 0), some (vi (nI q)), some (vi so), some (vi n), some (vi 0)] [] N0 (qX fun r N' => r = 1 ∧ N' = shS N0 q 40 (fun _ => 0)) := fun N0 => by
    have := loop N0 40 0 rfl
    rw [shS_0] at this
    exact this
  refine lr_ok (by decide +kernel) rfl ?_
  by_cases h1 : so = -1
  · subst h1
    refine ri_ild a_X7_sheet_0 rfl ?_
    refine ri_ic a_X7_sheet_1 ?_
    refine ri_ic a_X7_sheet_2 ?_
    refine ri_cSpb (as := [vi (nI q), vi 0, vi 3]) (rest := []) (d' := d - 1) a_X7_sheet_3 ms_X7_in ml_X7_96 (by omega) (ok_X7_in (nI q) 0 3) (Nat.le_of_ble_eq_true rfl) rfl (fun zc1 => ?_) (fun zc1 => ?_)
    · refine ri_if_eq a_X7_sheet_6 (fun q => absurd q (by decide)) (fun _ => ?_)
      refine ri_ild a_X7_sheet_9 rfl ?_
      refine ri_ic a_X7_sheet_10 ?_
      refine ri_ic a_X7_sheet_11 ?_
      refine ri_cSpb (as := [vi (-1), vi (-1), vi 2]) (rest := []) (d' := d - 1) a_X7_sheet_12 ms_X7_in ml_X7_96 (by omega) (ok_X7_in (-1) (-1) 2) (Nat.le_of_ble_eq_true rfl) rfl (fun zc2 => ?_) (fun zc2 => ?_)
      · refine ri_if_eq a_X7_sheet_15 (fun q => absurd q (by decide)) (fun _ => ?_)
        refine ri_ild a_X7_sheet_18 rfl ?_
        refine ri_ic a_X7_sheet_19 ?_
        refine ri_icmp_eq a_X7_sheet_20 (fun _ => ?_) (fun q => absurd q (by decide))
        refine ri_ild a_X7_sheet_32 rfl ?_
        refine ri_ic a_X7_sheet_33 ?_
        refine ri_icmp_eq a_X7_sheet_34 (fun _ => ?_) (fun q => absurd q (by decide))
        refine ri_ald a_X7_sheet_44 rfl ?_
        refine ri_getR (t' := 11) (i' := 0) a_X7_sheet_45 fl_X7_40 kM_0_17 rfl iM_0 (Or.inr ⟨rfl, rfl, rfl⟩) ?_
        refine ri_ild a_X7_sheet_48 rfl ?_
        refine ri_ild a_X7_sheet_49 rfl ?_
        refine ri_iastore a_X7_sheet_50 lM_11 rfl iM_11 (vp_in_nI hq (by decide)) (fun zM3 ezM3 => ?_)
        refine ri_ald a_X7_sheet_51 rfl ?_
        refine ri_getR (t' := 12) (i' := 0) a_X7_sheet_52 fl_X7_43 kM_0_18 rfl iM_0 (Or.inr ⟨rfl, rfl, rfl⟩) ?_
        refine ri_ild a_X7_sheet_55 rfl ?_
        refine ri_ild a_X7_sheet_56 rfl ?_
        refine ri_ic a_X7_sheet_57 ?_
        refine ri_icmp_ne a_X7_sheet_58 (fun q => absurd q (by decide)) (fun _ => ?_)
        refine ri_ic a_X7_sheet_61 ?_
        refine ri_goto a_X7_sheet_62 ?_
        refine ri_iastore a_X7_sheet_66 lM_12 rfl iM_12 (vp_in_nI hq (by decide)) (fun zM4 ezM4 => ?_)
        refine ri_ic a_X7_sheet_67 ?_
        refine ri_istk (ls' := [some (vo 0 0), some (vi (nI q)), some (vi (-1)), some (vi n), some (vi 0)]) a_X7_sheet_68 rfl ?_
        rw [nI_clamp (by omega)] at ezM3 ezM4
        rw [ezM3] at ezM4
        subst ezM4
        refine lr_Wimp (go _) ?_
        rintro r M' ⟨y, h1, h2⟩
        exact ⟨y, h1, by dsimp only; rw [if_pos rfl]; exact h2⟩
      · refine ri_if_eq a_X7_sheet_15 (fun _ => ?_) (fun q => absurd q (by decide))
        refine ri_ic a_X7_sheet_29 ?_
        refine ri_ireturn a_X7_sheet_31 rfl rfl ?_
        exact absurd ⟨by decide, by decide⟩ zc2
    · refine ri_if_eq a_X7_sheet_6 (fun _ => ?_) (fun q => absurd q (by decide))
      refine ri_ic a_X7_sheet_29 ?_
      refine ri_ireturn a_X7_sheet_31 rfl rfl ?_
      exact absurd (s4 hq) zc1
  · skip
    refine ri_ild a_X7_sheet_0 rfl ?_
    refine ri_ic a_X7_sheet_1 ?_
    refine ri_ic a_X7_sheet_2 ?_
    refine ri_cSpb (as := [vi (nI q), vi 0, vi 3]) (rest := []) (d' := d - 1) a_X7_sheet_3 ms_X7_in ml_X7_96 (by omega) (ok_X7_in (nI q) 0 3) (Nat.le_of_ble_eq_true rfl) rfl (fun zc1 => ?_) (fun zc1 => ?_)
    · refine ri_if_eq a_X7_sheet_6 (fun q => absurd q (by decide)) (fun _ => ?_)
      refine ri_ild a_X7_sheet_9 rfl ?_
      refine ri_ic a_X7_sheet_10 ?_
      refine ri_ic a_X7_sheet_11 ?_
      refine ri_cSpb (as := [vi so, vi (-1), vi 2]) (rest := []) (d' := d - 1) a_X7_sheet_12 ms_X7_in ml_X7_96 (by omega) (ok_X7_in so (-1) 2) (Nat.le_of_ble_eq_true rfl) rfl (fun zc2 => ?_) (fun zc2 => ?_)
      · refine ri_if_eq a_X7_sheet_15 (fun q => absurd q (by decide)) (fun _ => ?_)
        refine ri_ild a_X7_sheet_18 rfl ?_
        refine ri_ic a_X7_sheet_19 ?_
        refine ri_icmp_eq a_X7_sheet_20 (fun zc3 => ?_) (fun zc3 => ?_)
        · refine ri_ild a_X7_sheet_32 rfl ?_
          refine ri_ic a_X7_sheet_33 ?_
          refine ri_icmp_eq a_X7_sheet_34 (fun zc4 => ?_) (fun zc4 => ?_)
          · refine ri_ald a_X7_sheet_44 rfl ?_
            refine ri_getR (t' := 11) (i' := 0) a_X7_sheet_45 fl_X7_40 kM_0_17 rfl iM_0 (Or.inr ⟨rfl, rfl, rfl⟩) ?_
            refine ri_ild a_X7_sheet_48 rfl ?_
            refine ri_ild a_X7_sheet_49 rfl ?_
            refine ri_iastore a_X7_sheet_50 lM_11 rfl iM_11 (vp_in_nI hq (by decide)) (fun zM5 ezM5 => ?_)
            refine ri_ald a_X7_sheet_51 rfl ?_
            refine ri_getR (t' := 12) (i' := 0) a_X7_sheet_52 fl_X7_43 kM_0_18 rfl iM_0 (Or.inr ⟨rfl, rfl, rfl⟩) ?_
            refine ri_ild a_X7_sheet_55 rfl ?_
            refine ri_ild a_X7_sheet_56 rfl ?_
            refine ri_ic a_X7_sheet_57 ?_
            refine ri_icmp_ne a_X7_sheet_58 (fun zc6 => ?_) (fun zc6 => ?_)
            · refine ri_ild a_X7_sheet_65 rfl ?_
              refine ri_iastore a_X7_sheet_66 lM_12 rfl iM_12 (vp_in_nI hq (by decide)) (fun zM7 ezM7 => ?_)
              refine ri_ic a_X7_sheet_67 ?_
              refine ri_istk (ls' := [some (vo 0 0), some (vi (nI q)), some (vi so), some (vi n), some (vi 0)]) a_X7_sheet_68 rfl ?_
              exact absurd (by assumption) h1
            · refine ri_ic a_X7_sheet_61 ?_
              refine ri_goto a_X7_sheet_62 ?_
              refine ri_iastore a_X7_sheet_66 lM_12 rfl iM_12 (vp_in_nI hq (by decide)) (fun zM8 ezM8 => ?_)
              refine ri_ic a_X7_sheet_67 ?_
              refine ri_istk (ls' := [some (vo 0 0), some (vi (nI q)), some (vi so), some (vi n), some (vi 0)]) a_X7_sheet_68 rfl ?_
              exact absurd (by assumption) h1
          · refine ri_ild a_X7_sheet_37 rfl ?_
            refine ri_if_ge a_X7_sheet_38 (fun zc9 => ?_) (fun zc9 => ?_)
            · refine ri_ald a_X7_sheet_44 rfl ?_
              refine ri_getR (t' := 11) (i' := 0) a_X7_sheet_45 fl_X7_40 kM_0_17 rfl iM_0 (Or.inr ⟨rfl, rfl, rfl⟩) ?_
              refine ri_ild a_X7_sheet_48 rfl ?_
              refine ri_ild a_X7_sheet_49 rfl ?_
              refine ri_iastore a_X7_sheet_50 lM_11 rfl iM_11 (vp_in_nI hq (by decide)) (fun zM10 ezM10 => ?_)
              refine ri_ald a_X7_sheet_51 rfl ?_
              refine ri_getR (t' := 12) (i' := 0) a_X7_sheet_52 fl_X7_43 kM_0_18 rfl iM_0 (Or.inr ⟨rfl, rfl, rfl⟩) ?_
              refine ri_ild a_X7_sheet_55 rfl ?_
              refine ri_ild a_X7_sheet_56 rfl ?_
              refine ri_ic a_X7_sheet_57 ?_
              refine ri_icmp_ne a_X7_sheet_58 (fun zc11 => ?_) (fun zc11 => ?_)
              · refine ri_ild a_X7_sheet_65 rfl ?_
                refine ri_iastore a_X7_sheet_66 lM_12 rfl iM_12 (vp_in_nI hq (by decide)) (fun zM12 ezM12 => ?_)
                refine ri_ic a_X7_sheet_67 ?_
                refine ri_istk (ls' := [some (vo 0 0), some (vi (nI q)), some (vi so), some (vi n), some (vi 0)]) a_X7_sheet_68 rfl ?_
                exact absurd (by assumption) h1
              · refine ri_ic a_X7_sheet_61 ?_
                refine ri_goto a_X7_sheet_62 ?_
                refine ri_iastore a_X7_sheet_66 lM_12 rfl iM_12 (vp_in_nI hq (by decide)) (fun zM13 ezM13 => ?_)
                refine ri_ic a_X7_sheet_67 ?_
                refine ri_istk (ls' := [some (vo 0 0), some (vi (nI q)), some (vi so), some (vi n), some (vi 0)]) a_X7_sheet_68 rfl ?_
                exact absurd (by assumption) h1
            · refine ri_ic a_X7_sheet_41 ?_
              refine ri_ireturn a_X7_sheet_43 rfl rfl ?_
              exact absurd (by assumption) h1
        · refine ri_ild a_X7_sheet_23 rfl ?_
          refine ri_ic a_X7_sheet_24 ?_
          refine ri_icmp_le a_X7_sheet_26 (fun zc14 => ?_) (fun zc14 => ?_)
          · refine ri_ild a_X7_sheet_32 rfl ?_
            refine ri_ic a_X7_sheet_33 ?_
            refine ri_icmp_eq a_X7_sheet_34 (fun zc15 => ?_) (fun zc15 => ?_)
            · refine ri_ald a_X7_sheet_44 rfl ?_
              refine ri_getR (t' := 11) (i' := 0) a_X7_sheet_45 fl_X7_40 kM_0_17 rfl iM_0 (Or.inr ⟨rfl, rfl, rfl⟩) ?_
              refine ri_ild a_X7_sheet_48 rfl ?_
              refine ri_ild a_X7_sheet_49 rfl ?_
              refine ri_iastore a_X7_sheet_50 lM_11 rfl iM_11 (vp_in_nI hq (by decide)) (fun zM16 ezM16 => ?_)
              refine ri_ald a_X7_sheet_51 rfl ?_
              refine ri_getR (t' := 12) (i' := 0) a_X7_sheet_52 fl_X7_43 kM_0_18 rfl iM_0 (Or.inr ⟨rfl, rfl, rfl⟩) ?_
              refine ri_ild a_X7_sheet_55 rfl ?_
              refine ri_ild a_X7_sheet_56 rfl ?_
              refine ri_ic a_X7_sheet_57 ?_
              refine ri_icmp_ne a_X7_sheet_58 (fun zc17 => ?_) (fun zc17 => ?_)
              · refine ri_ild a_X7_sheet_65 rfl ?_
                refine ri_iastore a_X7_sheet_66 lM_12 rfl iM_12 (vp_in_nI hq (by decide)) (fun zM18 ezM18 => ?_)
                refine ri_ic a_X7_sheet_67 ?_
                refine ri_istk (ls' := [some (vo 0 0), some (vi (nI q)), some (vi so), some (vi n), some (vi 0)]) a_X7_sheet_68 rfl ?_
                exact absurd (by assumption) h1
              · refine ri_ic a_X7_sheet_61 ?_
                refine ri_goto a_X7_sheet_62 ?_
                refine ri_iastore a_X7_sheet_66 lM_12 rfl iM_12 (vp_in_nI hq (by decide)) (fun zM19 ezM19 => ?_)
                refine ri_ic a_X7_sheet_67 ?_
                refine ri_istk (ls' := [some (vo 0 0), some (vi (nI q)), some (vi so), some (vi n), some (vi 0)]) a_X7_sheet_68 rfl ?_
                exact absurd (by assumption) h1
            · refine ri_ild a_X7_sheet_37 rfl ?_
              refine ri_if_ge a_X7_sheet_38 (fun zc20 => ?_) (fun zc20 => ?_)
              · refine ri_ald a_X7_sheet_44 rfl ?_
                refine ri_getR (t' := 11) (i' := 0) a_X7_sheet_45 fl_X7_40 kM_0_17 rfl iM_0 (Or.inr ⟨rfl, rfl, rfl⟩) ?_
                refine ri_ild a_X7_sheet_48 rfl ?_
                refine ri_ild a_X7_sheet_49 rfl ?_
                refine ri_iastore a_X7_sheet_50 lM_11 rfl iM_11 (vp_in_nI hq (by decide)) (fun zM21 ezM21 => ?_)
                refine ri_ald a_X7_sheet_51 rfl ?_
                refine ri_getR (t' := 12) (i' := 0) a_X7_sheet_52 fl_X7_43 kM_0_18 rfl iM_0 (Or.inr ⟨rfl, rfl, rfl⟩) ?_
                refine ri_ild a_X7_sheet_55 rfl ?_
                refine ri_ild a_X7_sheet_56 rfl ?_
                refine ri_ic a_X7_sheet_57 ?_
                refine ri_icmp_ne a_X7_sheet_58 (fun zc22 => ?_) (fun zc22 => ?_)
                · refine ri_ild a_X7_sheet_65 rfl ?_
                  refine ri_iastore a_X7_sheet_66 lM_12 rfl iM_12 (vp_in_nI hq (by decide)) (fun zM23 ezM23 => ?_)
                  refine ri_ic a_X7_sheet_67 ?_
                  refine ri_istk (ls' := [some (vo 0 0), some (vi (nI q)), some (vi so), some (vi n), some (vi 0)]) a_X7_sheet_68 rfl ?_
                  have hso := in12.1 ⟨zc2, h1⟩
                  rw [nI_clamp (by omega)] at ezM21 ezM23
                  rw [ezM21] at ezM23
                  subst ezM23
                  refine lr_Wimp (go _) ?_
                  rintro r M' ⟨y, q1, q2⟩
                  exact ⟨y, q1, by dsimp only; rw [if_neg h1, if_pos ⟨hso, zc14⟩, if_neg (Int32.not_lt.mpr zc20)]; exact q2⟩
                · refine ri_ic a_X7_sheet_61 ?_
                  refine ri_goto a_X7_sheet_62 ?_
                  refine ri_iastore a_X7_sheet_66 lM_12 rfl iM_12 (vp_in_nI hq (by decide)) (fun zM24 ezM24 => ?_)
                  refine ri_ic a_X7_sheet_67 ?_
                  refine ri_istk (ls' := [some (vo 0 0), some (vi (nI q)), some (vi so), some (vi n), some (vi 0)]) a_X7_sheet_68 rfl ?_
                  exact absurd (by assumption) h1
              · refine ri_ic a_X7_sheet_41 ?_
                refine ri_ireturn a_X7_sheet_43 rfl rfl ?_
                have hso := in12.1 ⟨zc2, h1⟩
                exact rX (by rw [if_neg h1, if_pos ⟨hso, zc14⟩, if_pos (Int32.not_le.mp zc20)]; exact ⟨rfl, rfl⟩)
          · refine ri_ic a_X7_sheet_29 ?_
            refine ri_ireturn a_X7_sheet_31 rfl rfl ?_
            exact rX (by rw [if_neg h1, if_neg (fun z => zc14 z.2)]; exact ⟨rfl, rfl⟩)
      · refine ri_if_eq a_X7_sheet_15 (fun _ => ?_) (fun q => absurd q (by decide))
        refine ri_ic a_X7_sheet_29 ?_
        refine ri_ireturn a_X7_sheet_31 rfl rfl ?_
        exact rX (by rw [if_neg h1, if_neg (fun z => zc2 (in12.2 z.1).1)]; exact ⟨rfl, rfl⟩)
    · refine ri_if_eq a_X7_sheet_6 (fun _ => ?_) (fun q => absurd q (by decide))
      refine ri_ic a_X7_sheet_29 ?_
      refine ri_ireturn a_X7_sheet_31 rfl rfl ?_
      exact absurd (s4 hq) zc1
theorem no_X7_sheet {w : Wd} {d : Nat} (hd : 1 ≤ d) {N : Mem} {s : Int32} (hs : ¬ (0 ≤ s ∧ s ≤ 3)) (so n : Int32) : lr_Ok tM sM w d jX7_sheet [vo 0 0, vi s, vi so, vi n] N (qI (-2) N) := by
  refine lr_ok (by decide +kernel) rfl ?_
  refine ri_ild a_X7_sheet_0 rfl ?_
  refine ri_ic a_X7_sheet_1 ?_
  refine ri_ic a_X7_sheet_2 ?_
  refine ri_cSpb (as := [vi s, vi 0, vi 3]) (rest := []) (d' := d - 1) a_X7_sheet_3 ms_X7_in ml_X7_96 (by omega) (ok_X7_in s 0 3) (Nat.le_of_ble_eq_true rfl) rfl (fun zc1 => ?_) (fun zc1 => ?_)
  · refine ri_if_eq a_X7_sheet_6 (fun q => absurd q (by decide)) (fun _ => ?_)
    exact absurd zc1 hs
  · refine ri_if_eq a_X7_sheet_6 (fun _ => ?_) (fun q => absurd q (by decide))
    refine ri_ic a_X7_sheet_29 ?_
    refine ri_ireturn a_X7_sheet_31 rfl rfl ?_
    exact rI rfl rfl
theorem ok_X7_cell {w : Wd} {d : Nat} (hd : 1 ≤ d) {N : Mem} {q m : Nat} (hq : q < 4) (hm : N 12 0 q = nI m) (hm40 : m ≤ 40) (i v : Int32) : lr_Ok tM sM w d jX7_cell [vo 0 0, vi (nI q), vi i, vi v] N (qX fun r N' => if N 11 0 q = -1 then r = -11 ∧ N' = N else if 0 ≤ i ∧ i < nI m then r = 1 ∧ N' = up N 13 0 (40 * q + i.toNatClampNeg) (narV (N 11 0 q) v) else r = -12 ∧ N' = N) := by
  have eq : (nI q).toNatClampNeg = q := nI_clamp (by omega)
  have e12 : N 12 0 (nI q).toNatClampNeg = nI m := by rw [eq]; exact hm
  refine lr_ok (by decide +kernel) rfl ?_
  refine ri_ild a_X7_cell_0 rfl ?_
  refine ri_ic a_X7_cell_1 ?_
  refine ri_ic a_X7_cell_2 ?_
  refine ri_cSpb (as := [vi (nI q), vi 0, vi 3]) (rest := []) (d' := d - 1) a_X7_cell_3 ms_X7_in ml_X7_96 (by omega) (ok_X7_in (nI q) 0 3) (Nat.le_of_ble_eq_true rfl) rfl (fun zc1 => ?_) (fun zc1 => ?_)
  · refine ri_if_ne a_X7_cell_6 (fun _ => ?_) (fun q => absurd q (by decide))
    refine ri_ald a_X7_cell_12 rfl ?_
    refine ri_getR (t' := 11) (i' := 0) a_X7_cell_13 fl_X7_40 kM_0_17 rfl iM_0 (Or.inr ⟨rfl, rfl, rfl⟩) ?_
    refine ri_ild a_X7_cell_16 rfl ?_
    refine ri_iaload a_X7_cell_17 lM_11 rfl iM_11 (vp_in_nI hq (by decide)) ?_
    refine ri_ic a_X7_cell_18 ?_
    refine ri_icmp_ne a_X7_cell_19 (fun zc2 => ?_) (fun zc2 => ?_)
    · refine ri_ild a_X7_cell_25 rfl ?_
      refine ri_ic a_X7_cell_26 ?_
      refine ri_ald a_X7_cell_27 rfl ?_
      refine ri_getR (t' := 12) (i' := 0) a_X7_cell_28 fl_X7_43 kM_0_18 rfl iM_0 (Or.inr ⟨rfl, rfl, rfl⟩) ?_
      refine ri_ild a_X7_cell_31 rfl ?_
      refine ri_iaload a_X7_cell_32 lM_12 rfl iM_12 (vp_in_nI hq (by decide)) ?_
      refine ri_ic a_X7_cell_33 ?_
      refine ri_isub a_X7_cell_34 ?_
      refine ri_cSpb (as := [vi i, vi 0, vi ((N 12 0 (nI q).toNatClampNeg) - 1)]) (rest := []) (d' := d - 1) a_X7_cell_35 ms_X7_in ml_X7_96 (by omega) (ok_X7_in i 0 ((N 12 0 (nI q).toNatClampNeg) - 1)) (Nat.le_of_ble_eq_true rfl) rfl (fun zc3 => ?_) (fun zc3 => ?_)
      · refine ri_if_ne a_X7_cell_38 (fun _ => ?_) (fun q => absurd q (by decide))
        rw [eq] at zc2
        rw [e12, leP (by omega)] at zc3
        obtain ⟨z, rfl, hz⟩ : ∃ z, i = nI z ∧ z < m := by
          obtain ⟨z, hz, rfl⟩ := nI_of (Int32.not_lt.mpr zc3.1)
          exact ⟨z, rfl, (nI_ltI hz (by omega)).1 zc3.2⟩
        refine ri_ald a_X7_cell_44 rfl ?_
        refine ri_getR (t' := 13) (i' := 0) a_X7_cell_45 fl_X7_46 kM_0_19 rfl iM_0 (Or.inr ⟨rfl, rfl, rfl⟩) ?_
        refine ri_ic a_X7_cell_48 ?_
        refine ri_ild a_X7_cell_50 rfl ?_
        refine ri_imul a_X7_cell_51 ?_
        refine ri_ild a_X7_cell_52 rfl ?_
        refine ri_iadd a_X7_cell_53 ?_
        refine ri_ald a_X7_cell_54 rfl ?_
        refine ri_getR (t' := 11) (i' := 0) a_X7_cell_55 fl_X7_40 kM_0_17 rfl iM_0 (Or.inr ⟨rfl, rfl, rfl⟩) ?_
        refine ri_ild a_X7_cell_58 rfl ?_
        refine ri_iaload a_X7_cell_59 lM_11 rfl iM_11 (vp_in_nI hq (by decide)) ?_
        refine ri_if_ne a_X7_cell_60 (fun zc11 => ?_) (fun zc11 => ?_)
        · refine ri_ald a_X7_cell_68 rfl ?_
          refine ri_getR (t' := 11) (i' := 0) a_X7_cell_69 fl_X7_40 kM_0_17 rfl iM_0 (Or.inr ⟨rfl, rfl, rfl⟩) ?_
          refine ri_ild a_X7_cell_72 rfl ?_
          refine ri_iaload a_X7_cell_73 lM_11 rfl iM_11 (vp_in_nI hq (by decide)) ?_
          refine ri_ic a_X7_cell_74 ?_
          refine ri_icmp_ne a_X7_cell_75 (fun zc12 => ?_) (fun zc12 => ?_)
          · refine ri_ild a_X7_cell_83 rfl ?_
            refine ri_iastore a_X7_cell_84 lM_13 rfl iM_13 (by rw [nI_40a]; exact vp_in_nI (by omega) (by decide)) (fun zM13 ezM13 => ?_)
            refine ri_ic a_X7_cell_85 ?_
            refine ri_ireturn a_X7_cell_86 rfl rfl ?_
            rw [nI_40a, nI_clamp (by omega)] at *
            rw [eq] at *
            refine rX ?_
            rw [if_neg zc2, if_pos zc3]
            refine ⟨rfl, ?_⟩
            subst_vars
            unfold narV
            simp only [*, if_true, if_false]
          · refine ri_ild a_X7_cell_78 rfl ?_
            refine ri_i2s a_X7_cell_79 ?_
            refine ri_goto a_X7_cell_80 ?_
            refine ri_iastore a_X7_cell_84 lM_13 rfl iM_13 (by rw [nI_40a]; exact vp_in_nI (by omega) (by decide)) (fun zM14 ezM14 => ?_)
            refine ri_ic a_X7_cell_85 ?_
            refine ri_ireturn a_X7_cell_86 rfl rfl ?_
            rw [nI_40a, nI_clamp (by omega)] at *
            rw [eq] at *
            refine rX ?_
            rw [if_neg zc2, if_pos zc3]
            refine ⟨rfl, ?_⟩
            subst_vars
            unfold narV
            simp only [*, if_true, if_false]
        · refine ri_ild a_X7_cell_63 rfl ?_
          refine ri_i2b a_X7_cell_64 ?_
          refine ri_goto a_X7_cell_65 ?_
          refine ri_iastore a_X7_cell_84 lM_13 rfl iM_13 (by rw [nI_40a]; exact vp_in_nI (by omega) (by decide)) (fun zM15 ezM15 => ?_)
          refine ri_ic a_X7_cell_85 ?_
          refine ri_ireturn a_X7_cell_86 rfl rfl ?_
          rw [nI_40a, nI_clamp (by omega)] at *
          rw [eq] at *
          refine rX ?_
          rw [if_neg zc2, if_pos zc3]
          refine ⟨rfl, ?_⟩
          subst_vars
          unfold narV
          simp only [*, if_true, if_false]
      · refine ri_if_ne a_X7_cell_38 (fun q => absurd q (by decide)) (fun _ => ?_)
        refine ri_ic a_X7_cell_41 ?_
        refine ri_ireturn a_X7_cell_43 rfl rfl ?_
        rw [eq] at zc2
        rw [e12, leP (by omega)] at zc3
        exact rX (by rw [if_neg zc2, if_neg zc3]; exact ⟨rfl, rfl⟩)
    · refine ri_ic a_X7_cell_22 ?_
      refine ri_ireturn a_X7_cell_24 rfl rfl ?_
      rw [eq] at zc2
      exact rX (by rw [if_pos zc2]; exact ⟨rfl, rfl⟩)
  · refine ri_if_ne a_X7_cell_6 (fun q => absurd q (by decide)) (fun _ => ?_)
    refine ri_ic a_X7_cell_9 ?_
    refine ri_ireturn a_X7_cell_11 rfl rfl ?_
    exact absurd (s4 hq) zc1
theorem no_X7_cell {w : Wd} {d : Nat} (hd : 1 ≤ d) {N : Mem} {s : Int32} (hs : ¬ (0 ≤ s ∧ s ≤ 3)) (i v : Int32) : lr_Ok tM sM w d jX7_cell [vo 0 0, vi s, vi i, vi v] N (qI (-2) N) := by
  refine lr_ok (by decide +kernel) rfl ?_
  refine ri_ild a_X7_cell_0 rfl ?_
  refine ri_ic a_X7_cell_1 ?_
  refine ri_ic a_X7_cell_2 ?_
  refine ri_cSpb (as := [vi s, vi 0, vi 3]) (rest := []) (d' := d - 1) a_X7_cell_3 ms_X7_in ml_X7_96 (by omega) (ok_X7_in s 0 3) (Nat.le_of_ble_eq_true rfl) rfl (fun zc1 => ?_) (fun zc1 => ?_)
  · refine ri_if_ne a_X7_cell_6 (fun _ => ?_) (fun q => absurd q (by decide))
    exact absurd zc1 hs
  · refine ri_if_ne a_X7_cell_6 (fun q => absurd q (by decide)) (fun _ => ?_)
    refine ri_ic a_X7_cell_9 ?_
    refine ri_ireturn a_X7_cell_11 rfl rfl ?_
    exact rI rfl rfl
def takG (f kd : Nat → Int32) (P : Int32) (k : Nat) (i kind : Int32) : Int32 :=
  if ¬ (0 ≤ kind ∧ kind ≤ 6) then -2 else if ¬ (0 ≤ i ∧ i ≤ 15) then -12 else
  if ¬ (0 ≤ i - i / 8 * 8 ∧ i - i / 8 * 8 < P) then -11 else
  if 8 ≤ i then (if kind = 6 then (if fnd f (i - i / 8 * 8) k 0 = -1 then 0 else 1) else -13) else
  if ¬ kind = 6 ∧ (kind = 0 ∨ kind = kd (i - i / 8 * 8).toNatClampNeg ∨ kind = kiA (kd (i - i / 8 * 8).toNatClampNeg)) then i - i / 8 * 8 else -13
theorem tkz : ∀ z, z ≤ 15 → 0 ≤ nI z - nI z / 8 * 8 ∧ (8 ≤ nI z → nI z - nI z / 8 * 8 = nI z - 8) ∧ (¬ 8 ≤ nI z → nI z - nI z / 8 * 8 = nI z ∧ z < 8) := by decide +kernel
theorem ok_X7_taken {w : Wd} {d : Nat} (hd : 1 ≤ d) {N : Mem} {n k : Nat} (hn : N 0 0 0 = nI n) (hn8 : n ≤ 8) (hk : N 0 0 6 = nI k) (hk8 : k ≤ 8) (i kind : Int32) : lr_Ok tM sM w d jX7_taken [vo 0 0, vi i, vi kind] N (qI (takG (N 5 0) (N 1 0) (nI n) k i kind) N) := by
  have t1 : (0 ≤ i ∧ i ≤ 15) → 0 ≤ i - i / 8 * 8 ∧ (8 ≤ i → i - i / 8 * 8 = i - 8) ∧ (¬ 8 ≤ i → i - i / 8 * 8 = i ∧ vp_in i 8) := fun h => by
    obtain ⟨z, hz, rfl⟩ := nI_of2 (n := 15) (M := 15) (by decide) (Int32.not_lt.mpr h.1) h.2
    obtain ⟨a, b, c⟩ := tkz z hz
    exact ⟨a, b, fun q => ⟨(c q).1, vp_in_nI (c q).2 (by decide)⟩⟩
  have k6 : (0 ≤ kind ∧ kind ≤ 6) → 6 ≤ kind → kind = 6 := fun h1 h2 => by
    rw [Int32.le_iff_toInt_le] at h2
    have h3 := h1.2
    rw [Int32.le_iff_toInt_le] at h3
    exact Int32.toInt_inj.mp (by omega)
  unfold takG
  refine lr_ok (by decide +kernel) rfl ?_
  refine ri_ild a_X7_taken_0 rfl ?_
  refine ri_ic a_X7_taken_1 ?_
  refine ri_ic a_X7_taken_2 ?_
  refine ri_cSpb (as := [vi kind, vi 0, vi 6]) (rest := []) (d' := d - 1) a_X7_taken_4 ms_X7_in ml_X7_96 (by omega) (ok_X7_in kind 0 6) (Nat.le_of_ble_eq_true rfl) rfl (fun zc1 => ?_) (fun zc1 => ?_)
  · refine ri_if_ne a_X7_taken_7 (fun _ => ?_) (fun q => absurd q (by decide))
    refine ri_ild a_X7_taken_13 rfl ?_
    refine ri_ic a_X7_taken_14 ?_
    refine ri_ic a_X7_taken_15 ?_
    refine ri_cSpb (as := [vi i, vi 0, vi 15]) (rest := []) (d' := d - 1) a_X7_taken_17 ms_X7_in ml_X7_96 (by omega) (ok_X7_in i 0 15) (Nat.le_of_ble_eq_true rfl) rfl (fun zc2 => ?_) (fun zc2 => ?_)
    · refine ri_if_ne a_X7_taken_20 (fun _ => ?_) (fun q => absurd q (by decide))
      refine ri_ild a_X7_taken_26 rfl ?_
      refine ri_ic a_X7_taken_27 ?_
      refine ri_irem a_X7_taken_29 (by decide) ?_
      refine ri_ald a_X7_taken_30 rfl ?_
      refine ri_getI a_X7_taken_31 fl_X7_93 kM_0_0 rfl iM_0 ?_
      refine ri_icmp_lt a_X7_taken_34 (fun zc3 => ?_) (fun zc3 => ?_)
      · refine ri_ild a_X7_taken_40 rfl ?_
        refine ri_ic a_X7_taken_41 ?_
        refine ri_icmp_lt a_X7_taken_43 (fun zc4 => ?_) (fun zc4 => ?_)
        · refine ri_ild a_X7_taken_75 rfl ?_
          refine ri_ic a_X7_taken_76 ?_
          refine ri_icmp_ge a_X7_taken_78 (fun zc5 => ?_) (fun zc5 => ?_)
          · refine ri_ic a_X7_taken_98 ?_
            refine ri_ireturn a_X7_taken_100 rfl rfl ?_
            rw [hn] at zc3
            obtain ⟨a, b, c⟩ := t1 zc2
            have h8 := Int32.not_le.mpr zc4
            exact rI (by rw [if_neg (not_not_intro zc1), if_neg (not_not_intro zc2), if_neg (not_not_intro ⟨a, zc3⟩), if_neg h8, if_neg (fun z => z.1 (k6 zc1 zc5))]) rfl
          · refine ri_ald a_X7_taken_81 rfl ?_
            refine ri_getR (t' := 1) (i' := 0) a_X7_taken_82 fl_X7_7 kM_0_1 rfl iM_0 (Or.inr ⟨rfl, rfl, rfl⟩) ?_
            refine ri_ild a_X7_taken_85 rfl ?_
            refine ri_iaload a_X7_taken_86 lM_1 rfl iM_1 ?_ ?_
            · exact ((t1 zc2).2.2 (Int32.not_le.mpr zc4)).2
            refine ri_ild a_X7_taken_87 rfl ?_
            refine ri_cSpb (as := [vi (N 1 0 i.toNatClampNeg), vi kind]) (rest := []) (d' := d - 1) a_X7_taken_88 ms_X7_isUnder ml_X7_275 (by omega) (ok_X7_isUnder (N 1 0 i.toNatClampNeg) kind) (Nat.le_of_ble_eq_true rfl) rfl (fun zc6 => ?_) (fun zc6 => ?_)
            · refine ri_if_eq a_X7_taken_91 (fun q => absurd q (by decide)) (fun _ => ?_)
              refine ri_ild a_X7_taken_94 rfl ?_
              refine ri_goto a_X7_taken_95 ?_
              refine ri_ireturn a_X7_taken_100 rfl rfl ?_
              rw [hn] at zc3
              obtain ⟨a, b, c⟩ := t1 zc2
              have h8 := Int32.not_le.mpr zc4
              have h6 : ¬ kind = 6 := fun z => zc5 (by rw [z]; decide)
              exact rI (by rw [if_neg (not_not_intro zc1), if_neg (not_not_intro zc2), if_neg (not_not_intro ⟨a, zc3⟩), if_neg h8, (c h8).1, if_pos ⟨h6, zc6⟩]) rfl
            · refine ri_if_eq a_X7_taken_91 (fun _ => ?_) (fun q => absurd q (by decide))
              refine ri_ic a_X7_taken_98 ?_
              refine ri_ireturn a_X7_taken_100 rfl rfl ?_
              rw [hn] at zc3
              obtain ⟨a, b, c⟩ := t1 zc2
              have h8 := Int32.not_le.mpr zc4
              exact rI (by rw [if_neg (not_not_intro zc1), if_neg (not_not_intro zc2), if_neg (not_not_intro ⟨a, zc3⟩), if_neg h8, (c h8).1, if_neg (fun z => zc6 z.2)]) rfl
        · refine ri_ild a_X7_taken_46 rfl ?_
          refine ri_ic a_X7_taken_47 ?_
          refine ri_icmp_ne a_X7_taken_49 (fun zc7 => ?_) (fun zc7 => ?_)
          · refine ri_ic a_X7_taken_72 ?_
            refine ri_ireturn a_X7_taken_74 rfl rfl ?_
            rw [hn] at zc3
            obtain ⟨a, b, c⟩ := t1 zc2
            exact rI (by rw [if_neg (not_not_intro zc1), if_neg (not_not_intro zc2), if_neg (not_not_intro ⟨a, zc3⟩), if_pos (Int32.not_lt.mp zc4), if_neg zc7]) rfl
          · refine ri_ald a_X7_taken_52 rfl ?_
            refine ri_ild a_X7_taken_53 rfl ?_
            refine ri_ic a_X7_taken_54 ?_
            refine ri_isub a_X7_taken_56 ?_
            refine ri_cVpi (as := [vi (i - 8)]) (rest := []) (d' := d - 1) a_X7_taken_57 mv_X7_aheadOf ml_X7_189 (rcM_0 iM_0) (by omega) (ok_X7_aheadOf (i - 8) hk hk8) (Nat.le_of_ble_eq_true rfl) rfl (fun zy8 ezy8 => ?_)
            refine ri_ic a_X7_taken_60 ?_
            refine ri_icmp_ne a_X7_taken_61 (fun zc9 => ?_) (fun zc9 => ?_)
            · refine ri_ic a_X7_taken_68 ?_
              refine ri_goto a_X7_taken_69 ?_
              refine ri_ireturn a_X7_taken_74 rfl rfl ?_
              rw [hn] at zc3
              obtain ⟨a, b, c⟩ := t1 zc2
              have h8 := Int32.not_lt.mp zc4
              exact rI (by rw [if_neg (not_not_intro zc1), if_neg (not_not_intro zc2), if_neg (not_not_intro ⟨a, zc3⟩), if_pos h8, if_pos zc7, b h8, if_neg (fun z => zc9 (ezy8.trans z))]) rfl
            · refine ri_ic a_X7_taken_64 ?_
              refine ri_goto a_X7_taken_65 ?_
              refine ri_ireturn a_X7_taken_74 rfl rfl ?_
              rw [hn] at zc3
              obtain ⟨a, b, c⟩ := t1 zc2
              have h8 := Int32.not_lt.mp zc4
              exact rI (by rw [if_neg (not_not_intro zc1), if_neg (not_not_intro zc2), if_neg (not_not_intro ⟨a, zc3⟩), if_pos h8, if_pos zc7, b h8, if_pos (ezy8.symm.trans zc9)]) rfl
      · refine ri_ic a_X7_taken_37 ?_
        refine ri_ireturn a_X7_taken_39 rfl rfl ?_
        rw [hn] at zc3
        exact rI (by rw [if_neg (not_not_intro zc1), if_neg (not_not_intro zc2), if_pos (fun z => zc3 z.2)]) rfl
    · refine ri_if_ne a_X7_taken_20 (fun q => absurd q (by decide)) (fun _ => ?_)
      refine ri_ic a_X7_taken_23 ?_
      refine ri_ireturn a_X7_taken_25 rfl rfl ?_
      exact rI (by rw [if_neg (not_not_intro zc1), if_pos zc2]) rfl
  · refine ri_if_ne a_X7_taken_7 (fun q => absurd q (by decide)) (fun _ => ?_)
    refine ri_ic a_X7_taken_10 ?_
    refine ri_ireturn a_X7_taken_12 rfl rfl ?_
    exact rI (by rw [if_pos zc1]) rfl

